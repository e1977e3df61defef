section
-- ===== PART A: goes FIRST, ahead of the names: the tables' words, and 'selects' of the private methods out of them =====
/-- a private method of a class that the tables say can be made, by its rows of tables_1 -/
def lw_okq (q : MethodName × Nat) : Prop := (q.1.cls ≠ "java/lang/invoke/MethodHandle" ∧ q.1.cls ≠ "java/lang/invoke/VarHandle") ∧ Cond.instantiable q.1.cls q.2 ∈ tables_1 ∧ Cond.privateMethod q.1 ∈ tables_1 ∧ Cond.instanceMethod q.1 ∈ tables_1
theorem lw_p0 : lw_okq (⟨"MendDesk", "spreadNow", "()I"⟩, 4) := ⟨⟨by decide +kernel, by decide +kernel⟩, List.mem_of_getElem? (i := 19) (by decide +kernel), List.mem_of_getElem? (i := 403) (by decide +kernel), List.mem_of_getElem? (i := 404) (by decide +kernel)⟩
theorem lw_p1 : lw_okq (⟨"MendDesk$Spread", "findStanding", "([II)V"⟩, 7) := ⟨⟨by decide +kernel, by decide +kernel⟩, List.mem_of_getElem? (i := 73) (by decide +kernel), List.mem_of_getElem? (i := 411) (by decide +kernel), List.mem_of_getElem? (i := 412) (by decide +kernel)⟩
theorem lw_p2 : lw_okq (⟨"MendDesk$Spread", "takeStep", "(I)I"⟩, 7) := ⟨⟨by decide +kernel, by decide +kernel⟩, List.mem_of_getElem? (i := 73) (by decide +kernel), List.mem_of_getElem? (i := 420) (by decide +kernel), List.mem_of_getElem? (i := 421) (by decide +kernel)⟩
theorem lw_p3 : lw_okq (⟨"MendDesk$Spread", "isReached", "(I)Z"⟩, 7) := ⟨⟨by decide +kernel, by decide +kernel⟩, List.mem_of_getElem? (i := 73) (by decide +kernel), List.mem_of_getElem? (i := 436) (by decide +kernel), List.mem_of_getElem? (i := 437) (by decide +kernel)⟩
theorem lw_p4 : lw_okq (⟨"MendDesk$Spread", "sumOfWorths", "()I"⟩, 7) := ⟨⟨by decide +kernel, by decide +kernel⟩, List.mem_of_getElem? (i := 73) (by decide +kernel), List.mem_of_getElem? (i := 443) (by decide +kernel), List.mem_of_getElem? (i := 444) (by decide +kernel)⟩
theorem lw_p5 : lw_okq (⟨"MendDesk$Mends", "fillVersions", "(I)V"⟩, 7) := ⟨⟨by decide +kernel, by decide +kernel⟩, List.mem_of_getElem? (i := 106) (by decide +kernel), List.mem_of_getElem? (i := 545) (by decide +kernel), List.mem_of_getElem? (i := 546) (by decide +kernel)⟩
theorem lw_p6 : lw_okq (⟨"MendDesk$Mends", "hasAllNeeds", "(I)Z"⟩, 7) := ⟨⟨by decide +kernel, by decide +kernel⟩, List.mem_of_getElem? (i := 106) (by decide +kernel), List.mem_of_getElem? (i := 565) (by decide +kernel), List.mem_of_getElem? (i := 566) (by decide +kernel)⟩
theorem lw_p7 : lw_okq (⟨"MendDesk$Planner", "findAllowed", "(I)V"⟩, 9) := ⟨⟨by decide +kernel, by decide +kernel⟩, List.mem_of_getElem? (i := 141) (by decide +kernel), List.mem_of_getElem? (i := 594) (by decide +kernel), List.mem_of_getElem? (i := 595) (by decide +kernel)⟩
theorem lw_p8 : lw_okq (⟨"MendDesk$Planner", "handsOf", "(I)I"⟩, 9) := ⟨⟨by decide +kernel, by decide +kernel⟩, List.mem_of_getElem? (i := 141) (by decide +kernel), List.mem_of_getElem? (i := 601) (by decide +kernel), List.mem_of_getElem? (i := 602) (by decide +kernel)⟩
theorem lw_p9 : lw_okq (⟨"MendDesk$Planner", "bestSet", "(II)I"⟩, 9) := ⟨⟨by decide +kernel, by decide +kernel⟩, List.mem_of_getElem? (i := 141) (by decide +kernel), List.mem_of_getElem? (i := 613) (by decide +kernel), List.mem_of_getElem? (i := 614) (by decide +kernel)⟩
theorem lw_p10 : lw_okq (⟨"MendDesk$Planner", "putInWeek", "(II)V"⟩, 9) := ⟨⟨by decide +kernel, by decide +kernel⟩, List.mem_of_getElem? (i := 141) (by decide +kernel), List.mem_of_getElem? (i := 621) (by decide +kernel), List.mem_of_getElem? (i := 622) (by decide +kernel)⟩
theorem lw_p11 : lw_okq (⟨"MendDeskModel", "isPart", "(I)Z"⟩, 33) := ⟨⟨by decide +kernel, by decide +kernel⟩, List.mem_of_getElem? (i := 659) (by decide +kernel), List.mem_of_getElem? (i := 779) (by decide +kernel), List.mem_of_getElem? (i := 780) (by decide +kernel)⟩
theorem lw_p12 : lw_okq (⟨"MendDeskModel", "isSpan", "(III)Z"⟩, 33) := ⟨⟨by decide +kernel, by decide +kernel⟩, List.mem_of_getElem? (i := 659) (by decide +kernel), List.mem_of_getElem? (i := 795) (by decide +kernel), List.mem_of_getElem? (i := 796) (by decide +kernel)⟩
theorem lw_p13 : lw_okq (⟨"MendDeskModel", "add", "(IIIII)I"⟩, 33) := ⟨⟨by decide +kernel, by decide +kernel⟩, List.mem_of_getElem? (i := 659) (by decide +kernel), List.mem_of_getElem? (i := 799) (by decide +kernel), List.mem_of_getElem? (i := 800) (by decide +kernel)⟩
theorem lw_p14 : lw_okq (⟨"MendDeskModel", "isHole", "(I)Z"⟩, 33) := ⟨⟨by decide +kernel, by decide +kernel⟩, List.mem_of_getElem? (i := 659) (by decide +kernel), List.mem_of_getElem? (i := 807) (by decide +kernel), List.mem_of_getElem? (i := 808) (by decide +kernel)⟩
theorem lw_p15 : lw_okq (⟨"MendDeskModel", "takeVersions", "(I)V"⟩, 33) := ⟨⟨by decide +kernel, by decide +kernel⟩, List.mem_of_getElem? (i := 659) (by decide +kernel), List.mem_of_getElem? (i := 823) (by decide +kernel), List.mem_of_getElem? (i := 824) (by decide +kernel)⟩
def lw_privs_1 : List (MethodName × Nat) := [(⟨"MendDesk", "spreadNow", "()I"⟩, 4), (⟨"MendDesk$Spread", "findStanding", "([II)V"⟩, 7), (⟨"MendDesk$Spread", "takeStep", "(I)I"⟩, 7), (⟨"MendDesk$Spread", "isReached", "(I)Z"⟩, 7), (⟨"MendDesk$Spread", "sumOfWorths", "()I"⟩, 7), (⟨"MendDesk$Mends", "fillVersions", "(I)V"⟩, 7), (⟨"MendDesk$Mends", "hasAllNeeds", "(I)Z"⟩, 7), (⟨"MendDesk$Planner", "findAllowed", "(I)V"⟩, 9), (⟨"MendDesk$Planner", "handsOf", "(I)I"⟩, 9), (⟨"MendDesk$Planner", "bestSet", "(II)I"⟩, 9), (⟨"MendDesk$Planner", "putInWeek", "(II)V"⟩, 9), (⟨"MendDeskModel", "isPart", "(I)Z"⟩, 33), (⟨"MendDeskModel", "isSpan", "(III)Z"⟩, 33), (⟨"MendDeskModel", "add", "(IIIII)I"⟩, 33), (⟨"MendDeskModel", "isHole", "(I)Z"⟩, 33), (⟨"MendDeskModel", "takeVersions", "(I)V"⟩, 33)]
theorem lw_r1 : ∀ q ∈ lw_privs_1, lw_okq q := List.forall_mem_cons.mpr ⟨lw_p0, List.forall_mem_cons.mpr ⟨lw_p1, List.forall_mem_cons.mpr ⟨lw_p2, List.forall_mem_cons.mpr ⟨lw_p3, List.forall_mem_cons.mpr ⟨lw_p4, List.forall_mem_cons.mpr ⟨lw_p5, List.forall_mem_cons.mpr ⟨lw_p6, List.forall_mem_cons.mpr ⟨lw_p7, List.forall_mem_cons.mpr ⟨lw_p8, List.forall_mem_cons.mpr ⟨lw_p9, List.forall_mem_cons.mpr ⟨lw_p10, List.forall_mem_cons.mpr ⟨lw_p11, List.forall_mem_cons.mpr ⟨lw_p12, List.forall_mem_cons.mpr ⟨lw_p13, List.forall_mem_cons.mpr ⟨lw_p14, List.forall_mem_cons.mpr ⟨lw_p15, fun _ h => absurd h List.not_mem_nil⟩⟩⟩⟩⟩⟩⟩⟩⟩⟩⟩⟩⟩⟩⟩⟩
theorem lw_p16 : lw_okq (⟨"MendDeskModel", "stands", "(I)Z"⟩, 33) := ⟨⟨by decide +kernel, by decide +kernel⟩, List.mem_of_getElem? (i := 659) (by decide +kernel), List.mem_of_getElem? (i := 827) (by decide +kernel), List.mem_of_getElem? (i := 828) (by decide +kernel)⟩
theorem lw_p17 : lw_okq (⟨"MendDeskModel", "riskOf", "(I)I"⟩, 33) := ⟨⟨by decide +kernel, by decide +kernel⟩, List.mem_of_getElem? (i := 659) (by decide +kernel), List.mem_of_getElem? (i := 835) (by decide +kernel), List.mem_of_getElem? (i := 836) (by decide +kernel)⟩
theorem lw_p18 : lw_okq (⟨"MendDeskModel", "riskNow", "()I"⟩, 33) := ⟨⟨by decide +kernel, by decide +kernel⟩, List.mem_of_getElem? (i := 659) (by decide +kernel), List.mem_of_getElem? (i := 839) (by decide +kernel), List.mem_of_getElem? (i := 840) (by decide +kernel)⟩
theorem lw_p19 : lw_okq (⟨"MendDeskModel", "take", "()V"⟩, 33) := ⟨⟨by decide +kernel, by decide +kernel⟩, List.mem_of_getElem? (i := 659) (by decide +kernel), List.mem_of_getElem? (i := 843) (by decide +kernel), List.mem_of_getElem? (i := 844) (by decide +kernel)⟩
theorem lw_p20 : lw_okq (⟨"MendDeskModel", "fromFor", "(II)I"⟩, 33) := ⟨⟨by decide +kernel, by decide +kernel⟩, List.mem_of_getElem? (i := 659) (by decide +kernel), List.mem_of_getElem? (i := 847) (by decide +kernel), List.mem_of_getElem? (i := 848) (by decide +kernel)⟩
theorem lw_p21 : lw_okq (⟨"MendDeskModel", "opens", "(II)Z"⟩, 33) := ⟨⟨by decide +kernel, by decide +kernel⟩, List.mem_of_getElem? (i := 659) (by decide +kernel), List.mem_of_getElem? (i := 851) (by decide +kernel), List.mem_of_getElem? (i := 852) (by decide +kernel)⟩
theorem lw_p22 : lw_okq (⟨"MendDeskModel", "isSet", "(I)Z"⟩, 33) := ⟨⟨by decide +kernel, by decide +kernel⟩, List.mem_of_getElem? (i := 659) (by decide +kernel), List.mem_of_getElem? (i := 879) (by decide +kernel), List.mem_of_getElem? (i := 880) (by decide +kernel)⟩
theorem lw_p23 : lw_okq (⟨"MendDeskModel", "isSound", "(I)Z"⟩, 33) := ⟨⟨by decide +kernel, by decide +kernel⟩, List.mem_of_getElem? (i := 659) (by decide +kernel), List.mem_of_getElem? (i := 887) (by decide +kernel), List.mem_of_getElem? (i := 888) (by decide +kernel)⟩
theorem lw_p24 : lw_okq (⟨"MendDeskModel", "isQuarrelling", "()Z"⟩, 33) := ⟨⟨by decide +kernel, by decide +kernel⟩, List.mem_of_getElem? (i := 659) (by decide +kernel), List.mem_of_getElem? (i := 891) (by decide +kernel), List.mem_of_getElem? (i := 892) (by decide +kernel)⟩
theorem lw_p25 : lw_okq (⟨"MendDeskModel", "isMend", "(I)Z"⟩, 33) := ⟨⟨by decide +kernel, by decide +kernel⟩, List.mem_of_getElem? (i := 659) (by decide +kernel), List.mem_of_getElem? (i := 899) (by decide +kernel), List.mem_of_getElem? (i := 900) (by decide +kernel)⟩
theorem lw_p26 : lw_okq (⟨"MendDeskModel", "planFrom", "(IIII)V"⟩, 33) := ⟨⟨by decide +kernel, by decide +kernel⟩, List.mem_of_getElem? (i := 659) (by decide +kernel), List.mem_of_getElem? (i := 912) (by decide +kernel), List.mem_of_getElem? (i := 913) (by decide +kernel)⟩
theorem lw_p27 : lw_okq (⟨"MendDeskModel", "mayIn", "(III)Z"⟩, 33) := ⟨⟨by decide +kernel, by decide +kernel⟩, List.mem_of_getElem? (i := 659) (by decide +kernel), List.mem_of_getElem? (i := 916) (by decide +kernel), List.mem_of_getElem? (i := 917) (by decide +kernel)⟩
def lw_privs_2 : List (MethodName × Nat) := [(⟨"MendDeskModel", "stands", "(I)Z"⟩, 33), (⟨"MendDeskModel", "riskOf", "(I)I"⟩, 33), (⟨"MendDeskModel", "riskNow", "()I"⟩, 33), (⟨"MendDeskModel", "take", "()V"⟩, 33), (⟨"MendDeskModel", "fromFor", "(II)I"⟩, 33), (⟨"MendDeskModel", "opens", "(II)Z"⟩, 33), (⟨"MendDeskModel", "isSet", "(I)Z"⟩, 33), (⟨"MendDeskModel", "isSound", "(I)Z"⟩, 33), (⟨"MendDeskModel", "isQuarrelling", "()Z"⟩, 33), (⟨"MendDeskModel", "isMend", "(I)Z"⟩, 33), (⟨"MendDeskModel", "planFrom", "(IIII)V"⟩, 33), (⟨"MendDeskModel", "mayIn", "(III)Z"⟩, 33)]
theorem lw_r2 : ∀ q ∈ lw_privs_2, lw_okq q := List.forall_mem_cons.mpr ⟨lw_p16, List.forall_mem_cons.mpr ⟨lw_p17, List.forall_mem_cons.mpr ⟨lw_p18, List.forall_mem_cons.mpr ⟨lw_p19, List.forall_mem_cons.mpr ⟨lw_p20, List.forall_mem_cons.mpr ⟨lw_p21, List.forall_mem_cons.mpr ⟨lw_p22, List.forall_mem_cons.mpr ⟨lw_p23, List.forall_mem_cons.mpr ⟨lw_p24, List.forall_mem_cons.mpr ⟨lw_p25, List.forall_mem_cons.mpr ⟨lw_p26, List.forall_mem_cons.mpr ⟨lw_p27, fun _ h => absurd h List.not_mem_nil⟩⟩⟩⟩⟩⟩⟩⟩⟩⟩⟩⟩
def lw_privs : List (MethodName × Nat) := lw_privs_1 ++ (lw_privs_2)
def lw_tbl : List Cond := k2_sels lw_privs ++ tables_1
theorem lw_privs_ok : ∀ q ∈ lw_privs, lw_okq q := by
  show ∀ q ∈ lw_privs_1 ++ (lw_privs_2), lw_okq q
  exact List.forall_mem_append.mpr ⟨lw_r1, lw_r2⟩
end
section
def RX0 : String := "MendDesk$Chained"
def TX0 : u_T := fun k => match k with
  | 0 => ("MendDesk$Hole", "part", "I", true)
  | 1 => ("MendDesk$Hole", "low", "I", true)
  | 2 => ("MendDesk$Hole", "high", "I", true)
  | 3 => ("MendDesk$Chained", "to", "I", true)
  | _ => ("MendDesk$Chained", "toPart", "I", true)
def tyX0 : Nat → FieldType := fun k => match k with
  | 0 => .int
  | 1 => .int
  | 2 => .int
  | 3 => .int
  | _ => .int
theorem nmX0 : ∀ a, a < 5 → ∀ b, b < 5 → a ≠ b → (TX0 a).2.1 ≠ (TX0 b).2.1 := by decide +kernel
theorem tyX0_ok : ∀ k, k < 5 → parseFieldDescriptor (TX0 k).2.2.1 = some (tyX0 k) := by decide +kernel
abbrev cX0_init : ByteArray := prog_2_method_1_code
def yX0_init : MethodName := ⟨RX0, "<init>", "(IIIII)V"⟩
abbrev cX0_kind : ByteArray := prog_2_method_2_code
def yX0_kind : MethodName := ⟨RX0, "kind", "()I"⟩
abbrev cX0_isFreed : ByteArray := prog_2_method_3_code
def yX0_isFreed : MethodName := ⟨RX0, "isFreed", "(III)Z"⟩
def RX1 : String := "MendDesk$Dormant"
def TX1 : u_T := fun k => match k with
  | 0 => ("MendDesk$Hole", "part", "I", true)
  | 1 => ("MendDesk$Hole", "low", "I", true)
  | 2 => ("MendDesk$Hole", "high", "I", true)
  | _ => ("MendDesk$Dormant", "awake", "Z", false)
def tyX1 : Nat → FieldType := fun k => match k with
  | 0 => .int
  | 1 => .int
  | 2 => .int
  | _ => .boolean
theorem nmX1 : ∀ a, a < 4 → ∀ b, b < 4 → a ≠ b → (TX1 a).2.1 ≠ (TX1 b).2.1 := by decide +kernel
theorem tyX1_ok : ∀ k, k < 4 → parseFieldDescriptor (TX1 k).2.2.1 = some (tyX1 k) := by decide +kernel
abbrev cX1_init : ByteArray := prog_3_method_1_code
def yX1_init : MethodName := ⟨RX1, "<init>", "(III)V"⟩
abbrev cX1_kind : ByteArray := prog_3_method_2_code
def yX1_kind : MethodName := ⟨RX1, "kind", "()I"⟩
abbrev cX1_stands : ByteArray := prog_3_method_3_code
def yX1_stands : MethodName := ⟨RX1, "stands", "(IZ)Z"⟩
def RX2 : String := "MendDesk$Hole"
def TX2 : u_T := fun k => match k with
  | 0 => ("MendDesk$Hole", "part", "I", true)
  | 1 => ("MendDesk$Hole", "low", "I", true)
  | _ => ("MendDesk$Hole", "high", "I", true)
def tyX2 : Nat → FieldType := fun k => match k with
  | 0 => .int
  | 1 => .int
  | _ => .int
theorem nmX2 : ∀ a, a < 3 → ∀ b, b < 3 → a ≠ b → (TX2 a).2.1 ≠ (TX2 b).2.1 := by decide +kernel
theorem tyX2_ok : ∀ k, k < 3 → parseFieldDescriptor (TX2 k).2.2.1 = some (tyX2 k) := by decide +kernel
abbrev cX2_init : ByteArray := prog_4_method_1_code
def yX2_init : MethodName := ⟨RX2, "<init>", "(III)V"⟩
abbrev cX2_kind : ByteArray := prog_4_method_2_code
def yX2_kind : MethodName := ⟨RX2, "kind", "()I"⟩
abbrev cX2_stands : ByteArray := prog_4_method_3_code
def yX2_stands : MethodName := ⟨RX2, "stands", "(IZ)Z"⟩
abbrev cX2_isFreed : ByteArray := prog_4_method_4_code
def yX2_isFreed : MethodName := ⟨RX2, "isFreed", "(III)Z"⟩
abbrev cX2_isOfVersion : ByteArray := prog_4_method_5_code
def yX2_isOfVersion : MethodName := ⟨RX2, "isOfVersion", "(I)Z"⟩
def RX3 : String := "MendDesk$Mend"
def TX3 : u_T := fun k => match k with
  | 0 => ("MendDesk$Mend", "part", "I", true)
  | 1 => ("MendDesk$Mend", "version", "I", true)
  | 2 => ("MendDesk$Mend", "hands", "I", true)
  | 3 => ("MendDesk$Mend", "need", "I", true)
  | 4 => ("MendDesk$Mend", "first", "I", true)
  | _ => ("MendDesk$Mend", "last", "I", true)
def tyX3 : Nat → FieldType := fun k => match k with
  | 0 => .int
  | 1 => .int
  | 2 => .int
  | 3 => .int
  | 4 => .int
  | _ => .int
theorem nmX3 : ∀ a, a < 6 → ∀ b, b < 6 → a ≠ b → (TX3 a).2.1 ≠ (TX3 b).2.1 := by decide +kernel
theorem tyX3_ok : ∀ k, k < 6 → parseFieldDescriptor (TX3 k).2.2.1 = some (tyX3 k) := by decide +kernel
abbrev cX3_init : ByteArray := prog_5_method_1_code
def yX3_init : MethodName := ⟨RX3, "<init>", "(IIIIII)V"⟩
def RX4 : String := "MendDesk$Mends"
def TX4 : u_T := fun k => match k with
  | 0 => ("MendDesk$Mends", "net", "LMendDesk$Net;", true)
  | 1 => ("MendDesk$Mends", "spread", "LMendDesk$Spread;", true)
  | 2 => ("MendDesk$Mends", "list", "[LMendDesk$Mend;", true)
  | 3 => ("MendDesk$Mends", "quarrels", "[LMendDesk$Quarrel;", true)
  | 4 => ("MendDesk$Mends", "versionsThen", "[I", true)
  | 5 => ("MendDesk$Mends", "mendCount", "I", false)
  | _ => ("MendDesk$Mends", "quarrelCount", "I", false)
def tyX4 : Nat → FieldType := fun k => match k with
  | 0 => .object "MendDesk$Net"
  | 1 => .object "MendDesk$Spread"
  | 2 => .array (.object "MendDesk$Mend")
  | 3 => .array (.object "MendDesk$Quarrel")
  | 4 => .array .int
  | 5 => .int
  | _ => .int
theorem nmX4 : ∀ a, a < 7 → ∀ b, b < 7 → a ≠ b → (TX4 a).2.1 ≠ (TX4 b).2.1 := by decide +kernel
theorem tyX4_ok : ∀ k, k < 7 → parseFieldDescriptor (TX4 k).2.2.1 = some (tyX4 k) := by decide +kernel
abbrev cX4_init : ByteArray := prog_6_method_1_code
def yX4_init : MethodName := ⟨RX4, "<init>", "(LMendDesk$Net;LMendDesk$Spread;)V"⟩
abbrev cX4_mendAt : ByteArray := prog_6_method_2_code
def yX4_mendAt : MethodName := ⟨RX4, "mendAt", "(I)LMendDesk$Mend;"⟩
abbrev cX4_isSet : ByteArray := prog_6_method_3_code
def yX4_isSet : MethodName := ⟨RX4, "isSet", "(I)Z"⟩
abbrev cX4_addMend : ByteArray := prog_6_method_4_code
def yX4_addMend : MethodName := ⟨RX4, "addMend", "(LMendDesk$Mend;)I"⟩
abbrev cX4_addQuarrel : ByteArray := prog_6_method_5_code
def yX4_addQuarrel : MethodName := ⟨RX4, "addQuarrel", "(LMendDesk$Quarrel;)I"⟩
abbrev cX4_riskAfter : ByteArray := prog_6_method_6_code
def yX4_riskAfter : MethodName := ⟨RX4, "riskAfter", "(I)I"⟩
abbrev cX4_isSound : ByteArray := prog_6_method_7_code
def yX4_isSound : MethodName := ⟨RX4, "isSound", "(I)Z"⟩
abbrev cX4_quarrelHolds : ByteArray := prog_6_method_8_code
def yX4_quarrelHolds : MethodName := ⟨RX4, "quarrelHolds", "(I)Z"⟩
abbrev cX4_needIsMet : ByteArray := prog_6_method_9_code
def yX4_needIsMet : MethodName := ⟨RX4, "needIsMet", "(LMendDesk$Mend;)Z"⟩
abbrev cX4_hasAllNeeds : ByteArray := prog_6_method_10_code
def yX4_hasAllNeeds : MethodName := ⟨RX4, "hasAllNeeds", "(I)Z"⟩
abbrev cX4_fillVersions : ByteArray := prog_6_method_11_code
def yX4_fillVersions : MethodName := ⟨RX4, "fillVersions", "(I)V"⟩
def RX5 : String := "MendDesk$Net"
def TX5 : u_T := fun k => match k with
  | 0 => ("MendDesk$Net", "versions", "[I", true)
  | 1 => ("MendDesk$Net", "worths", "[I", true)
  | 2 => ("MendDesk$Net", "linksInto", "[I", true)
  | 3 => ("MendDesk$Net", "holes", "[LMendDesk$Hole;", true)
  | 4 => ("MendDesk$Net", "partCount", "I", false)
  | 5 => ("MendDesk$Net", "holeCount", "I", false)
  | 6 => ("MendDesk$Net", "open", "I", false)
  | _ => ("MendDesk$Net", "guarded", "I", false)
def tyX5 : Nat → FieldType := fun k => match k with
  | 0 => .array .int
  | 1 => .array .int
  | 2 => .array .int
  | 3 => .array (.object "MendDesk$Hole")
  | 4 => .int
  | 5 => .int
  | 6 => .int
  | _ => .int
theorem nmX5 : ∀ a, a < 8 → ∀ b, b < 8 → a ≠ b → (TX5 a).2.1 ≠ (TX5 b).2.1 := by decide +kernel
theorem tyX5_ok : ∀ k, k < 8 → parseFieldDescriptor (TX5 k).2.2.1 = some (tyX5 k) := by decide +kernel
abbrev cX5_init : ByteArray := prog_7_method_1_code
def yX5_init : MethodName := ⟨RX5, "<init>", "()V"⟩
abbrev cX5_hasPart : ByteArray := prog_7_method_2_code
def yX5_hasPart : MethodName := ⟨RX5, "hasPart", "(I)Z"⟩
abbrev cX5_holeAt : ByteArray := prog_7_method_3_code
def yX5_holeAt : MethodName := ⟨RX5, "holeAt", "(I)LMendDesk$Hole;"⟩
abbrev cX5_addPart : ByteArray := prog_7_method_4_code
def yX5_addPart : MethodName := ⟨RX5, "addPart", "(IIZ)I"⟩
abbrev cX5_addHole : ByteArray := prog_7_method_5_code
def yX5_addHole : MethodName := ⟨RX5, "addHole", "(LMendDesk$Hole;)I"⟩
abbrev cX5_standsNow : ByteArray := prog_7_method_6_code
def yX5_standsNow : MethodName := ⟨RX5, "standsNow", "(LMendDesk$Hole;)Z"⟩
def RX6 : String := "MendDesk$Planner"
def TX6 : u_T := fun k => match k with
  | 0 => ("MendDesk$Planner", "mends", "LMendDesk$Mends;", true)
  | 1 => ("MendDesk$Planner", "risks", "[I", true)
  | 2 => ("MendDesk$Planner", "fits", "[Z", true)
  | 3 => ("MendDesk$Planner", "sums", "[[I", true)
  | 4 => ("MendDesk$Planner", "allowed", "[I", true)
  | 5 => ("MendDesk$Planner", "ahead", "[I", true)
  | 6 => ("MendDesk$Planner", "weekOf", "[I", true)
  | 7 => ("MendDesk$Planner", "planCount", "I", false)
  | _ => ("MendDesk$Planner", "movedMends", "I", false)
def tyX6 : Nat → FieldType := fun k => match k with
  | 0 => .object "MendDesk$Mends"
  | 1 => .array .int
  | 2 => .array .boolean
  | 3 => .array (.array .int)
  | 4 => .array .int
  | 5 => .array .int
  | 6 => .array .int
  | 7 => .int
  | _ => .int
theorem nmX6 : ∀ a, a < 9 → ∀ b, b < 9 → a ≠ b → (TX6 a).2.1 ≠ (TX6 b).2.1 := by decide +kernel
theorem tyX6_ok : ∀ k, k < 9 → parseFieldDescriptor (TX6 k).2.2.1 = some (tyX6 k) := by decide +kernel
abbrev cX6_init : ByteArray := prog_8_method_1_code
def yX6_init : MethodName := ⟨RX6, "<init>", "(LMendDesk$Mends;)V"⟩
abbrev cX6_weighSets : ByteArray := prog_8_method_2_code
def yX6_weighSets : MethodName := ⟨RX6, "weighSets", "(II)V"⟩
abbrev cX6_findSums : ByteArray := prog_8_method_3_code
def yX6_findSums : MethodName := ⟨RX6, "findSums", "(I)V"⟩
abbrev cX6_leastSum : ByteArray := prog_8_method_4_code
def yX6_leastSum : MethodName := ⟨RX6, "leastSum", "()I"⟩
abbrev cX6_fixWeeks : ByteArray := prog_8_method_5_code
def yX6_fixWeeks : MethodName := ⟨RX6, "fixWeeks", "(I)V"⟩
abbrev cX6_putInWeek : ByteArray := prog_8_method_6_code
def yX6_putInWeek : MethodName := ⟨RX6, "putInWeek", "(II)V"⟩
abbrev cX6_bestSet : ByteArray := prog_8_method_7_code
def yX6_bestSet : MethodName := ⟨RX6, "bestSet", "(II)I"⟩
abbrev cX6_findAllowed : ByteArray := prog_8_method_8_code
def yX6_findAllowed : MethodName := ⟨RX6, "findAllowed", "(I)V"⟩
abbrev cX6_handsOf : ByteArray := prog_8_method_9_code
def yX6_handsOf : MethodName := ⟨RX6, "handsOf", "(I)I"⟩
def RX7 : String := "MendDesk$Quarrel"
def TX7 : u_T := fun k => match k with
  | 0 => ("MendDesk$Quarrel", "part", "I", true)
  | 1 => ("MendDesk$Quarrel", "version", "I", true)
  | 2 => ("MendDesk$Quarrel", "other", "I", true)
  | _ => ("MendDesk$Quarrel", "otherVersion", "I", true)
def tyX7 : Nat → FieldType := fun k => match k with
  | 0 => .int
  | 1 => .int
  | 2 => .int
  | _ => .int
theorem nmX7 : ∀ a, a < 4 → ∀ b, b < 4 → a ≠ b → (TX7 a).2.1 ≠ (TX7 b).2.1 := by decide +kernel
theorem tyX7_ok : ∀ k, k < 4 → parseFieldDescriptor (TX7 k).2.2.1 = some (tyX7 k) := by decide +kernel
abbrev cX7_init : ByteArray := prog_9_method_1_code
def yX7_init : MethodName := ⟨RX7, "<init>", "(IIII)V"⟩
abbrev cX7_holds : ByteArray := prog_9_method_2_code
def yX7_holds : MethodName := ⟨RX7, "holds", "([I)Z"⟩
def RX8 : String := "MendDesk$Shielded"
def TX8 : u_T := fun k => match k with
  | 0 => ("MendDesk$Hole", "part", "I", true)
  | 1 => ("MendDesk$Hole", "low", "I", true)
  | _ => ("MendDesk$Hole", "high", "I", true)
def tyX8 : Nat → FieldType := fun k => match k with
  | 0 => .int
  | 1 => .int
  | _ => .int
theorem nmX8 : ∀ a, a < 3 → ∀ b, b < 3 → a ≠ b → (TX8 a).2.1 ≠ (TX8 b).2.1 := by decide +kernel
theorem tyX8_ok : ∀ k, k < 3 → parseFieldDescriptor (TX8 k).2.2.1 = some (tyX8 k) := by decide +kernel
abbrev cX8_init : ByteArray := prog_10_method_1_code
def yX8_init : MethodName := ⟨RX8, "<init>", "(III)V"⟩
abbrev cX8_kind : ByteArray := prog_10_method_2_code
def yX8_kind : MethodName := ⟨RX8, "kind", "()I"⟩
abbrev cX8_stands : ByteArray := prog_10_method_3_code
def yX8_stands : MethodName := ⟨RX8, "stands", "(IZ)Z"⟩
def RX9 : String := "MendDesk$Spread"
def TX9 : u_T := fun k => match k with
  | 0 => ("MendDesk$Spread", "net", "LMendDesk$Net;", true)
  | 1 => ("MendDesk$Spread", "steps", "[I", true)
  | 2 => ("MendDesk$Spread", "byHole", "[I", true)
  | 3 => ("MendDesk$Spread", "fromPart", "[I", true)
  | 4 => ("MendDesk$Spread", "standing", "I", false)
  | 5 => ("MendDesk$Spread", "taken", "I", false)
  | _ => ("MendDesk$Spread", "twice", "I", false)
def tyX9 : Nat → FieldType := fun k => match k with
  | 0 => .object "MendDesk$Net"
  | 1 => .array .int
  | 2 => .array .int
  | 3 => .array .int
  | 4 => .int
  | 5 => .int
  | _ => .int
theorem nmX9 : ∀ a, a < 7 → ∀ b, b < 7 → a ≠ b → (TX9 a).2.1 ≠ (TX9 b).2.1 := by decide +kernel
theorem tyX9_ok : ∀ k, k < 7 → parseFieldDescriptor (TX9 k).2.2.1 = some (tyX9 k) := by decide +kernel
abbrev cX9_init : ByteArray := prog_11_method_1_code
def yX9_init : MethodName := ⟨RX9, "<init>", "(LMendDesk$Net;)V"⟩
abbrev cX9_run : ByteArray := prog_11_method_2_code
def yX9_run : MethodName := ⟨RX9, "run", "([II)I"⟩
abbrev cX9_sumOfWorths : ByteArray := prog_11_method_3_code
def yX9_sumOfWorths : MethodName := ⟨RX9, "sumOfWorths", "()I"⟩
abbrev cX9_findStanding : ByteArray := prog_11_method_4_code
def yX9_findStanding : MethodName := ⟨RX9, "findStanding", "([II)V"⟩
abbrev cX9_takeStep : ByteArray := prog_11_method_5_code
def yX9_takeStep : MethodName := ⟨RX9, "takeStep", "(I)I"⟩
abbrev cX9_isReached : ByteArray := prog_11_method_6_code
def yX9_isReached : MethodName := ⟨RX9, "isReached", "(I)Z"⟩
abbrev cX9_leastOf : ByteArray := prog_11_method_7_code
def yX9_leastOf : MethodName := ⟨RX9, "leastOf", "(I)I"⟩
def RX10 : String := "MendDesk$Used"
def TX10 : u_T := fun k => match k with
  | 0 => ("MendDesk$Hole", "part", "I", true)
  | 1 => ("MendDesk$Hole", "low", "I", true)
  | _ => ("MendDesk$Hole", "high", "I", true)
def tyX10 : Nat → FieldType := fun k => match k with
  | 0 => .int
  | 1 => .int
  | _ => .int
theorem nmX10 : ∀ a, a < 3 → ∀ b, b < 3 → a ≠ b → (TX10 a).2.1 ≠ (TX10 b).2.1 := by decide +kernel
theorem tyX10_ok : ∀ k, k < 3 → parseFieldDescriptor (TX10 k).2.2.1 = some (tyX10 k) := by decide +kernel
abbrev cX10_init : ByteArray := prog_12_method_1_code
def yX10_init : MethodName := ⟨RX10, "<init>", "(III)V"⟩
abbrev cX10_kind : ByteArray := prog_12_method_2_code
def yX10_kind : MethodName := ⟨RX10, "kind", "()I"⟩
abbrev cX10_stands : ByteArray := prog_12_method_3_code
def yX10_stands : MethodName := ⟨RX10, "stands", "(IZ)Z"⟩
def RX11 : String := "MendDesk"
def TX11 : u_T := fun k => match k with
  | 0 => ("MendDesk", "net", "LMendDesk$Net;", true)
  | 1 => ("MendDesk", "spread", "LMendDesk$Spread;", true)
  | 2 => ("MendDesk", "mends", "LMendDesk$Mends;", true)
  | _ => ("MendDesk", "planner", "LMendDesk$Planner;", true)
def tyX11 : Nat → FieldType := fun k => match k with
  | 0 => .object "MendDesk$Net"
  | 1 => .object "MendDesk$Spread"
  | 2 => .object "MendDesk$Mends"
  | _ => .object "MendDesk$Planner"
theorem nmX11 : ∀ a, a < 4 → ∀ b, b < 4 → a ≠ b → (TX11 a).2.1 ≠ (TX11 b).2.1 := by decide +kernel
theorem tyX11_ok : ∀ k, k < 4 → parseFieldDescriptor (TX11 k).2.2.1 = some (tyX11 k) := by decide +kernel
abbrev cX11_init : ByteArray := prog_1_method_1_code
def yX11_init : MethodName := ⟨RX11, "<init>", "()V"⟩
abbrev cX11_part : ByteArray := prog_1_method_2_code
def yX11_part : MethodName := ⟨RX11, "part", "(IIZ)I"⟩
abbrev cX11_link : ByteArray := prog_1_method_3_code
def yX11_link : MethodName := ⟨RX11, "link", "(IIZ)I"⟩
abbrev cX11_guard : ByteArray := prog_1_method_4_code
def yX11_guard : MethodName := ⟨RX11, "guard", "(IZ)I"⟩
abbrev cX11_version : ByteArray := prog_1_method_5_code
def yX11_version : MethodName := ⟨RX11, "version", "(II)I"⟩
abbrev cX11_hole : ByteArray := prog_1_method_6_code
def yX11_hole : MethodName := ⟨RX11, "hole", "(IIII)I"⟩
abbrev cX11_chained : ByteArray := prog_1_method_7_code
def yX11_chained : MethodName := ⟨RX11, "chained", "(IIII)I"⟩
abbrev cX11_wake : ByteArray := prog_1_method_8_code
def yX11_wake : MethodName := ⟨RX11, "wake", "(IZ)I"⟩
abbrev cX11_chain : ByteArray := prog_1_method_9_code
def yX11_chain : MethodName := ⟨RX11, "chain", "(I)I"⟩
abbrev cX11_told : ByteArray := prog_1_method_10_code
def yX11_told : MethodName := ⟨RX11, "told", "(II)I"⟩
abbrev cX11_risk : ByteArray := prog_1_method_11_code
def yX11_risk : MethodName := ⟨RX11, "risk", "()I"⟩
abbrev cX11_taken : ByteArray := prog_1_method_12_code
def yX11_taken : MethodName := ⟨RX11, "taken", "()I"⟩
abbrev cX11_way : ByteArray := prog_1_method_13_code
def yX11_way : MethodName := ⟨RX11, "way", "(II)I"⟩
abbrev cX11_bestGuard : ByteArray := prog_1_method_14_code
def yX11_bestGuard : MethodName := ⟨RX11, "bestGuard", "()I"⟩
abbrev cX11_mend : ByteArray := prog_1_method_15_code
def yX11_mend : MethodName := ⟨RX11, "mend", "(IIIIII)I"⟩
abbrev cX11_quarrel : ByteArray := prog_1_method_16_code
def yX11_quarrel : MethodName := ⟨RX11, "quarrel", "(IIII)I"⟩
abbrev cX11_riskWith : ByteArray := prog_1_method_17_code
def yX11_riskWith : MethodName := ⟨RX11, "riskWith", "(I)I"⟩
abbrev cX11_sound : ByteArray := prog_1_method_18_code
def yX11_sound : MethodName := ⟨RX11, "sound", "(I)I"⟩
abbrev cX11_gain : ByteArray := prog_1_method_19_code
def yX11_gain : MethodName := ⟨RX11, "gain", "(II)I"⟩
abbrev cX11_next : ByteArray := prog_1_method_20_code
def yX11_next : MethodName := ⟨RX11, "next", "(I)I"⟩
abbrev cX11_plan : ByteArray := prog_1_method_21_code
def yX11_plan : MethodName := ⟨RX11, "plan", "(II)I"⟩
abbrev cX11_week : ByteArray := prog_1_method_22_code
def yX11_week : MethodName := ⟨RX11, "week", "(I)I"⟩
abbrev cX11_moved : ByteArray := prog_1_method_23_code
def yX11_moved : MethodName := ⟨RX11, "moved", "()I"⟩
abbrev cX11_make : ByteArray := prog_1_method_24_code
def yX11_make : MethodName := ⟨RX11, "make", "(I)I"⟩
abbrev cX11_count : ByteArray := prog_1_method_25_code
def yX11_count : MethodName := ⟨RX11, "count", "(I)I"⟩
abbrev cX11_spreadNow : ByteArray := prog_1_method_26_code
def yX11_spreadNow : MethodName := ⟨RX11, "spreadNow", "()I"⟩
abbrev cX11_isBetween : ByteArray := prog_1_method_27_code
def yX11_isBetween : MethodName := ⟨RX11, "isBetween", "(III)Z"⟩
abbrev cX11_isVersion : ByteArray := prog_1_method_28_code
def yX11_isVersion : MethodName := ⟨RX11, "isVersion", "(I)Z"⟩
abbrev cX11_isSpan : ByteArray := prog_1_method_29_code
def yX11_isSpan : MethodName := ⟨RX11, "isSpan", "(II)Z"⟩
abbrev cX11_asNumber : ByteArray := prog_1_method_30_code
def yX11_asNumber : MethodName := ⟨RX11, "asNumber", "(Z)I"⟩
abbrev cX11_bit : ByteArray := prog_1_method_31_code
def yX11_bit : MethodName := ⟨RX11, "bit", "(I)I"⟩
abbrev cX11_isIn : ByteArray := prog_1_method_32_code
def yX11_isIn : MethodName := ⟨RX11, "isIn", "(II)Z"⟩
abbrev cX11_withMember : ByteArray := prog_1_method_33_code
def yX11_withMember : MethodName := ⟨RX11, "withMember", "(IIZ)I"⟩
abbrev cX11_newHole : ByteArray := prog_1_method_34_code
def yX11_newHole : MethodName := ⟨RX11, "newHole", "(IIII)LMendDesk$Hole;"⟩
def RX12 : String := "MendDeskModel"
def TX12 : u_T := fun k => match k with
  | 0 => ("MendDeskModel", "parts", "I", false)
  | 1 => ("MendDeskModel", "versions", "[I", true)
  | 2 => ("MendDeskModel", "worths", "[I", true)
  | 3 => ("MendDeskModel", "open", "[Z", true)
  | 4 => ("MendDeskModel", "guarded", "[Z", true)
  | 5 => ("MendDeskModel", "links", "[Z", true)
  | 6 => ("MendDeskModel", "holes", "I", false)
  | 7 => ("MendDeskModel", "kinds", "[I", true)
  | 8 => ("MendDeskModel", "where", "[I", true)
  | 9 => ("MendDeskModel", "low", "[I", true)
  | 10 => ("MendDeskModel", "high", "[I", true)
  | 11 => ("MendDeskModel", "chains", "[I", true)
  | 12 => ("MendDeskModel", "awake", "[Z", true)
  | 13 => ("MendDeskModel", "now", "[I", true)
  | 14 => ("MendDeskModel", "steps", "[I", true)
  | 15 => ("MendDeskModel", "byHole", "[I", true)
  | 16 => ("MendDeskModel", "byPart", "[I", true)
  | 17 => ("MendDeskModel", "mends", "I", false)
  | 18 => ("MendDeskModel", "mendPart", "[I", true)
  | 19 => ("MendDeskModel", "mendVersion", "[I", true)
  | 20 => ("MendDeskModel", "mendHands", "[I", true)
  | 21 => ("MendDeskModel", "needs", "[I", true)
  | 22 => ("MendDeskModel", "firsts", "[I", true)
  | 23 => ("MendDeskModel", "lasts", "[I", true)
  | 24 => ("MendDeskModel", "quarrels", "I", false)
  | 25 => ("MendDeskModel", "quarrel", "[I", true)
  | 26 => ("MendDeskModel", "risks", "[I", true)
  | 27 => ("MendDeskModel", "sounds", "[Z", true)
  | 28 => ("MendDeskModel", "least", "[I", true)
  | 29 => ("MendDeskModel", "chosen", "[I", true)
  | 30 => ("MendDeskModel", "plans", "I", false)
  | 31 => ("MendDeskModel", "weeksNow", "[I", true)
  | _ => ("MendDeskModel", "weeksBefore", "[I", true)
def tyX12 : Nat → FieldType := fun k => match k with
  | 0 => .int
  | 1 => .array .int
  | 2 => .array .int
  | 3 => .array .boolean
  | 4 => .array .boolean
  | 5 => .array .boolean
  | 6 => .int
  | 7 => .array .int
  | 8 => .array .int
  | 9 => .array .int
  | 10 => .array .int
  | 11 => .array .int
  | 12 => .array .boolean
  | 13 => .array .int
  | 14 => .array .int
  | 15 => .array .int
  | 16 => .array .int
  | 17 => .int
  | 18 => .array .int
  | 19 => .array .int
  | 20 => .array .int
  | 21 => .array .int
  | 22 => .array .int
  | 23 => .array .int
  | 24 => .int
  | 25 => .array .int
  | 26 => .array .int
  | 27 => .array .boolean
  | 28 => .array .int
  | 29 => .array .int
  | 30 => .int
  | 31 => .array .int
  | _ => .array .int
theorem nmX12 : ∀ a, a < 33 → ∀ b, b < 33 → a ≠ b → (TX12 a).2.1 ≠ (TX12 b).2.1 := by decide +kernel
theorem tyX12_ok : ∀ k, k < 33 → parseFieldDescriptor (TX12 k).2.2.1 = some (tyX12 k) := by decide +kernel
abbrev cX12_init : ByteArray := prog_14_method_1_code
def yX12_init : MethodName := ⟨RX12, "<init>", "()V"⟩
abbrev cX12_in : ByteArray := prog_14_method_2_code
def yX12_in : MethodName := ⟨RX12, "in", "(III)Z"⟩
abbrev cX12_isPart : ByteArray := prog_14_method_3_code
def yX12_isPart : MethodName := ⟨RX12, "isPart", "(I)Z"⟩
abbrev cX12_isVersion : ByteArray := prog_14_method_4_code
def yX12_isVersion : MethodName := ⟨RX12, "isVersion", "(I)Z"⟩
abbrev cX12_part : ByteArray := prog_14_method_5_code
def yX12_part : MethodName := ⟨RX12, "part", "(IIZ)I"⟩
abbrev cX12_link : ByteArray := prog_14_method_6_code
def yX12_link : MethodName := ⟨RX12, "link", "(IIZ)I"⟩
abbrev cX12_guard : ByteArray := prog_14_method_7_code
def yX12_guard : MethodName := ⟨RX12, "guard", "(IZ)I"⟩
abbrev cX12_version : ByteArray := prog_14_method_8_code
def yX12_version : MethodName := ⟨RX12, "version", "(II)I"⟩
abbrev cX12_add : ByteArray := prog_14_method_9_code
def yX12_add : MethodName := ⟨RX12, "add", "(IIIII)I"⟩
abbrev cX12_isSpan : ByteArray := prog_14_method_10_code
def yX12_isSpan : MethodName := ⟨RX12, "isSpan", "(III)Z"⟩
abbrev cX12_isHole : ByteArray := prog_14_method_11_code
def yX12_isHole : MethodName := ⟨RX12, "isHole", "(I)Z"⟩
abbrev cX12_hole : ByteArray := prog_14_method_12_code
def yX12_hole : MethodName := ⟨RX12, "hole", "(IIII)I"⟩
abbrev cX12_chained : ByteArray := prog_14_method_13_code
def yX12_chained : MethodName := ⟨RX12, "chained", "(IIII)I"⟩
abbrev cX12_wake : ByteArray := prog_14_method_14_code
def yX12_wake : MethodName := ⟨RX12, "wake", "(IZ)I"⟩
abbrev cX12_chain : ByteArray := prog_14_method_15_code
def yX12_chain : MethodName := ⟨RX12, "chain", "(I)I"⟩
abbrev cX12_takeVersions : ByteArray := prog_14_method_16_code
def yX12_takeVersions : MethodName := ⟨RX12, "takeVersions", "(I)V"⟩
abbrev cX12_stands : ByteArray := prog_14_method_17_code
def yX12_stands : MethodName := ⟨RX12, "stands", "(I)Z"⟩
abbrev cX12_opens : ByteArray := prog_14_method_18_code
def yX12_opens : MethodName := ⟨RX12, "opens", "(II)Z"⟩
abbrev cX12_fromFor : ByteArray := prog_14_method_19_code
def yX12_fromFor : MethodName := ⟨RX12, "fromFor", "(II)I"⟩
abbrev cX12_take : ByteArray := prog_14_method_20_code
def yX12_take : MethodName := ⟨RX12, "take", "()V"⟩
abbrev cX12_riskNow : ByteArray := prog_14_method_21_code
def yX12_riskNow : MethodName := ⟨RX12, "riskNow", "()I"⟩
abbrev cX12_riskOf : ByteArray := prog_14_method_22_code
def yX12_riskOf : MethodName := ⟨RX12, "riskOf", "(I)I"⟩
abbrev cX12_told : ByteArray := prog_14_method_23_code
def yX12_told : MethodName := ⟨RX12, "told", "(II)I"⟩
abbrev cX12_risk : ByteArray := prog_14_method_24_code
def yX12_risk : MethodName := ⟨RX12, "risk", "()I"⟩
abbrev cX12_taken : ByteArray := prog_14_method_25_code
def yX12_taken : MethodName := ⟨RX12, "taken", "()I"⟩
abbrev cX12_way : ByteArray := prog_14_method_26_code
def yX12_way : MethodName := ⟨RX12, "way", "(II)I"⟩
abbrev cX12_bestGuard : ByteArray := prog_14_method_27_code
def yX12_bestGuard : MethodName := ⟨RX12, "bestGuard", "()I"⟩
abbrev cX12_isMend : ByteArray := prog_14_method_28_code
def yX12_isMend : MethodName := ⟨RX12, "isMend", "(I)Z"⟩
abbrev cX12_mend : ByteArray := prog_14_method_29_code
def yX12_mend : MethodName := ⟨RX12, "mend", "(IIIIII)I"⟩
abbrev cX12_quarrel : ByteArray := prog_14_method_30_code
def yX12_quarrel : MethodName := ⟨RX12, "quarrel", "(IIII)I"⟩
abbrev cX12_isSet : ByteArray := prog_14_method_31_code
def yX12_isSet : MethodName := ⟨RX12, "isSet", "(I)Z"⟩
abbrev cX12_isQuarrelling : ByteArray := prog_14_method_32_code
def yX12_isQuarrelling : MethodName := ⟨RX12, "isQuarrelling", "()Z"⟩
abbrev cX12_isSound : ByteArray := prog_14_method_33_code
def yX12_isSound : MethodName := ⟨RX12, "isSound", "(I)Z"⟩
abbrev cX12_riskWith : ByteArray := prog_14_method_34_code
def yX12_riskWith : MethodName := ⟨RX12, "riskWith", "(I)I"⟩
abbrev cX12_sound : ByteArray := prog_14_method_35_code
def yX12_sound : MethodName := ⟨RX12, "sound", "(I)I"⟩
abbrev cX12_gain : ByteArray := prog_14_method_36_code
def yX12_gain : MethodName := ⟨RX12, "gain", "(II)I"⟩
abbrev cX12_next : ByteArray := prog_14_method_37_code
def yX12_next : MethodName := ⟨RX12, "next", "(I)I"⟩
abbrev cX12_mayIn : ByteArray := prog_14_method_38_code
def yX12_mayIn : MethodName := ⟨RX12, "mayIn", "(III)Z"⟩
abbrev cX12_planFrom : ByteArray := prog_14_method_39_code
def yX12_planFrom : MethodName := ⟨RX12, "planFrom", "(IIII)V"⟩
abbrev cX12_plan : ByteArray := prog_14_method_40_code
def yX12_plan : MethodName := ⟨RX12, "plan", "(II)I"⟩
abbrev cX12_week : ByteArray := prog_14_method_41_code
def yX12_week : MethodName := ⟨RX12, "week", "(I)I"⟩
abbrev cX12_moved : ByteArray := prog_14_method_42_code
def yX12_moved : MethodName := ⟨RX12, "moved", "()I"⟩
abbrev cX12_make : ByteArray := prog_14_method_43_code
def yX12_make : MethodName := ⟨RX12, "make", "(I)I"⟩
abbrev cX12_count : ByteArray := prog_14_method_44_code
def yX12_count : MethodName := ⟨RX12, "count", "(I)I"⟩
def RJ6 : String := "java/lang/Integer"
def TJ6 : u_T := fun k => match k with
  | _ => ("", "", "", false)
def tyJ6 : Nat → FieldType := fun k => match k with
  | _ => .int
theorem nmJ6 : ∀ a, a < 0 → ∀ b, b < 0 → a ≠ b → (TJ6 a).2.1 ≠ (TJ6 b).2.1 := by decide +kernel
theorem tyJ6_ok : ∀ k, k < 0 → parseFieldDescriptor (TJ6 k).2.2.1 = some (tyJ6 k) := by decide +kernel
abbrev cJ6_bitCount_0f7a4 : ByteArray := prog_15_method_49_code
def yJ6_bitCount_0f7a4 : MethodName := ⟨RJ6, "bitCount", "(I)I"⟩
def RJ9 : String := "java/lang/Math"
def TJ9 : u_T := fun k => match k with
  | _ => ("", "", "", false)
def tyJ9 : Nat → FieldType := fun k => match k with
  | _ => .int
theorem nmJ9 : ∀ a, a < 0 → ∀ b, b < 0 → a ≠ b → (TJ9 a).2.1 ≠ (TJ9 b).2.1 := by decide +kernel
theorem tyJ9_ok : ∀ k, k < 0 → parseFieldDescriptor (TJ9 k).2.2.1 = some (tyJ9 k) := by decide +kernel
abbrev cJ9_max_7cf53 : ByteArray := prog_16_method_65_code
def yJ9_max_7cf53 : MethodName := ⟨RJ9, "max", "(II)I"⟩
def RJ10 : String := "java/lang/System"
def TJ10 : u_T := fun k => match k with
  | _ => ("", "", "", false)
def tyJ10 : Nat → FieldType := fun k => match k with
  | _ => .int
theorem nmJ10 : ∀ a, a < 0 → ∀ b, b < 0 → a ≠ b → (TJ10 a).2.1 ≠ (TJ10 b).2.1 := by decide +kernel
theorem tyJ10_ok : ∀ k, k < 0 → parseFieldDescriptor (TJ10 k).2.2.1 = some (tyJ10 k) := by decide +kernel
def RJ7 : String := "java/util/Arrays"
def TJ7 : u_T := fun k => match k with
  | _ => ("", "", "", false)
def tyJ7 : Nat → FieldType := fun k => match k with
  | _ => .int
theorem nmJ7 : ∀ a, a < 0 → ∀ b, b < 0 → a ≠ b → (TJ7 a).2.1 ≠ (TJ7 b).2.1 := by decide +kernel
theorem tyJ7_ok : ∀ k, k < 0 → parseFieldDescriptor (TJ7 k).2.2.1 = some (tyJ7 k) := by decide +kernel
abbrev cJ7_fill_53178 : ByteArray := prog_18_method_103_code
def yJ7_fill_53178 : MethodName := ⟨RJ7, "fill", "([II)V"⟩
def RL : String := "MendDeskLaw"
abbrev cL_law : ByteArray := code
def yL_law : MethodName := ⟨RL, "law", "([I)Z"⟩
abbrev vwCl : List vw_C := [(RX0, TX0, 5), (RX1, TX1, 4), (RX2, TX2, 3), (RX3, TX3, 6), (RX4, TX4, 7), (RX5, TX5, 8), (RX6, TX6, 9), (RX7, TX7, 4), (RX8, TX8, 3), (RX9, TX9, 7), (RX10, TX10, 3), (RX11, TX11, 4), (RX12, TX12, 33)]
end
section
/-- the tables' words that may be handed on to a callee: the words of every contract here -/
noncomputable def uT : List Cond := lw_tbl.filter goodWord
theorem uT_tb {i : Nat} {w : Cond} (h : tables_1[i]? = some w) (hg : goodWord w = true) : w ∈ uT := List.mem_filter.mpr ⟨List.mem_append_right _ (List.mem_of_getElem? h), hg⟩
theorem uT_pv {i : Nat} {w : Cond} (h : (k2_sels lw_privs)[i]? = some w) (hg : goodWord w = true) : w ∈ uT := List.mem_filter.mpr ⟨List.mem_append_left _ (List.mem_of_getElem? h), hg⟩
theorem uT_sub {ws : List Cond} (ps : List Nat) (hp : ws = ps.filterMap (fun i => tables_1[i]?)) (hg : ws.all goodWord = true) : ∀ w ∈ ws, w ∈ uT := by
  intro w hw
  have h1 := List.all_eq_true.mp hg w hw
  rw [hp] at hw
  obtain ⟨i, -, hi⟩ := List.mem_filterMap.mp hw
  exact uT_tb hi h1
theorem uT_in : ∀ w ∈ uT, w ∈ lw_tbl := fun _ h => (List.mem_filter.mp h).1
theorem uT_good : ∀ w ∈ uT, goodWord w = true := fun _ h => (List.mem_filter.mp h).2
theorem uT_GI {x : Cond} : GoodIn (x :: uT) uT := fun w h => ⟨List.mem_cons_of_mem _ h, good_of_word (uT_good w h)⟩

theorem wn_L : Cond.initialized RL ∈ uT := uT_tb (i := 0) (by decide +kernel) (by decide +kernel)
theorem wn_X11 : Cond.initialized RX11 ∈ uT := uT_tb (i := 1) (by decide +kernel) (by decide +kernel)
theorem wn_X5 : Cond.initialized RX5 ∈ uT := uT_tb (i := 2) (by decide +kernel) (by decide +kernel)
theorem wn_X9 : Cond.initialized RX9 ∈ uT := uT_tb (i := 3) (by decide +kernel) (by decide +kernel)
theorem wn_X4 : Cond.initialized RX4 ∈ uT := uT_tb (i := 4) (by decide +kernel) (by decide +kernel)
theorem wn_X6 : Cond.initialized RX6 ∈ uT := uT_tb (i := 5) (by decide +kernel) (by decide +kernel)
theorem wn_J7 : Cond.initialized RJ7 ∈ uT := uT_tb (i := 6) (by decide +kernel) (by decide +kernel)
theorem wn_X12 : Cond.initialized RX12 ∈ uT := uT_tb (i := 7) (by decide +kernel) (by decide +kernel)
theorem wn_X2 : Cond.initialized RX2 ∈ uT := uT_tb (i := 8) (by decide +kernel) (by decide +kernel)
theorem wn_X8 : Cond.initialized RX8 ∈ uT := uT_tb (i := 9) (by decide +kernel) (by decide +kernel)
theorem wn_X10 : Cond.initialized RX10 ∈ uT := uT_tb (i := 10) (by decide +kernel) (by decide +kernel)
theorem wn_X1 : Cond.initialized RX1 ∈ uT := uT_tb (i := 11) (by decide +kernel) (by decide +kernel)
theorem wn_X0 : Cond.initialized RX0 ∈ uT := uT_tb (i := 12) (by decide +kernel) (by decide +kernel)
theorem wn_X3 : Cond.initialized RX3 ∈ uT := uT_tb (i := 13) (by decide +kernel) (by decide +kernel)
theorem wn_X7 : Cond.initialized RX7 ∈ uT := uT_tb (i := 14) (by decide +kernel) (by decide +kernel)
theorem wn_J10 : Cond.initialized RJ10 ∈ uT := uT_tb (i := 15) (by decide +kernel) (by decide +kernel)
theorem wn_J9 : Cond.initialized RJ9 ∈ uT := uT_tb (i := 16) (by decide +kernel) (by decide +kernel)
theorem wn_J6 : Cond.initialized RJ6 ∈ uT := uT_tb (i := 17) (by decide +kernel) (by decide +kernel)
theorem wc_L_7 : Cond.classLink RL 7 RX11 ∈ uT := uT_tb (i := 18) (by decide +kernel) (by decide +kernel)
theorem wb_X11 : Cond.instantiable RX11 4 ∈ uT := uT_tb (i := 19) (by decide +kernel) (by decide +kernel)
theorem wm_L_9 : Cond.methodLink RL 9 yX11_init ∈ uT := uT_tb (i := 20) (by decide +kernel) (by decide +kernel)
theorem wi_X11_init : Cond.instanceMethod yX11_init ∈ uT := uT_tb (i := 21) (by decide +kernel) (by decide +kernel)
theorem wk_X11_init : Cond.code yX11_init cX11_init 1 (Option.none : Option FieldType) ∈ uT := uT_tb (i := 22) (by decide +kernel) (by decide +kernel)
theorem wm_X11_3 : Cond.methodLink RX11 3 objectInit ∈ uT := uT_tb (i := 23) (by decide +kernel) (by decide +kernel)
theorem wi_objectInit : Cond.instanceMethod objectInit ∈ uT := uT_tb (i := 24) (by decide +kernel) (by decide +kernel)
theorem wk_objectInit : Cond.code objectInit ⟨#[0xb1]⟩ 1 none ∈ uT := uT_tb (i := 25) (by decide +kernel) (by decide +kernel)
theorem wc_X11_9 : Cond.classLink RX11 9 RX5 ∈ uT := uT_tb (i := 26) (by decide +kernel) (by decide +kernel)
theorem wb_X5 : Cond.instantiable RX5 8 ∈ uT := uT_tb (i := 27) (by decide +kernel) (by decide +kernel)
theorem wi_X5_init : Cond.instanceMethod yX5_init ∈ uT := uT_tb (i := 29) (by decide +kernel) (by decide +kernel)
theorem wk_X5_init : Cond.code yX5_init cX5_init 1 (Option.none : Option FieldType) ∈ uT := uT_tb (i := 30) (by decide +kernel) (by decide +kernel)
theorem wm_X5_3 : Cond.methodLink RX5 3 objectInit ∈ uT := uT_tb (i := 31) (by decide +kernel) (by decide +kernel)
theorem wc_X5_21 : Cond.classLink RX5 21 RX2 ∈ uT := uT_tb (i := 32) (by decide +kernel) (by decide +kernel)
theorem wf_X5_9 : Cond.fieldLink RX5 9 "MendDesk$Net" "versions" "[I" ∈ uT := uT_tb (i := 34) (by decide +kernel) (by decide +kernel)
theorem wf_X11_77 : Cond.fieldLink RX11 77 "MendDesk$Net" "versions" "[I" ∈ uT := uT_tb (i := 35) (by decide +kernel) (by decide +kernel)
theorem wf_X4_79 : Cond.fieldLink RX4 79 "MendDesk$Net" "versions" "[I" ∈ uT := uT_tb (i := 36) (by decide +kernel) (by decide +kernel)
theorem wf_X5_15 : Cond.fieldLink RX5 15 "MendDesk$Net" "worths" "[I" ∈ uT := uT_tb (i := 37) (by decide +kernel) (by decide +kernel)
theorem wf_X9_53 : Cond.fieldLink RX9 53 "MendDesk$Net" "worths" "[I" ∈ uT := uT_tb (i := 38) (by decide +kernel) (by decide +kernel)
theorem wf_X5_18 : Cond.fieldLink RX5 18 "MendDesk$Net" "linksInto" "[I" ∈ uT := uT_tb (i := 39) (by decide +kernel) (by decide +kernel)
theorem wf_X11_58 : Cond.fieldLink RX11 58 "MendDesk$Net" "linksInto" "[I" ∈ uT := uT_tb (i := 40) (by decide +kernel) (by decide +kernel)
theorem wf_X9_91 : Cond.fieldLink RX9 91 "MendDesk$Net" "linksInto" "[I" ∈ uT := uT_tb (i := 41) (by decide +kernel) (by decide +kernel)
theorem wf_X5_23 : Cond.fieldLink RX5 23 "MendDesk$Net" "holes" "[LMendDesk$Hole;" ∈ uT := uT_tb (i := 42) (by decide +kernel) (by decide +kernel)
theorem wf_X5_27 : Cond.fieldLink RX5 27 "MendDesk$Net" "partCount" "I" ∈ uT := uT_tb (i := 43) (by decide +kernel) (by decide +kernel)
theorem wf_X9_41 : Cond.fieldLink RX9 41 "MendDesk$Net" "partCount" "I" ∈ uT := uT_tb (i := 44) (by decide +kernel) (by decide +kernel)
theorem wf_X11_143 : Cond.fieldLink RX11 143 "MendDesk$Net" "partCount" "I" ∈ uT := uT_tb (i := 45) (by decide +kernel) (by decide +kernel)
theorem wf_X5_31 : Cond.fieldLink RX5 31 "MendDesk$Net" "holeCount" "I" ∈ uT := uT_tb (i := 46) (by decide +kernel) (by decide +kernel)
theorem wf_X9_59 : Cond.fieldLink RX9 59 "MendDesk$Net" "holeCount" "I" ∈ uT := uT_tb (i := 47) (by decide +kernel) (by decide +kernel)
theorem wf_X11_233 : Cond.fieldLink RX11 233 "MendDesk$Net" "holeCount" "I" ∈ uT := uT_tb (i := 48) (by decide +kernel) (by decide +kernel)
theorem wf_X5_34 : Cond.fieldLink RX5 34 "MendDesk$Net" "open" "I" ∈ uT := uT_tb (i := 49) (by decide +kernel) (by decide +kernel)
theorem wf_X9_88 : Cond.fieldLink RX9 88 "MendDesk$Net" "open" "I" ∈ uT := uT_tb (i := 50) (by decide +kernel) (by decide +kernel)
theorem wf_X11_73 : Cond.fieldLink RX11 73 "MendDesk$Net" "guarded" "I" ∈ uT := uT_tb (i := 51) (by decide +kernel) (by decide +kernel)
theorem wf_X5_44 : Cond.fieldLink RX5 44 "MendDesk$Net" "guarded" "I" ∈ uT := uT_tb (i := 52) (by decide +kernel) (by decide +kernel)
theorem wf_X4_50 : Cond.fieldLink RX4 50 "MendDesk$Net" "guarded" "I" ∈ uT := uT_tb (i := 53) (by decide +kernel) (by decide +kernel)
theorem wa_int : Cond.arrayClass FieldType.int ∈ uT := uT_tb (i := 71) (by decide +kernel) (by decide +kernel)
theorem wc_X11_16 : Cond.classLink RX11 16 RX9 ∈ uT := uT_tb (i := 72) (by decide +kernel) (by decide +kernel)
theorem wb_X9 : Cond.instantiable RX9 7 ∈ uT := uT_tb (i := 73) (by decide +kernel) (by decide +kernel)
theorem wm_X11_18 : Cond.methodLink RX11 18 yX9_init ∈ uT := uT_tb (i := 74) (by decide +kernel) (by decide +kernel)
theorem wi_X9_init : Cond.instanceMethod yX9_init ∈ uT := uT_tb (i := 75) (by decide +kernel) (by decide +kernel)
theorem wk_X9_init : Cond.code yX9_init cX9_init 2 (Option.none : Option FieldType) ∈ uT := uT_tb (i := 76) (by decide +kernel) (by decide +kernel)
theorem wm_X9_3 : Cond.methodLink RX9 3 objectInit ∈ uT := uT_tb (i := 77) (by decide +kernel) (by decide +kernel)
theorem wf_X9_21 : Cond.fieldLink RX9 21 "MendDesk$Spread" "net" "LMendDesk$Net;" ∈ uT := uT_tb (i := 78) (by decide +kernel) (by decide +kernel)
theorem wf_X9_9 : Cond.fieldLink RX9 9 "MendDesk$Spread" "steps" "[I" ∈ uT := uT_tb (i := 79) (by decide +kernel) (by decide +kernel)
theorem wf_X11_134 : Cond.fieldLink RX11 134 "MendDesk$Spread" "steps" "[I" ∈ uT := uT_tb (i := 80) (by decide +kernel) (by decide +kernel)
theorem wf_X9_15 : Cond.fieldLink RX9 15 "MendDesk$Spread" "byHole" "[I" ∈ uT := uT_tb (i := 81) (by decide +kernel) (by decide +kernel)
theorem wf_X11_137 : Cond.fieldLink RX11 137 "MendDesk$Spread" "byHole" "[I" ∈ uT := uT_tb (i := 82) (by decide +kernel) (by decide +kernel)
theorem wf_X9_18 : Cond.fieldLink RX9 18 "MendDesk$Spread" "fromPart" "[I" ∈ uT := uT_tb (i := 83) (by decide +kernel) (by decide +kernel)
theorem wf_X11_140 : Cond.fieldLink RX11 140 "MendDesk$Spread" "fromPart" "[I" ∈ uT := uT_tb (i := 84) (by decide +kernel) (by decide +kernel)
theorem wf_X9_56 : Cond.fieldLink RX9 56 "MendDesk$Spread" "standing" "I" ∈ uT := uT_tb (i := 85) (by decide +kernel) (by decide +kernel)
theorem wf_X11_239 : Cond.fieldLink RX11 239 "MendDesk$Spread" "standing" "I" ∈ uT := uT_tb (i := 86) (by decide +kernel) (by decide +kernel)
theorem wf_X9_29 : Cond.fieldLink RX9 29 "MendDesk$Spread" "taken" "I" ∈ uT := uT_tb (i := 87) (by decide +kernel) (by decide +kernel)
theorem wf_X11_131 : Cond.fieldLink RX11 131 "MendDesk$Spread" "taken" "I" ∈ uT := uT_tb (i := 88) (by decide +kernel) (by decide +kernel)
theorem wf_X9_50 : Cond.fieldLink RX9 50 "MendDesk$Spread" "twice" "I" ∈ uT := uT_tb (i := 89) (by decide +kernel) (by decide +kernel)
theorem wc_X11_25 : Cond.classLink RX11 25 RX4 ∈ uT := uT_tb (i := 105) (by decide +kernel) (by decide +kernel)
theorem wb_X4 : Cond.instantiable RX4 7 ∈ uT := uT_tb (i := 106) (by decide +kernel) (by decide +kernel)
theorem wm_X11_27 : Cond.methodLink RX11 27 yX4_init ∈ uT := uT_tb (i := 107) (by decide +kernel) (by decide +kernel)
theorem wi_X4_init : Cond.instanceMethod yX4_init ∈ uT := uT_tb (i := 108) (by decide +kernel) (by decide +kernel)
theorem wk_X4_init : Cond.code yX4_init cX4_init 3 (Option.none : Option FieldType) ∈ uT := uT_tb (i := 109) (by decide +kernel) (by decide +kernel)
theorem wm_X4_3 : Cond.methodLink RX4 3 objectInit ∈ uT := uT_tb (i := 110) (by decide +kernel) (by decide +kernel)
theorem wc_X4_9 : Cond.classLink RX4 9 RX3 ∈ uT := uT_tb (i := 111) (by decide +kernel) (by decide +kernel)
theorem wc_X4_17 : Cond.classLink RX4 17 RX7 ∈ uT := uT_tb (i := 113) (by decide +kernel) (by decide +kernel)
theorem wf_X4_27 : Cond.fieldLink RX4 27 "MendDesk$Mends" "net" "LMendDesk$Net;" ∈ uT := uT_tb (i := 115) (by decide +kernel) (by decide +kernel)
theorem wf_X4_31 : Cond.fieldLink RX4 31 "MendDesk$Mends" "spread" "LMendDesk$Spread;" ∈ uT := uT_tb (i := 116) (by decide +kernel) (by decide +kernel)
theorem wf_X4_11 : Cond.fieldLink RX4 11 "MendDesk$Mends" "list" "[LMendDesk$Mend;" ∈ uT := uT_tb (i := 117) (by decide +kernel) (by decide +kernel)
theorem wf_X4_19 : Cond.fieldLink RX4 19 "MendDesk$Mends" "quarrels" "[LMendDesk$Quarrel;" ∈ uT := uT_tb (i := 118) (by decide +kernel) (by decide +kernel)
theorem wf_X4_23 : Cond.fieldLink RX4 23 "MendDesk$Mends" "versionsThen" "[I" ∈ uT := uT_tb (i := 119) (by decide +kernel) (by decide +kernel)
theorem wf_X4_35 : Cond.fieldLink RX4 35 "MendDesk$Mends" "mendCount" "I" ∈ uT := uT_tb (i := 120) (by decide +kernel) (by decide +kernel)
theorem wf_X6_88 : Cond.fieldLink RX6 88 "MendDesk$Mends" "mendCount" "I" ∈ uT := uT_tb (i := 121) (by decide +kernel) (by decide +kernel)
theorem wf_X11_186 : Cond.fieldLink RX11 186 "MendDesk$Mends" "mendCount" "I" ∈ uT := uT_tb (i := 122) (by decide +kernel) (by decide +kernel)
theorem wf_X4_43 : Cond.fieldLink RX4 43 "MendDesk$Mends" "quarrelCount" "I" ∈ uT := uT_tb (i := 123) (by decide +kernel) (by decide +kernel)
theorem wf_X11_236 : Cond.fieldLink RX11 236 "MendDesk$Mends" "quarrelCount" "I" ∈ uT := uT_tb (i := 124) (by decide +kernel) (by decide +kernel)
theorem wc_X11_34 : Cond.classLink RX11 34 RX6 ∈ uT := uT_tb (i := 140) (by decide +kernel) (by decide +kernel)
theorem wb_X6 : Cond.instantiable RX6 9 ∈ uT := uT_tb (i := 141) (by decide +kernel) (by decide +kernel)
theorem wm_X11_36 : Cond.methodLink RX11 36 yX6_init ∈ uT := uT_tb (i := 142) (by decide +kernel) (by decide +kernel)
theorem wi_X6_init : Cond.instanceMethod yX6_init ∈ uT := uT_tb (i := 143) (by decide +kernel) (by decide +kernel)
theorem wk_X6_init : Cond.code yX6_init cX6_init 2 (Option.none : Option FieldType) ∈ uT := uT_tb (i := 144) (by decide +kernel) (by decide +kernel)
theorem wm_X6_3 : Cond.methodLink RX6 3 objectInit ∈ uT := uT_tb (i := 145) (by decide +kernel) (by decide +kernel)
theorem wc_X6_19 : Cond.classLink RX6 19 "[[I" ∈ uT := uT_tb (i := 146) (by decide +kernel) (by decide +kernel)
theorem wm_X6_37 : Cond.methodLink RX6 37 yJ7_fill_53178 ∈ uT := uT_tb (i := 148) (by decide +kernel) (by decide +kernel)
theorem wt_J7_fill_53178 : Cond.static yJ7_fill_53178 ∈ uT := uT_tb (i := 149) (by decide +kernel) (by decide +kernel)
theorem wk_J7_fill_53178 : Cond.code yJ7_fill_53178 cJ7_fill_53178 4 (Option.none : Option FieldType) ∈ uT := uT_tb (i := 150) (by decide +kernel) (by decide +kernel)
theorem wf_X6_33 : Cond.fieldLink RX6 33 "MendDesk$Planner" "mends" "LMendDesk$Mends;" ∈ uT := uT_tb (i := 151) (by decide +kernel) (by decide +kernel)
theorem wf_X6_9 : Cond.fieldLink RX6 9 "MendDesk$Planner" "risks" "[I" ∈ uT := uT_tb (i := 152) (by decide +kernel) (by decide +kernel)
theorem wf_X6_15 : Cond.fieldLink RX6 15 "MendDesk$Planner" "fits" "[Z" ∈ uT := uT_tb (i := 153) (by decide +kernel) (by decide +kernel)
theorem wf_X6_21 : Cond.fieldLink RX6 21 "MendDesk$Planner" "sums" "[[I" ∈ uT := uT_tb (i := 154) (by decide +kernel) (by decide +kernel)
theorem wf_X6_24 : Cond.fieldLink RX6 24 "MendDesk$Planner" "allowed" "[I" ∈ uT := uT_tb (i := 155) (by decide +kernel) (by decide +kernel)
theorem wf_X6_27 : Cond.fieldLink RX6 27 "MendDesk$Planner" "ahead" "[I" ∈ uT := uT_tb (i := 156) (by decide +kernel) (by decide +kernel)
theorem wf_X6_30 : Cond.fieldLink RX6 30 "MendDesk$Planner" "weekOf" "[I" ∈ uT := uT_tb (i := 157) (by decide +kernel) (by decide +kernel)
theorem wf_X11_206 : Cond.fieldLink RX11 206 "MendDesk$Planner" "weekOf" "[I" ∈ uT := uT_tb (i := 158) (by decide +kernel) (by decide +kernel)
theorem wf_X6_82 : Cond.fieldLink RX6 82 "MendDesk$Planner" "planCount" "I" ∈ uT := uT_tb (i := 159) (by decide +kernel) (by decide +kernel)
theorem wf_X11_209 : Cond.fieldLink RX11 209 "MendDesk$Planner" "planCount" "I" ∈ uT := uT_tb (i := 160) (by decide +kernel) (by decide +kernel)
theorem wf_X6_70 : Cond.fieldLink RX6 70 "MendDesk$Planner" "movedMends" "I" ∈ uT := uT_tb (i := 161) (by decide +kernel) (by decide +kernel)
theorem wf_X11_212 : Cond.fieldLink RX11 212 "MendDesk$Planner" "movedMends" "I" ∈ uT := uT_tb (i := 162) (by decide +kernel) (by decide +kernel)
theorem wa_boolean : Cond.arrayClass FieldType.boolean ∈ uT := uT_tb (i := 182) (by decide +kernel) (by decide +kernel)
theorem wf_X11_12 : Cond.fieldLink RX11 12 "MendDesk" "net" "LMendDesk$Net;" ∈ uT := uT_tb (i := 183) (by decide +kernel) (by decide +kernel)
theorem wf_X11_21 : Cond.fieldLink RX11 21 "MendDesk" "spread" "LMendDesk$Spread;" ∈ uT := uT_tb (i := 184) (by decide +kernel) (by decide +kernel)
theorem wf_X11_30 : Cond.fieldLink RX11 30 "MendDesk" "mends" "LMendDesk$Mends;" ∈ uT := uT_tb (i := 185) (by decide +kernel) (by decide +kernel)
theorem wf_X11_39 : Cond.fieldLink RX11 39 "MendDesk" "planner" "LMendDesk$Planner;" ∈ uT := uT_tb (i := 186) (by decide +kernel) (by decide +kernel)
theorem wm_L_13 : Cond.methodLink RL 13 yX11_part ∈ uT := uT_tb (i := 196) (by decide +kernel) (by decide +kernel)
theorem wi_X11_part : Cond.instanceMethod yX11_part ∈ uT := uT_tb (i := 197) (by decide +kernel) (by decide +kernel)
theorem ws_X11_X11_part : Cond.selects RX11 yX11_part yX11_part ∈ uT := uT_tb (i := 198) (by decide +kernel) (by decide +kernel)
theorem wk_X11_part : Cond.code yX11_part cX11_part 4 (Option.some FieldType.int) ∈ uT := uT_tb (i := 199) (by decide +kernel) (by decide +kernel)
theorem wm_X11_43 : Cond.methodLink RX11 43 yX11_isVersion ∈ uT := uT_tb (i := 200) (by decide +kernel) (by decide +kernel)
theorem wt_X11_isVersion : Cond.static yX11_isVersion ∈ uT := uT_tb (i := 201) (by decide +kernel) (by decide +kernel)
theorem wk_X11_isVersion : Cond.code yX11_isVersion cX11_isVersion 1 (Option.some FieldType.boolean) ∈ uT := uT_tb (i := 202) (by decide +kernel) (by decide +kernel)
theorem wm_X11_47 : Cond.methodLink RX11 47 yX11_isBetween ∈ uT := uT_tb (i := 203) (by decide +kernel) (by decide +kernel)
theorem wt_X11_isBetween : Cond.static yX11_isBetween ∈ uT := uT_tb (i := 204) (by decide +kernel) (by decide +kernel)
theorem wk_X11_isBetween : Cond.code yX11_isBetween cX11_isBetween 3 (Option.some FieldType.boolean) ∈ uT := uT_tb (i := 205) (by decide +kernel) (by decide +kernel)
theorem wm_X11_51 : Cond.methodLink RX11 51 yX5_addPart ∈ uT := uT_tb (i := 206) (by decide +kernel) (by decide +kernel)
theorem wi_X5_addPart : Cond.instanceMethod yX5_addPart ∈ uT := uT_tb (i := 207) (by decide +kernel) (by decide +kernel)
theorem ws_X5_X5_addPart : Cond.selects RX5 yX5_addPart yX5_addPart ∈ uT := uT_tb (i := 208) (by decide +kernel) (by decide +kernel)
theorem wk_X5_addPart : Cond.code yX5_addPart cX5_addPart 4 (Option.some FieldType.int) ∈ uT := uT_tb (i := 209) (by decide +kernel) (by decide +kernel)
theorem wt_X11_withMember : Cond.static yX11_withMember ∈ uT := uT_tb (i := 211) (by decide +kernel) (by decide +kernel)
theorem wk_X11_withMember : Cond.code yX11_withMember cX11_withMember 3 (Option.some FieldType.int) ∈ uT := uT_tb (i := 212) (by decide +kernel) (by decide +kernel)
theorem wm_X11_146 : Cond.methodLink RX11 146 yX11_bit ∈ uT := uT_tb (i := 213) (by decide +kernel) (by decide +kernel)
theorem wt_X11_bit : Cond.static yX11_bit ∈ uT := uT_tb (i := 214) (by decide +kernel) (by decide +kernel)
theorem wk_X11_bit : Cond.code yX11_bit cX11_bit 1 (Option.some FieldType.int) ∈ uT := uT_tb (i := 215) (by decide +kernel) (by decide +kernel)
theorem wm_L_18 : Cond.methodLink RL 18 yX11_link ∈ uT := uT_tb (i := 216) (by decide +kernel) (by decide +kernel)
theorem wi_X11_link : Cond.instanceMethod yX11_link ∈ uT := uT_tb (i := 217) (by decide +kernel) (by decide +kernel)
theorem ws_X11_X11_link : Cond.selects RX11 yX11_link yX11_link ∈ uT := uT_tb (i := 218) (by decide +kernel) (by decide +kernel)
theorem wk_X11_link : Cond.code yX11_link cX11_link 5 (Option.some FieldType.int) ∈ uT := uT_tb (i := 219) (by decide +kernel) (by decide +kernel)
theorem wm_X11_55 : Cond.methodLink RX11 55 yX5_hasPart ∈ uT := uT_tb (i := 220) (by decide +kernel) (by decide +kernel)
theorem wi_X5_hasPart : Cond.instanceMethod yX5_hasPart ∈ uT := uT_tb (i := 221) (by decide +kernel) (by decide +kernel)
theorem ws_X5_X5_hasPart : Cond.selects RX5 yX5_hasPart yX5_hasPart ∈ uT := uT_tb (i := 222) (by decide +kernel) (by decide +kernel)
theorem wk_X5_hasPart : Cond.code yX5_hasPart cX5_hasPart 2 (Option.some FieldType.boolean) ∈ uT := uT_tb (i := 223) (by decide +kernel) (by decide +kernel)
theorem wm_X11_62 : Cond.methodLink RX11 62 yX11_withMember ∈ uT := uT_tb (i := 224) (by decide +kernel) (by decide +kernel)
theorem wm_X11_65 : Cond.methodLink RX11 65 yX11_isIn ∈ uT := uT_tb (i := 225) (by decide +kernel) (by decide +kernel)
theorem wt_X11_isIn : Cond.static yX11_isIn ∈ uT := uT_tb (i := 226) (by decide +kernel) (by decide +kernel)
theorem wk_X11_isIn : Cond.code yX11_isIn cX11_isIn 2 (Option.some FieldType.boolean) ∈ uT := uT_tb (i := 227) (by decide +kernel) (by decide +kernel)
theorem wm_X11_69 : Cond.methodLink RX11 69 yX11_asNumber ∈ uT := uT_tb (i := 228) (by decide +kernel) (by decide +kernel)
theorem wt_X11_asNumber : Cond.static yX11_asNumber ∈ uT := uT_tb (i := 229) (by decide +kernel) (by decide +kernel)
theorem wk_X11_asNumber : Cond.code yX11_asNumber cX11_asNumber 1 (Option.some FieldType.int) ∈ uT := uT_tb (i := 230) (by decide +kernel) (by decide +kernel)
theorem wm_L_22 : Cond.methodLink RL 22 yX11_guard ∈ uT := uT_tb (i := 231) (by decide +kernel) (by decide +kernel)
theorem wi_X11_guard : Cond.instanceMethod yX11_guard ∈ uT := uT_tb (i := 232) (by decide +kernel) (by decide +kernel)
theorem ws_X11_X11_guard : Cond.selects RX11 yX11_guard yX11_guard ∈ uT := uT_tb (i := 233) (by decide +kernel) (by decide +kernel)
theorem wk_X11_guard : Cond.code yX11_guard cX11_guard 4 (Option.some FieldType.int) ∈ uT := uT_tb (i := 234) (by decide +kernel) (by decide +kernel)
theorem wm_L_27 : Cond.methodLink RL 27 yX11_version ∈ uT := uT_tb (i := 235) (by decide +kernel) (by decide +kernel)
theorem wi_X11_version : Cond.instanceMethod yX11_version ∈ uT := uT_tb (i := 236) (by decide +kernel) (by decide +kernel)
theorem ws_X11_X11_version : Cond.selects RX11 yX11_version yX11_version ∈ uT := uT_tb (i := 237) (by decide +kernel) (by decide +kernel)
theorem wk_X11_version : Cond.code yX11_version cX11_version 4 (Option.some FieldType.int) ∈ uT := uT_tb (i := 238) (by decide +kernel) (by decide +kernel)
theorem wm_L_32 : Cond.methodLink RL 32 yX11_hole ∈ uT := uT_tb (i := 239) (by decide +kernel) (by decide +kernel)
theorem wi_X11_hole : Cond.instanceMethod yX11_hole ∈ uT := uT_tb (i := 240) (by decide +kernel) (by decide +kernel)
theorem ws_X11_X11_hole : Cond.selects RX11 yX11_hole yX11_hole ∈ uT := uT_tb (i := 241) (by decide +kernel) (by decide +kernel)
theorem wk_X11_hole : Cond.code yX11_hole cX11_hole 6 (Option.some FieldType.int) ∈ uT := uT_tb (i := 242) (by decide +kernel) (by decide +kernel)
theorem wm_X11_80 : Cond.methodLink RX11 80 yX11_isSpan ∈ uT := uT_tb (i := 243) (by decide +kernel) (by decide +kernel)
theorem wt_X11_isSpan : Cond.static yX11_isSpan ∈ uT := uT_tb (i := 244) (by decide +kernel) (by decide +kernel)
theorem wk_X11_isSpan : Cond.code yX11_isSpan cX11_isSpan 2 (Option.some FieldType.boolean) ∈ uT := uT_tb (i := 245) (by decide +kernel) (by decide +kernel)
theorem wm_X11_83 : Cond.methodLink RX11 83 yX11_newHole ∈ uT := uT_tb (i := 246) (by decide +kernel) (by decide +kernel)
theorem wt_X11_newHole : Cond.static yX11_newHole ∈ uT := uT_tb (i := 247) (by decide +kernel) (by decide +kernel)
theorem wk_X11_newHole : Cond.code yX11_newHole cX11_newHole 4 (Option.some (FieldType.object "MendDesk$Hole")) ∈ uT := uT_tb (i := 248) (by decide +kernel) (by decide +kernel)
theorem wc_X11_98 : Cond.classLink RX11 98 RX2 ∈ uT := uT_tb (i := 249) (by decide +kernel) (by decide +kernel)
theorem wb_X2 : Cond.instantiable RX2 3 ∈ uT := uT_tb (i := 250) (by decide +kernel) (by decide +kernel)
theorem wm_X11_247 : Cond.methodLink RX11 247 yX2_init ∈ uT := uT_tb (i := 251) (by decide +kernel) (by decide +kernel)
theorem wi_X2_init : Cond.instanceMethod yX2_init ∈ uT := uT_tb (i := 252) (by decide +kernel) (by decide +kernel)
theorem wk_X2_init : Cond.code yX2_init cX2_init 4 (Option.none : Option FieldType) ∈ uT := uT_tb (i := 253) (by decide +kernel) (by decide +kernel)
theorem wm_X2_1 : Cond.methodLink RX2 1 objectInit ∈ uT := uT_tb (i := 254) (by decide +kernel) (by decide +kernel)
theorem wf_X2_7 : Cond.fieldLink RX2 7 "MendDesk$Hole" "part" "I" ∈ uT := uT_tb (i := 255) (by decide +kernel) (by decide +kernel)
theorem wf_X0_16 : Cond.fieldLink RX0 16 "MendDesk$Chained" "part" "I" ∈ uT := uT_tb (i := 256) (by decide +kernel) (by decide +kernel)
theorem wf_X9_66 : Cond.fieldLink RX9 66 "MendDesk$Hole" "part" "I" ∈ uT := uT_tb (i := 258) (by decide +kernel) (by decide +kernel)
theorem wf_X5_41 : Cond.fieldLink RX5 41 "MendDesk$Hole" "part" "I" ∈ uT := uT_tb (i := 259) (by decide +kernel) (by decide +kernel)
theorem wf_X11_97 : Cond.fieldLink RX11 97 "MendDesk$Hole" "part" "I" ∈ uT := uT_tb (i := 260) (by decide +kernel) (by decide +kernel)
theorem wf_X2_13 : Cond.fieldLink RX2 13 "MendDesk$Hole" "low" "I" ∈ uT := uT_tb (i := 261) (by decide +kernel) (by decide +kernel)
theorem wf_X11_118 : Cond.fieldLink RX11 118 "MendDesk$Hole" "low" "I" ∈ uT := uT_tb (i := 262) (by decide +kernel) (by decide +kernel)
theorem wf_X2_16 : Cond.fieldLink RX2 16 "MendDesk$Hole" "high" "I" ∈ uT := uT_tb (i := 263) (by decide +kernel) (by decide +kernel)
theorem wf_X11_121 : Cond.fieldLink RX11 121 "MendDesk$Hole" "high" "I" ∈ uT := uT_tb (i := 264) (by decide +kernel) (by decide +kernel)
theorem wc_X11_250 : Cond.classLink RX11 250 RX8 ∈ uT := uT_tb (i := 272) (by decide +kernel) (by decide +kernel)
theorem wb_X8 : Cond.instantiable RX8 3 ∈ uT := uT_tb (i := 273) (by decide +kernel) (by decide +kernel)
theorem wm_X11_252 : Cond.methodLink RX11 252 yX8_init ∈ uT := uT_tb (i := 274) (by decide +kernel) (by decide +kernel)
theorem wi_X8_init : Cond.instanceMethod yX8_init ∈ uT := uT_tb (i := 275) (by decide +kernel) (by decide +kernel)
theorem wk_X8_init : Cond.code yX8_init cX8_init 4 (Option.none : Option FieldType) ∈ uT := uT_tb (i := 276) (by decide +kernel) (by decide +kernel)
theorem wm_X8_1 : Cond.methodLink RX8 1 yX2_init ∈ uT := uT_tb (i := 277) (by decide +kernel) (by decide +kernel)
theorem wc_X11_253 : Cond.classLink RX11 253 RX10 ∈ uT := uT_tb (i := 282) (by decide +kernel) (by decide +kernel)
theorem wb_X10 : Cond.instantiable RX10 3 ∈ uT := uT_tb (i := 283) (by decide +kernel) (by decide +kernel)
theorem wm_X11_255 : Cond.methodLink RX11 255 yX10_init ∈ uT := uT_tb (i := 284) (by decide +kernel) (by decide +kernel)
theorem wi_X10_init : Cond.instanceMethod yX10_init ∈ uT := uT_tb (i := 285) (by decide +kernel) (by decide +kernel)
theorem wk_X10_init : Cond.code yX10_init cX10_init 4 (Option.none : Option FieldType) ∈ uT := uT_tb (i := 286) (by decide +kernel) (by decide +kernel)
theorem wm_X10_1 : Cond.methodLink RX10 1 yX8_init ∈ uT := uT_tb (i := 287) (by decide +kernel) (by decide +kernel)
theorem wc_X11_105 : Cond.classLink RX11 105 RX1 ∈ uT := uT_tb (i := 292) (by decide +kernel) (by decide +kernel)
theorem wb_X1 : Cond.instantiable RX1 4 ∈ uT := uT_tb (i := 293) (by decide +kernel) (by decide +kernel)
theorem wm_X11_256 : Cond.methodLink RX11 256 yX1_init ∈ uT := uT_tb (i := 294) (by decide +kernel) (by decide +kernel)
theorem wi_X1_init : Cond.instanceMethod yX1_init ∈ uT := uT_tb (i := 295) (by decide +kernel) (by decide +kernel)
theorem wk_X1_init : Cond.code yX1_init cX1_init 4 (Option.none : Option FieldType) ∈ uT := uT_tb (i := 296) (by decide +kernel) (by decide +kernel)
theorem wm_X1_1 : Cond.methodLink RX1 1 yX2_init ∈ uT := uT_tb (i := 297) (by decide +kernel) (by decide +kernel)
theorem wf_X1_7 : Cond.fieldLink RX1 7 "MendDesk$Dormant" "awake" "Z" ∈ uT := uT_tb (i := 298) (by decide +kernel) (by decide +kernel)
theorem wf_X11_107 : Cond.fieldLink RX11 107 "MendDesk$Dormant" "awake" "Z" ∈ uT := uT_tb (i := 299) (by decide +kernel) (by decide +kernel)
theorem wm_X11_87 : Cond.methodLink RX11 87 yX5_addHole ∈ uT := uT_tb (i := 306) (by decide +kernel) (by decide +kernel)
theorem wi_X5_addHole : Cond.instanceMethod yX5_addHole ∈ uT := uT_tb (i := 307) (by decide +kernel) (by decide +kernel)
theorem ws_X5_X5_addHole : Cond.selects RX5 yX5_addHole yX5_addHole ∈ uT := uT_tb (i := 308) (by decide +kernel) (by decide +kernel)
theorem wk_X5_addHole : Cond.code yX5_addHole cX5_addHole 2 (Option.some FieldType.int) ∈ uT := uT_tb (i := 309) (by decide +kernel) (by decide +kernel)
theorem wm_L_37 : Cond.methodLink RL 37 yX11_chained ∈ uT := uT_tb (i := 310) (by decide +kernel) (by decide +kernel)
theorem wi_X11_chained : Cond.instanceMethod yX11_chained ∈ uT := uT_tb (i := 311) (by decide +kernel) (by decide +kernel)
theorem ws_X11_X11_chained : Cond.selects RX11 yX11_chained yX11_chained ∈ uT := uT_tb (i := 312) (by decide +kernel) (by decide +kernel)
theorem wk_X11_chained : Cond.code yX11_chained cX11_chained 6 (Option.some FieldType.int) ∈ uT := uT_tb (i := 313) (by decide +kernel) (by decide +kernel)
theorem wm_X11_91 : Cond.methodLink RX11 91 yX5_holeAt ∈ uT := uT_tb (i := 314) (by decide +kernel) (by decide +kernel)
theorem wi_X5_holeAt : Cond.instanceMethod yX5_holeAt ∈ uT := uT_tb (i := 315) (by decide +kernel) (by decide +kernel)
theorem ws_X5_X5_holeAt : Cond.selects RX5 yX5_holeAt yX5_holeAt ∈ uT := uT_tb (i := 316) (by decide +kernel) (by decide +kernel)
theorem wk_X5_holeAt : Cond.code yX5_holeAt cX5_holeAt 2 (Option.some (FieldType.object "MendDesk$Hole")) ∈ uT := uT_tb (i := 317) (by decide +kernel) (by decide +kernel)
theorem wc_X11_95 : Cond.classLink RX11 95 RX0 ∈ uT := uT_tb (i := 318) (by decide +kernel) (by decide +kernel)
theorem wb_X0 : Cond.instantiable RX0 5 ∈ uT := uT_tb (i := 319) (by decide +kernel) (by decide +kernel)
theorem wm_X11_102 : Cond.methodLink RX11 102 yX0_init ∈ uT := uT_tb (i := 320) (by decide +kernel) (by decide +kernel)
theorem wi_X0_init : Cond.instanceMethod yX0_init ∈ uT := uT_tb (i := 321) (by decide +kernel) (by decide +kernel)
theorem wk_X0_init : Cond.code yX0_init cX0_init 6 (Option.none : Option FieldType) ∈ uT := uT_tb (i := 322) (by decide +kernel) (by decide +kernel)
theorem wm_X0_1 : Cond.methodLink RX0 1 yX2_init ∈ uT := uT_tb (i := 323) (by decide +kernel) (by decide +kernel)
theorem wf_X0_7 : Cond.fieldLink RX0 7 "MendDesk$Chained" "to" "I" ∈ uT := uT_tb (i := 324) (by decide +kernel) (by decide +kernel)
theorem wf_X11_111 : Cond.fieldLink RX11 111 "MendDesk$Chained" "to" "I" ∈ uT := uT_tb (i := 325) (by decide +kernel) (by decide +kernel)
theorem wf_X0_13 : Cond.fieldLink RX0 13 "MendDesk$Chained" "toPart" "I" ∈ uT := uT_tb (i := 326) (by decide +kernel) (by decide +kernel)
theorem wm_L_41 : Cond.methodLink RL 41 yX11_wake ∈ uT := uT_tb (i := 335) (by decide +kernel) (by decide +kernel)
theorem wi_X11_wake : Cond.instanceMethod yX11_wake ∈ uT := uT_tb (i := 336) (by decide +kernel) (by decide +kernel)
theorem ws_X11_X11_wake : Cond.selects RX11 yX11_wake yX11_wake ∈ uT := uT_tb (i := 337) (by decide +kernel) (by decide +kernel)
theorem wk_X11_wake : Cond.code yX11_wake cX11_wake 6 (Option.some FieldType.int) ∈ uT := uT_tb (i := 338) (by decide +kernel) (by decide +kernel)
theorem wm_L_45 : Cond.methodLink RL 45 yX11_chain ∈ uT := uT_tb (i := 339) (by decide +kernel) (by decide +kernel)
theorem wi_X11_chain : Cond.instanceMethod yX11_chain ∈ uT := uT_tb (i := 340) (by decide +kernel) (by decide +kernel)
theorem ws_X11_X11_chain : Cond.selects RX11 yX11_chain yX11_chain ∈ uT := uT_tb (i := 341) (by decide +kernel) (by decide +kernel)
theorem wk_X11_chain : Cond.code yX11_chain cX11_chain 4 (Option.some FieldType.int) ∈ uT := uT_tb (i := 342) (by decide +kernel) (by decide +kernel)
theorem wm_L_50 : Cond.methodLink RL 50 yX11_told ∈ uT := uT_tb (i := 343) (by decide +kernel) (by decide +kernel)
theorem wi_X11_told : Cond.instanceMethod yX11_told ∈ uT := uT_tb (i := 344) (by decide +kernel) (by decide +kernel)
theorem ws_X11_X11_told : Cond.selects RX11 yX11_told yX11_told ∈ uT := uT_tb (i := 345) (by decide +kernel) (by decide +kernel)
theorem wk_X11_told : Cond.code yX11_told cX11_told 4 (Option.some FieldType.int) ∈ uT := uT_tb (i := 346) (by decide +kernel) (by decide +kernel)
theorem wm_X11_114 : Cond.methodLink RX11 114 yX2_kind ∈ uT := uT_tb (i := 347) (by decide +kernel) (by decide +kernel)
theorem wi_X2_kind : Cond.instanceMethod yX2_kind ∈ uT := uT_tb (i := 348) (by decide +kernel) (by decide +kernel)
theorem ws_X2_X2_kind : Cond.selects RX2 yX2_kind yX2_kind ∈ uT := uT_tb (i := 349) (by decide +kernel) (by decide +kernel)
theorem ws_X0_X2_kind : Cond.selects RX0 yX2_kind yX0_kind ∈ uT := uT_tb (i := 351) (by decide +kernel) (by decide +kernel)
theorem wi_X0_kind : Cond.instanceMethod yX0_kind ∈ uT := uT_tb (i := 352) (by decide +kernel) (by decide +kernel)
theorem wk_X0_kind : Cond.code yX0_kind cX0_kind 1 (Option.some FieldType.int) ∈ uT := uT_tb (i := 353) (by decide +kernel) (by decide +kernel)
theorem ws_X1_X2_kind : Cond.selects RX1 yX2_kind yX1_kind ∈ uT := uT_tb (i := 354) (by decide +kernel) (by decide +kernel)
theorem wi_X1_kind : Cond.instanceMethod yX1_kind ∈ uT := uT_tb (i := 355) (by decide +kernel) (by decide +kernel)
theorem wk_X1_kind : Cond.code yX1_kind cX1_kind 1 (Option.some FieldType.int) ∈ uT := uT_tb (i := 356) (by decide +kernel) (by decide +kernel)
theorem ws_X8_X2_kind : Cond.selects RX8 yX2_kind yX8_kind ∈ uT := uT_tb (i := 357) (by decide +kernel) (by decide +kernel)
theorem wi_X8_kind : Cond.instanceMethod yX8_kind ∈ uT := uT_tb (i := 358) (by decide +kernel) (by decide +kernel)
theorem wk_X8_kind : Cond.code yX8_kind cX8_kind 1 (Option.some FieldType.int) ∈ uT := uT_tb (i := 359) (by decide +kernel) (by decide +kernel)
theorem ws_X10_X2_kind : Cond.selects RX10 yX2_kind yX10_kind ∈ uT := uT_tb (i := 360) (by decide +kernel) (by decide +kernel)
theorem wi_X10_kind : Cond.instanceMethod yX10_kind ∈ uT := uT_tb (i := 361) (by decide +kernel) (by decide +kernel)
theorem wk_X10_kind : Cond.code yX10_kind cX10_kind 1 (Option.some FieldType.int) ∈ uT := uT_tb (i := 362) (by decide +kernel) (by decide +kernel)
theorem wk_X2_kind : Cond.code yX2_kind cX2_kind 1 (Option.some FieldType.int) ∈ uT := uT_tb (i := 363) (by decide +kernel) (by decide +kernel)
theorem wm_X11_124 : Cond.methodLink RX11 124 yX5_standsNow ∈ uT := uT_tb (i := 364) (by decide +kernel) (by decide +kernel)
theorem wi_X5_standsNow : Cond.instanceMethod yX5_standsNow ∈ uT := uT_tb (i := 365) (by decide +kernel) (by decide +kernel)
theorem ws_X5_X5_standsNow : Cond.selects RX5 yX5_standsNow yX5_standsNow ∈ uT := uT_tb (i := 366) (by decide +kernel) (by decide +kernel)
theorem wk_X5_standsNow : Cond.code yX5_standsNow cX5_standsNow 2 (Option.some FieldType.boolean) ∈ uT := uT_tb (i := 367) (by decide +kernel) (by decide +kernel)
theorem wm_X5_51 : Cond.methodLink RX5 51 yX2_stands ∈ uT := uT_tb (i := 369) (by decide +kernel) (by decide +kernel)
theorem wi_X2_stands : Cond.instanceMethod yX2_stands ∈ uT := uT_tb (i := 370) (by decide +kernel) (by decide +kernel)
theorem ws_X2_X2_stands : Cond.selects RX2 yX2_stands yX2_stands ∈ uT := uT_tb (i := 371) (by decide +kernel) (by decide +kernel)
theorem ws_X0_X2_stands : Cond.selects RX0 yX2_stands yX2_stands ∈ uT := uT_tb (i := 373) (by decide +kernel) (by decide +kernel)
theorem ws_X1_X2_stands : Cond.selects RX1 yX2_stands yX1_stands ∈ uT := uT_tb (i := 374) (by decide +kernel) (by decide +kernel)
theorem wi_X1_stands : Cond.instanceMethod yX1_stands ∈ uT := uT_tb (i := 375) (by decide +kernel) (by decide +kernel)
theorem wk_X1_stands : Cond.code yX1_stands cX1_stands 3 (Option.some FieldType.boolean) ∈ uT := uT_tb (i := 376) (by decide +kernel) (by decide +kernel)
theorem wm_X1_13 : Cond.methodLink RX1 13 ⟨"MendDesk$Dormant", "isOfVersion", "(I)Z"⟩ ∈ uT := uT_tb (i := 377) (by decide +kernel) (by decide +kernel)
theorem ws_X1_DormantisOfVersion : Cond.selects RX1 ⟨"MendDesk$Dormant", "isOfVersion", "(I)Z"⟩ yX2_isOfVersion ∈ uT := uT_tb (i := 380) (by decide +kernel) (by decide +kernel)
theorem wi_X2_isOfVersion : Cond.instanceMethod yX2_isOfVersion ∈ uT := uT_tb (i := 381) (by decide +kernel) (by decide +kernel)
theorem wk_X2_isOfVersion : Cond.code yX2_isOfVersion cX2_isOfVersion 2 (Option.some FieldType.boolean) ∈ uT := uT_tb (i := 382) (by decide +kernel) (by decide +kernel)
theorem ws_X8_X2_stands : Cond.selects RX8 yX2_stands yX8_stands ∈ uT := uT_tb (i := 383) (by decide +kernel) (by decide +kernel)
theorem wi_X8_stands : Cond.instanceMethod yX8_stands ∈ uT := uT_tb (i := 384) (by decide +kernel) (by decide +kernel)
theorem wk_X8_stands : Cond.code yX8_stands cX8_stands 3 (Option.some FieldType.boolean) ∈ uT := uT_tb (i := 385) (by decide +kernel) (by decide +kernel)
theorem wm_X8_7 : Cond.methodLink RX8 7 ⟨"MendDesk$Shielded", "isOfVersion", "(I)Z"⟩ ∈ uT := uT_tb (i := 386) (by decide +kernel) (by decide +kernel)
theorem ws_X8_ShieldedisOfVersion : Cond.selects RX8 ⟨"MendDesk$Shielded", "isOfVersion", "(I)Z"⟩ yX2_isOfVersion ∈ uT := uT_tb (i := 388) (by decide +kernel) (by decide +kernel)
theorem ws_X10_ShieldedisOfVersion : Cond.selects RX10 ⟨"MendDesk$Shielded", "isOfVersion", "(I)Z"⟩ yX2_isOfVersion ∈ uT := uT_tb (i := 389) (by decide +kernel) (by decide +kernel)
theorem ws_X10_X2_stands : Cond.selects RX10 yX2_stands yX10_stands ∈ uT := uT_tb (i := 390) (by decide +kernel) (by decide +kernel)
theorem wi_X10_stands : Cond.instanceMethod yX10_stands ∈ uT := uT_tb (i := 391) (by decide +kernel) (by decide +kernel)
theorem wk_X10_stands : Cond.code yX10_stands cX10_stands 3 (Option.some FieldType.boolean) ∈ uT := uT_tb (i := 392) (by decide +kernel) (by decide +kernel)
theorem wm_X10_7 : Cond.methodLink RX10 7 ⟨"MendDesk$Used", "isOfVersion", "(I)Z"⟩ ∈ uT := uT_tb (i := 393) (by decide +kernel) (by decide +kernel)
theorem ws_X10_UsedisOfVersion : Cond.selects RX10 ⟨"MendDesk$Used", "isOfVersion", "(I)Z"⟩ yX2_isOfVersion ∈ uT := uT_tb (i := 395) (by decide +kernel) (by decide +kernel)
theorem wk_X2_stands : Cond.code yX2_stands cX2_stands 3 (Option.some FieldType.boolean) ∈ uT := uT_tb (i := 396) (by decide +kernel) (by decide +kernel)
theorem wm_X2_19 : Cond.methodLink RX2 19 yX2_isOfVersion ∈ uT := uT_tb (i := 397) (by decide +kernel) (by decide +kernel)
theorem wm_L_54 : Cond.methodLink RL 54 yX11_risk ∈ uT := uT_tb (i := 398) (by decide +kernel) (by decide +kernel)
theorem wi_X11_risk : Cond.instanceMethod yX11_risk ∈ uT := uT_tb (i := 399) (by decide +kernel) (by decide +kernel)
theorem ws_X11_X11_risk : Cond.selects RX11 yX11_risk yX11_risk ∈ uT := uT_tb (i := 400) (by decide +kernel) (by decide +kernel)
theorem wk_X11_risk : Cond.code yX11_risk cX11_risk 1 (Option.some FieldType.int) ∈ uT := uT_tb (i := 401) (by decide +kernel) (by decide +kernel)
theorem wm_X11_128 : Cond.methodLink RX11 128 yX11_spreadNow ∈ uT := uT_tb (i := 402) (by decide +kernel) (by decide +kernel)
theorem wi_X11_spreadNow : Cond.instanceMethod yX11_spreadNow ∈ uT := uT_tb (i := 404) (by decide +kernel) (by decide +kernel)
theorem wk_X11_spreadNow : Cond.code yX11_spreadNow cX11_spreadNow 1 (Option.some FieldType.int) ∈ uT := uT_tb (i := 405) (by decide +kernel) (by decide +kernel)
theorem wm_X11_150 : Cond.methodLink RX11 150 yX9_run ∈ uT := uT_tb (i := 406) (by decide +kernel) (by decide +kernel)
theorem wi_X9_run : Cond.instanceMethod yX9_run ∈ uT := uT_tb (i := 407) (by decide +kernel) (by decide +kernel)
theorem ws_X9_X9_run : Cond.selects RX9 yX9_run yX9_run ∈ uT := uT_tb (i := 408) (by decide +kernel) (by decide +kernel)
theorem wk_X9_run : Cond.code yX9_run cX9_run 5 (Option.some FieldType.int) ∈ uT := uT_tb (i := 409) (by decide +kernel) (by decide +kernel)
theorem wm_X9_25 : Cond.methodLink RX9 25 yX9_findStanding ∈ uT := uT_tb (i := 410) (by decide +kernel) (by decide +kernel)
theorem wi_X9_findStanding : Cond.instanceMethod yX9_findStanding ∈ uT := uT_tb (i := 412) (by decide +kernel) (by decide +kernel)
theorem wk_X9_findStanding : Cond.code yX9_findStanding cX9_findStanding 5 (Option.none : Option FieldType) ∈ uT := uT_tb (i := 413) (by decide +kernel) (by decide +kernel)
theorem wm_X9_62 : Cond.methodLink RX9 62 yX5_holeAt ∈ uT := uT_tb (i := 414) (by decide +kernel) (by decide +kernel)
theorem wm_X9_71 : Cond.methodLink RX9 71 yX2_stands ∈ uT := uT_tb (i := 416) (by decide +kernel) (by decide +kernel)
theorem wc_X9_78 : Cond.classLink RX9 78 RX10 ∈ uT := uT_tb (i := 418) (by decide +kernel) (by decide +kernel)
theorem wm_X9_33 : Cond.methodLink RX9 33 yX9_takeStep ∈ uT := uT_tb (i := 419) (by decide +kernel) (by decide +kernel)
theorem wi_X9_takeStep : Cond.instanceMethod yX9_takeStep ∈ uT := uT_tb (i := 421) (by decide +kernel) (by decide +kernel)
theorem wk_X9_takeStep : Cond.code yX9_takeStep cX9_takeStep 7 (Option.some FieldType.int) ∈ uT := uT_tb (i := 422) (by decide +kernel) (by decide +kernel)
theorem wm_X9_80 : Cond.methodLink RX9 80 yX2_isFreed ∈ uT := uT_tb (i := 423) (by decide +kernel) (by decide +kernel)
theorem wi_X2_isFreed : Cond.instanceMethod yX2_isFreed ∈ uT := uT_tb (i := 424) (by decide +kernel) (by decide +kernel)
theorem ws_X2_X2_isFreed : Cond.selects RX2 yX2_isFreed yX2_isFreed ∈ uT := uT_tb (i := 425) (by decide +kernel) (by decide +kernel)
theorem ws_X0_X2_isFreed : Cond.selects RX0 yX2_isFreed yX0_isFreed ∈ uT := uT_tb (i := 427) (by decide +kernel) (by decide +kernel)
theorem wi_X0_isFreed : Cond.instanceMethod yX0_isFreed ∈ uT := uT_tb (i := 428) (by decide +kernel) (by decide +kernel)
theorem wk_X0_isFreed : Cond.code yX0_isFreed cX0_isFreed 4 (Option.some FieldType.boolean) ∈ uT := uT_tb (i := 429) (by decide +kernel) (by decide +kernel)
theorem ws_X1_X2_isFreed : Cond.selects RX1 yX2_isFreed yX2_isFreed ∈ uT := uT_tb (i := 431) (by decide +kernel) (by decide +kernel)
theorem ws_X8_X2_isFreed : Cond.selects RX8 yX2_isFreed yX2_isFreed ∈ uT := uT_tb (i := 432) (by decide +kernel) (by decide +kernel)
theorem ws_X10_X2_isFreed : Cond.selects RX10 yX2_isFreed yX2_isFreed ∈ uT := uT_tb (i := 433) (by decide +kernel) (by decide +kernel)
theorem wk_X2_isFreed : Cond.code yX2_isFreed cX2_isFreed 4 (Option.some FieldType.boolean) ∈ uT := uT_tb (i := 434) (by decide +kernel) (by decide +kernel)
theorem wm_X9_84 : Cond.methodLink RX9 84 yX9_isReached ∈ uT := uT_tb (i := 435) (by decide +kernel) (by decide +kernel)
theorem wi_X9_isReached : Cond.instanceMethod yX9_isReached ∈ uT := uT_tb (i := 437) (by decide +kernel) (by decide +kernel)
theorem wk_X9_isReached : Cond.code yX9_isReached cX9_isReached 2 (Option.some FieldType.boolean) ∈ uT := uT_tb (i := 438) (by decide +kernel) (by decide +kernel)
theorem wm_X9_94 : Cond.methodLink RX9 94 yX9_leastOf ∈ uT := uT_tb (i := 439) (by decide +kernel) (by decide +kernel)
theorem wt_X9_leastOf : Cond.static yX9_leastOf ∈ uT := uT_tb (i := 440) (by decide +kernel) (by decide +kernel)
theorem wk_X9_leastOf : Cond.code yX9_leastOf cX9_leastOf 2 (Option.some FieldType.int) ∈ uT := uT_tb (i := 441) (by decide +kernel) (by decide +kernel)
theorem wm_X9_37 : Cond.methodLink RX9 37 yX9_sumOfWorths ∈ uT := uT_tb (i := 442) (by decide +kernel) (by decide +kernel)
theorem wi_X9_sumOfWorths : Cond.instanceMethod yX9_sumOfWorths ∈ uT := uT_tb (i := 444) (by decide +kernel) (by decide +kernel)
theorem wk_X9_sumOfWorths : Cond.code yX9_sumOfWorths cX9_sumOfWorths 3 (Option.some FieldType.int) ∈ uT := uT_tb (i := 445) (by decide +kernel) (by decide +kernel)
theorem wm_L_59 : Cond.methodLink RL 59 yX11_taken ∈ uT := uT_tb (i := 446) (by decide +kernel) (by decide +kernel)
theorem wi_X11_taken : Cond.instanceMethod yX11_taken ∈ uT := uT_tb (i := 447) (by decide +kernel) (by decide +kernel)
theorem ws_X11_X11_taken : Cond.selects RX11 yX11_taken yX11_taken ∈ uT := uT_tb (i := 448) (by decide +kernel) (by decide +kernel)
theorem wk_X11_taken : Cond.code yX11_taken cX11_taken 1 (Option.some FieldType.int) ∈ uT := uT_tb (i := 449) (by decide +kernel) (by decide +kernel)
theorem wm_L_63 : Cond.methodLink RL 63 yX11_way ∈ uT := uT_tb (i := 450) (by decide +kernel) (by decide +kernel)
theorem wi_X11_way : Cond.instanceMethod yX11_way ∈ uT := uT_tb (i := 451) (by decide +kernel) (by decide +kernel)
theorem ws_X11_X11_way : Cond.selects RX11 yX11_way yX11_way ∈ uT := uT_tb (i := 452) (by decide +kernel) (by decide +kernel)
theorem wk_X11_way : Cond.code yX11_way cX11_way 3 (Option.some FieldType.int) ∈ uT := uT_tb (i := 453) (by decide +kernel) (by decide +kernel)
theorem wm_L_67 : Cond.methodLink RL 67 yX11_bestGuard ∈ uT := uT_tb (i := 454) (by decide +kernel) (by decide +kernel)
theorem wi_X11_bestGuard : Cond.instanceMethod yX11_bestGuard ∈ uT := uT_tb (i := 455) (by decide +kernel) (by decide +kernel)
theorem ws_X11_X11_bestGuard : Cond.selects RX11 yX11_bestGuard yX11_bestGuard ∈ uT := uT_tb (i := 456) (by decide +kernel) (by decide +kernel)
theorem wk_X11_bestGuard : Cond.code yX11_bestGuard cX11_bestGuard 5 (Option.some FieldType.int) ∈ uT := uT_tb (i := 457) (by decide +kernel) (by decide +kernel)
theorem wm_L_71 : Cond.methodLink RL 71 yX11_mend ∈ uT := uT_tb (i := 458) (by decide +kernel) (by decide +kernel)
theorem wi_X11_mend : Cond.instanceMethod yX11_mend ∈ uT := uT_tb (i := 459) (by decide +kernel) (by decide +kernel)
theorem ws_X11_X11_mend : Cond.selects RX11 yX11_mend yX11_mend ∈ uT := uT_tb (i := 460) (by decide +kernel) (by decide +kernel)
theorem wk_X11_mend : Cond.code yX11_mend cX11_mend 7 (Option.some FieldType.int) ∈ uT := uT_tb (i := 461) (by decide +kernel) (by decide +kernel)
theorem wm_X11_154 : Cond.methodLink RX11 154 yX4_mendAt ∈ uT := uT_tb (i := 462) (by decide +kernel) (by decide +kernel)
theorem wi_X4_mendAt : Cond.instanceMethod yX4_mendAt ∈ uT := uT_tb (i := 463) (by decide +kernel) (by decide +kernel)
theorem ws_X4_X4_mendAt : Cond.selects RX4 yX4_mendAt yX4_mendAt ∈ uT := uT_tb (i := 464) (by decide +kernel) (by decide +kernel)
theorem wk_X4_mendAt : Cond.code yX4_mendAt cX4_mendAt 2 (Option.some (FieldType.object "MendDesk$Mend")) ∈ uT := uT_tb (i := 465) (by decide +kernel) (by decide +kernel)
theorem wc_X11_158 : Cond.classLink RX11 158 RX3 ∈ uT := uT_tb (i := 466) (by decide +kernel) (by decide +kernel)
theorem wb_X3 : Cond.instantiable RX3 6 ∈ uT := uT_tb (i := 467) (by decide +kernel) (by decide +kernel)
theorem wm_X11_160 : Cond.methodLink RX11 160 yX3_init ∈ uT := uT_tb (i := 468) (by decide +kernel) (by decide +kernel)
theorem wi_X3_init : Cond.instanceMethod yX3_init ∈ uT := uT_tb (i := 469) (by decide +kernel) (by decide +kernel)
theorem wk_X3_init : Cond.code yX3_init cX3_init 7 (Option.none : Option FieldType) ∈ uT := uT_tb (i := 470) (by decide +kernel) (by decide +kernel)
theorem wm_X3_1 : Cond.methodLink RX3 1 objectInit ∈ uT := uT_tb (i := 471) (by decide +kernel) (by decide +kernel)
theorem wf_X3_7 : Cond.fieldLink RX3 7 "MendDesk$Mend" "part" "I" ∈ uT := uT_tb (i := 472) (by decide +kernel) (by decide +kernel)
theorem wf_X4_82 : Cond.fieldLink RX4 82 "MendDesk$Mend" "part" "I" ∈ uT := uT_tb (i := 473) (by decide +kernel) (by decide +kernel)
theorem wf_X11_222 : Cond.fieldLink RX11 222 "MendDesk$Mend" "part" "I" ∈ uT := uT_tb (i := 474) (by decide +kernel) (by decide +kernel)
theorem wf_X3_13 : Cond.fieldLink RX3 13 "MendDesk$Mend" "version" "I" ∈ uT := uT_tb (i := 475) (by decide +kernel) (by decide +kernel)
theorem wf_X4_85 : Cond.fieldLink RX4 85 "MendDesk$Mend" "version" "I" ∈ uT := uT_tb (i := 476) (by decide +kernel) (by decide +kernel)
theorem wf_X11_223 : Cond.fieldLink RX11 223 "MendDesk$Mend" "version" "I" ∈ uT := uT_tb (i := 477) (by decide +kernel) (by decide +kernel)
theorem wf_X3_16 : Cond.fieldLink RX3 16 "MendDesk$Mend" "hands" "I" ∈ uT := uT_tb (i := 478) (by decide +kernel) (by decide +kernel)
theorem wf_X6_107 : Cond.fieldLink RX6 107 "MendDesk$Mend" "hands" "I" ∈ uT := uT_tb (i := 479) (by decide +kernel) (by decide +kernel)
theorem wf_X11_189 : Cond.fieldLink RX11 189 "MendDesk$Mend" "hands" "I" ∈ uT := uT_tb (i := 480) (by decide +kernel) (by decide +kernel)
theorem wf_X3_19 : Cond.fieldLink RX3 19 "MendDesk$Mend" "need" "I" ∈ uT := uT_tb (i := 481) (by decide +kernel) (by decide +kernel)
theorem wf_X4_72 : Cond.fieldLink RX4 72 "MendDesk$Mend" "need" "I" ∈ uT := uT_tb (i := 482) (by decide +kernel) (by decide +kernel)
theorem wf_X3_22 : Cond.fieldLink RX3 22 "MendDesk$Mend" "first" "I" ∈ uT := uT_tb (i := 483) (by decide +kernel) (by decide +kernel)
theorem wf_X6_95 : Cond.fieldLink RX6 95 "MendDesk$Mend" "first" "I" ∈ uT := uT_tb (i := 484) (by decide +kernel) (by decide +kernel)
theorem wf_X3_25 : Cond.fieldLink RX3 25 "MendDesk$Mend" "last" "I" ∈ uT := uT_tb (i := 485) (by decide +kernel) (by decide +kernel)
theorem wf_X6_100 : Cond.fieldLink RX6 100 "MendDesk$Mend" "last" "I" ∈ uT := uT_tb (i := 486) (by decide +kernel) (by decide +kernel)
theorem wm_X11_163 : Cond.methodLink RX11 163 yX4_addMend ∈ uT := uT_tb (i := 500) (by decide +kernel) (by decide +kernel)
theorem wi_X4_addMend : Cond.instanceMethod yX4_addMend ∈ uT := uT_tb (i := 501) (by decide +kernel) (by decide +kernel)
theorem ws_X4_X4_addMend : Cond.selects RX4 yX4_addMend yX4_addMend ∈ uT := uT_tb (i := 502) (by decide +kernel) (by decide +kernel)
theorem wk_X4_addMend : Cond.code yX4_addMend cX4_addMend 2 (Option.some FieldType.int) ∈ uT := uT_tb (i := 503) (by decide +kernel) (by decide +kernel)
theorem wm_L_76 : Cond.methodLink RL 76 yX11_quarrel ∈ uT := uT_tb (i := 504) (by decide +kernel) (by decide +kernel)
theorem wi_X11_quarrel : Cond.instanceMethod yX11_quarrel ∈ uT := uT_tb (i := 505) (by decide +kernel) (by decide +kernel)
theorem ws_X11_X11_quarrel : Cond.selects RX11 yX11_quarrel yX11_quarrel ∈ uT := uT_tb (i := 506) (by decide +kernel) (by decide +kernel)
theorem wk_X11_quarrel : Cond.code yX11_quarrel cX11_quarrel 5 (Option.some FieldType.int) ∈ uT := uT_tb (i := 507) (by decide +kernel) (by decide +kernel)
theorem wc_X11_167 : Cond.classLink RX11 167 RX7 ∈ uT := uT_tb (i := 508) (by decide +kernel) (by decide +kernel)
theorem wb_X7 : Cond.instantiable RX7 4 ∈ uT := uT_tb (i := 509) (by decide +kernel) (by decide +kernel)
theorem wm_X11_169 : Cond.methodLink RX11 169 yX7_init ∈ uT := uT_tb (i := 510) (by decide +kernel) (by decide +kernel)
theorem wi_X7_init : Cond.instanceMethod yX7_init ∈ uT := uT_tb (i := 511) (by decide +kernel) (by decide +kernel)
theorem wk_X7_init : Cond.code yX7_init cX7_init 5 (Option.none : Option FieldType) ∈ uT := uT_tb (i := 512) (by decide +kernel) (by decide +kernel)
theorem wm_X7_1 : Cond.methodLink RX7 1 objectInit ∈ uT := uT_tb (i := 513) (by decide +kernel) (by decide +kernel)
theorem wf_X7_7 : Cond.fieldLink RX7 7 "MendDesk$Quarrel" "part" "I" ∈ uT := uT_tb (i := 514) (by decide +kernel) (by decide +kernel)
theorem wf_X7_13 : Cond.fieldLink RX7 13 "MendDesk$Quarrel" "version" "I" ∈ uT := uT_tb (i := 515) (by decide +kernel) (by decide +kernel)
theorem wf_X7_16 : Cond.fieldLink RX7 16 "MendDesk$Quarrel" "other" "I" ∈ uT := uT_tb (i := 516) (by decide +kernel) (by decide +kernel)
theorem wf_X7_19 : Cond.fieldLink RX7 19 "MendDesk$Quarrel" "otherVersion" "I" ∈ uT := uT_tb (i := 517) (by decide +kernel) (by decide +kernel)
theorem wm_X11_172 : Cond.methodLink RX11 172 yX4_addQuarrel ∈ uT := uT_tb (i := 527) (by decide +kernel) (by decide +kernel)
theorem wi_X4_addQuarrel : Cond.instanceMethod yX4_addQuarrel ∈ uT := uT_tb (i := 528) (by decide +kernel) (by decide +kernel)
theorem ws_X4_X4_addQuarrel : Cond.selects RX4 yX4_addQuarrel yX4_addQuarrel ∈ uT := uT_tb (i := 529) (by decide +kernel) (by decide +kernel)
theorem wk_X4_addQuarrel : Cond.code yX4_addQuarrel cX4_addQuarrel 2 (Option.some FieldType.int) ∈ uT := uT_tb (i := 530) (by decide +kernel) (by decide +kernel)
theorem wm_L_80 : Cond.methodLink RL 80 yX11_riskWith ∈ uT := uT_tb (i := 531) (by decide +kernel) (by decide +kernel)
theorem wi_X11_riskWith : Cond.instanceMethod yX11_riskWith ∈ uT := uT_tb (i := 532) (by decide +kernel) (by decide +kernel)
theorem ws_X11_X11_riskWith : Cond.selects RX11 yX11_riskWith yX11_riskWith ∈ uT := uT_tb (i := 533) (by decide +kernel) (by decide +kernel)
theorem wk_X11_riskWith : Cond.code yX11_riskWith cX11_riskWith 2 (Option.some FieldType.int) ∈ uT := uT_tb (i := 534) (by decide +kernel) (by decide +kernel)
theorem wm_X11_176 : Cond.methodLink RX11 176 yX4_isSet ∈ uT := uT_tb (i := 535) (by decide +kernel) (by decide +kernel)
theorem wi_X4_isSet : Cond.instanceMethod yX4_isSet ∈ uT := uT_tb (i := 536) (by decide +kernel) (by decide +kernel)
theorem ws_X4_X4_isSet : Cond.selects RX4 yX4_isSet yX4_isSet ∈ uT := uT_tb (i := 537) (by decide +kernel) (by decide +kernel)
theorem wk_X4_isSet : Cond.code yX4_isSet cX4_isSet 2 (Option.some FieldType.boolean) ∈ uT := uT_tb (i := 538) (by decide +kernel) (by decide +kernel)
theorem wm_X11_179 : Cond.methodLink RX11 179 yX4_riskAfter ∈ uT := uT_tb (i := 540) (by decide +kernel) (by decide +kernel)
theorem wi_X4_riskAfter : Cond.instanceMethod yX4_riskAfter ∈ uT := uT_tb (i := 541) (by decide +kernel) (by decide +kernel)
theorem ws_X4_X4_riskAfter : Cond.selects RX4 yX4_riskAfter yX4_riskAfter ∈ uT := uT_tb (i := 542) (by decide +kernel) (by decide +kernel)
theorem wk_X4_riskAfter : Cond.code yX4_riskAfter cX4_riskAfter 2 (Option.some FieldType.int) ∈ uT := uT_tb (i := 543) (by decide +kernel) (by decide +kernel)
theorem wm_X4_46 : Cond.methodLink RX4 46 yX4_fillVersions ∈ uT := uT_tb (i := 544) (by decide +kernel) (by decide +kernel)
theorem wi_X4_fillVersions : Cond.instanceMethod yX4_fillVersions ∈ uT := uT_tb (i := 546) (by decide +kernel) (by decide +kernel)
theorem wk_X4_fillVersions : Cond.code yX4_fillVersions cX4_fillVersions 4 (Option.none : Option FieldType) ∈ uT := uT_tb (i := 547) (by decide +kernel) (by decide +kernel)
theorem wm_X4_92 : Cond.methodLink RX4 92 arraycopyName ∈ uT := uT_tb (i := 548) (by decide +kernel) (by decide +kernel)
theorem wt_arraycopyName : Cond.static arraycopyName ∈ uT := uT_tb (i := 549) (by decide +kernel) (by decide +kernel)
theorem wz_native : Cond.native arraycopyName ∈ uT := uT_tb (i := 550) (by decide +kernel) (by decide +kernel)
theorem wm_X4_98 : Cond.methodLink RX4 98 yJ9_max_7cf53 ∈ uT := uT_tb (i := 552) (by decide +kernel) (by decide +kernel)
theorem wt_J9_max_7cf53 : Cond.static yJ9_max_7cf53 ∈ uT := uT_tb (i := 553) (by decide +kernel) (by decide +kernel)
theorem wk_J9_max_7cf53 : Cond.code yJ9_max_7cf53 cJ9_max_7cf53 2 (Option.some FieldType.int) ∈ uT := uT_tb (i := 554) (by decide +kernel) (by decide +kernel)
theorem wm_X4_55 : Cond.methodLink RX4 55 yX9_run ∈ uT := uT_tb (i := 555) (by decide +kernel) (by decide +kernel)
theorem wm_L_84 : Cond.methodLink RL 84 yX11_sound ∈ uT := uT_tb (i := 556) (by decide +kernel) (by decide +kernel)
theorem wi_X11_sound : Cond.instanceMethod yX11_sound ∈ uT := uT_tb (i := 557) (by decide +kernel) (by decide +kernel)
theorem ws_X11_X11_sound : Cond.selects RX11 yX11_sound yX11_sound ∈ uT := uT_tb (i := 558) (by decide +kernel) (by decide +kernel)
theorem wk_X11_sound : Cond.code yX11_sound cX11_sound 2 (Option.some FieldType.int) ∈ uT := uT_tb (i := 559) (by decide +kernel) (by decide +kernel)
theorem wm_X11_182 : Cond.methodLink RX11 182 yX4_isSound ∈ uT := uT_tb (i := 560) (by decide +kernel) (by decide +kernel)
theorem wi_X4_isSound : Cond.instanceMethod yX4_isSound ∈ uT := uT_tb (i := 561) (by decide +kernel) (by decide +kernel)
theorem ws_X4_X4_isSound : Cond.selects RX4 yX4_isSound yX4_isSound ∈ uT := uT_tb (i := 562) (by decide +kernel) (by decide +kernel)
theorem wk_X4_isSound : Cond.code yX4_isSound cX4_isSound 2 (Option.some FieldType.boolean) ∈ uT := uT_tb (i := 563) (by decide +kernel) (by decide +kernel)
theorem wm_X4_61 : Cond.methodLink RX4 61 yX4_hasAllNeeds ∈ uT := uT_tb (i := 564) (by decide +kernel) (by decide +kernel)
theorem wi_X4_hasAllNeeds : Cond.instanceMethod yX4_hasAllNeeds ∈ uT := uT_tb (i := 566) (by decide +kernel) (by decide +kernel)
theorem wk_X4_hasAllNeeds : Cond.code yX4_hasAllNeeds cX4_hasAllNeeds 4 (Option.some FieldType.boolean) ∈ uT := uT_tb (i := 567) (by decide +kernel) (by decide +kernel)
theorem wm_X4_65 : Cond.methodLink RX4 65 yX4_quarrelHolds ∈ uT := uT_tb (i := 568) (by decide +kernel) (by decide +kernel)
theorem wi_X4_quarrelHolds : Cond.instanceMethod yX4_quarrelHolds ∈ uT := uT_tb (i := 569) (by decide +kernel) (by decide +kernel)
theorem ws_X4_X4_quarrelHolds : Cond.selects RX4 yX4_quarrelHolds yX4_quarrelHolds ∈ uT := uT_tb (i := 570) (by decide +kernel) (by decide +kernel)
theorem wk_X4_quarrelHolds : Cond.code yX4_quarrelHolds cX4_quarrelHolds 4 (Option.some FieldType.boolean) ∈ uT := uT_tb (i := 571) (by decide +kernel) (by decide +kernel)
theorem wm_X4_68 : Cond.methodLink RX4 68 yX7_holds ∈ uT := uT_tb (i := 572) (by decide +kernel) (by decide +kernel)
theorem wi_X7_holds : Cond.instanceMethod yX7_holds ∈ uT := uT_tb (i := 573) (by decide +kernel) (by decide +kernel)
theorem ws_X7_X7_holds : Cond.selects RX7 yX7_holds yX7_holds ∈ uT := uT_tb (i := 574) (by decide +kernel) (by decide +kernel)
theorem wk_X7_holds : Cond.code yX7_holds cX7_holds 2 (Option.some FieldType.boolean) ∈ uT := uT_tb (i := 575) (by decide +kernel) (by decide +kernel)
theorem wm_L_88 : Cond.methodLink RL 88 yX11_gain ∈ uT := uT_tb (i := 576) (by decide +kernel) (by decide +kernel)
theorem wi_X11_gain : Cond.instanceMethod yX11_gain ∈ uT := uT_tb (i := 577) (by decide +kernel) (by decide +kernel)
theorem ws_X11_X11_gain : Cond.selects RX11 yX11_gain yX11_gain ∈ uT := uT_tb (i := 578) (by decide +kernel) (by decide +kernel)
theorem wk_X11_gain : Cond.code yX11_gain cX11_gain 3 (Option.some FieldType.int) ∈ uT := uT_tb (i := 579) (by decide +kernel) (by decide +kernel)
theorem wm_L_92 : Cond.methodLink RL 92 yX11_next ∈ uT := uT_tb (i := 581) (by decide +kernel) (by decide +kernel)
theorem wi_X11_next : Cond.instanceMethod yX11_next ∈ uT := uT_tb (i := 582) (by decide +kernel) (by decide +kernel)
theorem ws_X11_X11_next : Cond.selects RX11 yX11_next yX11_next ∈ uT := uT_tb (i := 583) (by decide +kernel) (by decide +kernel)
theorem wk_X11_next : Cond.code yX11_next cX11_next 9 (Option.some FieldType.int) ∈ uT := uT_tb (i := 584) (by decide +kernel) (by decide +kernel)
theorem wm_L_96 : Cond.methodLink RL 96 yX11_plan ∈ uT := uT_tb (i := 585) (by decide +kernel) (by decide +kernel)
theorem wi_X11_plan : Cond.instanceMethod yX11_plan ∈ uT := uT_tb (i := 586) (by decide +kernel) (by decide +kernel)
theorem ws_X11_X11_plan : Cond.selects RX11 yX11_plan yX11_plan ∈ uT := uT_tb (i := 587) (by decide +kernel) (by decide +kernel)
theorem wk_X11_plan : Cond.code yX11_plan cX11_plan 3 (Option.some FieldType.int) ∈ uT := uT_tb (i := 588) (by decide +kernel) (by decide +kernel)
theorem wm_X11_192 : Cond.methodLink RX11 192 yX6_weighSets ∈ uT := uT_tb (i := 589) (by decide +kernel) (by decide +kernel)
theorem wi_X6_weighSets : Cond.instanceMethod yX6_weighSets ∈ uT := uT_tb (i := 590) (by decide +kernel) (by decide +kernel)
theorem ws_X6_X6_weighSets : Cond.selects RX6 yX6_weighSets yX6_weighSets ∈ uT := uT_tb (i := 591) (by decide +kernel) (by decide +kernel)
theorem wk_X6_weighSets : Cond.code yX6_weighSets cX6_weighSets 4 (Option.none : Option FieldType) ∈ uT := uT_tb (i := 592) (by decide +kernel) (by decide +kernel)
theorem wm_X6_43 : Cond.methodLink RX6 43 yX6_findAllowed ∈ uT := uT_tb (i := 593) (by decide +kernel) (by decide +kernel)
theorem wi_X6_findAllowed : Cond.instanceMethod yX6_findAllowed ∈ uT := uT_tb (i := 595) (by decide +kernel) (by decide +kernel)
theorem wk_X6_findAllowed : Cond.code yX6_findAllowed cX6_findAllowed 5 (Option.none : Option FieldType) ∈ uT := uT_tb (i := 596) (by decide +kernel) (by decide +kernel)
theorem wm_X6_91 : Cond.methodLink RX6 91 yX4_mendAt ∈ uT := uT_tb (i := 597) (by decide +kernel) (by decide +kernel)
theorem wm_X6_47 : Cond.methodLink RX6 47 yX6_handsOf ∈ uT := uT_tb (i := 600) (by decide +kernel) (by decide +kernel)
theorem wi_X6_handsOf : Cond.instanceMethod yX6_handsOf ∈ uT := uT_tb (i := 602) (by decide +kernel) (by decide +kernel)
theorem wk_X6_handsOf : Cond.code yX6_handsOf cX6_handsOf 5 (Option.some FieldType.int) ∈ uT := uT_tb (i := 603) (by decide +kernel) (by decide +kernel)
theorem wm_X6_51 : Cond.methodLink RX6 51 yX4_isSound ∈ uT := uT_tb (i := 605) (by decide +kernel) (by decide +kernel)
theorem wm_X6_57 : Cond.methodLink RX6 57 yX4_riskAfter ∈ uT := uT_tb (i := 606) (by decide +kernel) (by decide +kernel)
theorem wm_X11_196 : Cond.methodLink RX11 196 yX6_findSums ∈ uT := uT_tb (i := 607) (by decide +kernel) (by decide +kernel)
theorem wi_X6_findSums : Cond.instanceMethod yX6_findSums ∈ uT := uT_tb (i := 608) (by decide +kernel) (by decide +kernel)
theorem ws_X6_X6_findSums : Cond.selects RX6 yX6_findSums yX6_findSums ∈ uT := uT_tb (i := 609) (by decide +kernel) (by decide +kernel)
theorem wk_X6_findSums : Cond.code yX6_findSums cX6_findSums 4 (Option.none : Option FieldType) ∈ uT := uT_tb (i := 610) (by decide +kernel) (by decide +kernel)
theorem wm_X6_60 : Cond.methodLink RX6 60 arraycopyName ∈ uT := uT_tb (i := 611) (by decide +kernel) (by decide +kernel)
theorem wm_X6_66 : Cond.methodLink RX6 66 yX6_bestSet ∈ uT := uT_tb (i := 612) (by decide +kernel) (by decide +kernel)
theorem wi_X6_bestSet : Cond.instanceMethod yX6_bestSet ∈ uT := uT_tb (i := 614) (by decide +kernel) (by decide +kernel)
theorem wk_X6_bestSet : Cond.code yX6_bestSet cX6_bestSet 9 (Option.some FieldType.int) ∈ uT := uT_tb (i := 615) (by decide +kernel) (by decide +kernel)
theorem wm_X11_200 : Cond.methodLink RX11 200 yX6_fixWeeks ∈ uT := uT_tb (i := 616) (by decide +kernel) (by decide +kernel)
theorem wi_X6_fixWeeks : Cond.instanceMethod yX6_fixWeeks ∈ uT := uT_tb (i := 617) (by decide +kernel) (by decide +kernel)
theorem ws_X6_X6_fixWeeks : Cond.selects RX6 yX6_fixWeeks yX6_fixWeeks ∈ uT := uT_tb (i := 618) (by decide +kernel) (by decide +kernel)
theorem wk_X6_fixWeeks : Cond.code yX6_fixWeeks cX6_fixWeeks 6 (Option.none : Option FieldType) ∈ uT := uT_tb (i := 619) (by decide +kernel) (by decide +kernel)
theorem wm_X6_78 : Cond.methodLink RX6 78 yX6_putInWeek ∈ uT := uT_tb (i := 620) (by decide +kernel) (by decide +kernel)
theorem wi_X6_putInWeek : Cond.instanceMethod yX6_putInWeek ∈ uT := uT_tb (i := 622) (by decide +kernel) (by decide +kernel)
theorem wk_X6_putInWeek : Cond.code yX6_putInWeek cX6_putInWeek 3 (Option.none : Option FieldType) ∈ uT := uT_tb (i := 623) (by decide +kernel) (by decide +kernel)
theorem wm_X11_203 : Cond.methodLink RX11 203 yX6_leastSum ∈ uT := uT_tb (i := 624) (by decide +kernel) (by decide +kernel)
theorem wi_X6_leastSum : Cond.instanceMethod yX6_leastSum ∈ uT := uT_tb (i := 625) (by decide +kernel) (by decide +kernel)
theorem ws_X6_X6_leastSum : Cond.selects RX6 yX6_leastSum yX6_leastSum ∈ uT := uT_tb (i := 626) (by decide +kernel) (by decide +kernel)
theorem wk_X6_leastSum : Cond.code yX6_leastSum cX6_leastSum 1 (Option.some FieldType.int) ∈ uT := uT_tb (i := 627) (by decide +kernel) (by decide +kernel)
theorem wm_L_100 : Cond.methodLink RL 100 yX11_week ∈ uT := uT_tb (i := 628) (by decide +kernel) (by decide +kernel)
theorem wi_X11_week : Cond.instanceMethod yX11_week ∈ uT := uT_tb (i := 629) (by decide +kernel) (by decide +kernel)
theorem ws_X11_X11_week : Cond.selects RX11 yX11_week yX11_week ∈ uT := uT_tb (i := 630) (by decide +kernel) (by decide +kernel)
theorem wk_X11_week : Cond.code yX11_week cX11_week 2 (Option.some FieldType.int) ∈ uT := uT_tb (i := 631) (by decide +kernel) (by decide +kernel)
theorem wm_L_104 : Cond.methodLink RL 104 yX11_moved ∈ uT := uT_tb (i := 632) (by decide +kernel) (by decide +kernel)
theorem wi_X11_moved : Cond.instanceMethod yX11_moved ∈ uT := uT_tb (i := 633) (by decide +kernel) (by decide +kernel)
theorem ws_X11_X11_moved : Cond.selects RX11 yX11_moved yX11_moved ∈ uT := uT_tb (i := 634) (by decide +kernel) (by decide +kernel)
theorem wk_X11_moved : Cond.code yX11_moved cX11_moved 1 (Option.some FieldType.int) ∈ uT := uT_tb (i := 635) (by decide +kernel) (by decide +kernel)
theorem wm_L_108 : Cond.methodLink RL 108 yX11_make ∈ uT := uT_tb (i := 636) (by decide +kernel) (by decide +kernel)
theorem wi_X11_make : Cond.instanceMethod yX11_make ∈ uT := uT_tb (i := 637) (by decide +kernel) (by decide +kernel)
theorem ws_X11_X11_make : Cond.selects RX11 yX11_make yX11_make ∈ uT := uT_tb (i := 638) (by decide +kernel) (by decide +kernel)
theorem wk_X11_make : Cond.code yX11_make cX11_make 4 (Option.some FieldType.int) ∈ uT := uT_tb (i := 639) (by decide +kernel) (by decide +kernel)
theorem wm_X11_215 : Cond.methodLink RX11 215 yX4_needIsMet ∈ uT := uT_tb (i := 640) (by decide +kernel) (by decide +kernel)
theorem wi_X4_needIsMet : Cond.instanceMethod yX4_needIsMet ∈ uT := uT_tb (i := 641) (by decide +kernel) (by decide +kernel)
theorem ws_X4_X4_needIsMet : Cond.selects RX4 yX4_needIsMet yX4_needIsMet ∈ uT := uT_tb (i := 642) (by decide +kernel) (by decide +kernel)
theorem wk_X4_needIsMet : Cond.code yX4_needIsMet cX4_needIsMet 3 (Option.some FieldType.boolean) ∈ uT := uT_tb (i := 643) (by decide +kernel) (by decide +kernel)
theorem wm_X4_75 : Cond.methodLink RX4 75 yX4_mendAt ∈ uT := uT_tb (i := 644) (by decide +kernel) (by decide +kernel)
theorem wm_X11_219 : Cond.methodLink RX11 219 yX4_quarrelHolds ∈ uT := uT_tb (i := 645) (by decide +kernel) (by decide +kernel)
theorem wm_X11_226 : Cond.methodLink RX11 226 yJ9_max_7cf53 ∈ uT := uT_tb (i := 646) (by decide +kernel) (by decide +kernel)
theorem wm_L_112 : Cond.methodLink RL 112 yX11_count ∈ uT := uT_tb (i := 648) (by decide +kernel) (by decide +kernel)
theorem wi_X11_count : Cond.instanceMethod yX11_count ∈ uT := uT_tb (i := 649) (by decide +kernel) (by decide +kernel)
theorem ws_X11_X11_count : Cond.selects RX11 yX11_count yX11_count ∈ uT := uT_tb (i := 650) (by decide +kernel) (by decide +kernel)
theorem wk_X11_count : Cond.code yX11_count cX11_count 2 (Option.some FieldType.int) ∈ uT := uT_tb (i := 651) (by decide +kernel) (by decide +kernel)
theorem wm_X11_242 : Cond.methodLink RX11 242 yJ6_bitCount_0f7a4 ∈ uT := uT_tb (i := 652) (by decide +kernel) (by decide +kernel)
theorem wt_J6_bitCount_0f7a4 : Cond.static yJ6_bitCount_0f7a4 ∈ uT := uT_tb (i := 653) (by decide +kernel) (by decide +kernel)
theorem wk_J6_bitCount_0f7a4 : Cond.code yJ6_bitCount_0f7a4 cJ6_bitCount_0f7a4 1 (Option.some FieldType.int) ∈ uT := uT_tb (i := 654) (by decide +kernel) (by decide +kernel)
theorem wc_L_10 : Cond.classLink RL 10 RX12 ∈ uT := uT_tb (i := 658) (by decide +kernel) (by decide +kernel)
theorem wb_X12 : Cond.instantiable RX12 33 ∈ uT := uT_tb (i := 659) (by decide +kernel) (by decide +kernel)
theorem wm_L_12 : Cond.methodLink RL 12 yX12_init ∈ uT := uT_tb (i := 660) (by decide +kernel) (by decide +kernel)
theorem wi_X12_init : Cond.instanceMethod yX12_init ∈ uT := uT_tb (i := 661) (by decide +kernel) (by decide +kernel)
theorem wk_X12_init : Cond.code yX12_init cX12_init 1 (Option.none : Option FieldType) ∈ uT := uT_tb (i := 662) (by decide +kernel) (by decide +kernel)
theorem wm_X12_1 : Cond.methodLink RX12 1 objectInit ∈ uT := uT_tb (i := 663) (by decide +kernel) (by decide +kernel)
theorem wf_X12_95 : Cond.fieldLink RX12 95 "MendDeskModel" "parts" "I" ∈ uT := uT_tb (i := 664) (by decide +kernel) (by decide +kernel)
theorem wf_X12_7 : Cond.fieldLink RX12 7 "MendDeskModel" "versions" "[I" ∈ uT := uT_tb (i := 665) (by decide +kernel) (by decide +kernel)
theorem wf_X12_13 : Cond.fieldLink RX12 13 "MendDeskModel" "worths" "[I" ∈ uT := uT_tb (i := 666) (by decide +kernel) (by decide +kernel)
theorem wf_X12_16 : Cond.fieldLink RX12 16 "MendDeskModel" "open" "[Z" ∈ uT := uT_tb (i := 667) (by decide +kernel) (by decide +kernel)
theorem wf_X12_20 : Cond.fieldLink RX12 20 "MendDeskModel" "guarded" "[Z" ∈ uT := uT_tb (i := 668) (by decide +kernel) (by decide +kernel)
theorem wf_X12_23 : Cond.fieldLink RX12 23 "MendDeskModel" "links" "[Z" ∈ uT := uT_tb (i := 669) (by decide +kernel) (by decide +kernel)
theorem wf_X12_110 : Cond.fieldLink RX12 110 "MendDeskModel" "holes" "I" ∈ uT := uT_tb (i := 670) (by decide +kernel) (by decide +kernel)
theorem wf_X12_26 : Cond.fieldLink RX12 26 "MendDeskModel" "kinds" "[I" ∈ uT := uT_tb (i := 671) (by decide +kernel) (by decide +kernel)
theorem wf_X12_29 : Cond.fieldLink RX12 29 "MendDeskModel" "where" "[I" ∈ uT := uT_tb (i := 672) (by decide +kernel) (by decide +kernel)
theorem wf_X12_32 : Cond.fieldLink RX12 32 "MendDeskModel" "low" "[I" ∈ uT := uT_tb (i := 673) (by decide +kernel) (by decide +kernel)
theorem wf_X12_35 : Cond.fieldLink RX12 35 "MendDeskModel" "high" "[I" ∈ uT := uT_tb (i := 674) (by decide +kernel) (by decide +kernel)
theorem wf_X12_38 : Cond.fieldLink RX12 38 "MendDeskModel" "chains" "[I" ∈ uT := uT_tb (i := 675) (by decide +kernel) (by decide +kernel)
theorem wf_X12_41 : Cond.fieldLink RX12 41 "MendDeskModel" "awake" "[Z" ∈ uT := uT_tb (i := 676) (by decide +kernel) (by decide +kernel)
theorem wf_X12_44 : Cond.fieldLink RX12 44 "MendDeskModel" "now" "[I" ∈ uT := uT_tb (i := 677) (by decide +kernel) (by decide +kernel)
theorem wf_X12_47 : Cond.fieldLink RX12 47 "MendDeskModel" "steps" "[I" ∈ uT := uT_tb (i := 678) (by decide +kernel) (by decide +kernel)
theorem wf_X12_50 : Cond.fieldLink RX12 50 "MendDeskModel" "byHole" "[I" ∈ uT := uT_tb (i := 679) (by decide +kernel) (by decide +kernel)
theorem wf_X12_53 : Cond.fieldLink RX12 53 "MendDeskModel" "byPart" "[I" ∈ uT := uT_tb (i := 680) (by decide +kernel) (by decide +kernel)
theorem wf_X12_123 : Cond.fieldLink RX12 123 "MendDeskModel" "mends" "I" ∈ uT := uT_tb (i := 681) (by decide +kernel) (by decide +kernel)
theorem wf_X12_56 : Cond.fieldLink RX12 56 "MendDeskModel" "mendPart" "[I" ∈ uT := uT_tb (i := 682) (by decide +kernel) (by decide +kernel)
theorem wf_X12_59 : Cond.fieldLink RX12 59 "MendDeskModel" "mendVersion" "[I" ∈ uT := uT_tb (i := 683) (by decide +kernel) (by decide +kernel)
theorem wf_X12_62 : Cond.fieldLink RX12 62 "MendDeskModel" "mendHands" "[I" ∈ uT := uT_tb (i := 684) (by decide +kernel) (by decide +kernel)
theorem wf_X12_65 : Cond.fieldLink RX12 65 "MendDeskModel" "needs" "[I" ∈ uT := uT_tb (i := 685) (by decide +kernel) (by decide +kernel)
theorem wf_X12_68 : Cond.fieldLink RX12 68 "MendDeskModel" "firsts" "[I" ∈ uT := uT_tb (i := 686) (by decide +kernel) (by decide +kernel)
theorem wf_X12_71 : Cond.fieldLink RX12 71 "MendDeskModel" "lasts" "[I" ∈ uT := uT_tb (i := 687) (by decide +kernel) (by decide +kernel)
theorem wf_X12_152 : Cond.fieldLink RX12 152 "MendDeskModel" "quarrels" "I" ∈ uT := uT_tb (i := 688) (by decide +kernel) (by decide +kernel)
theorem wf_X12_74 : Cond.fieldLink RX12 74 "MendDeskModel" "quarrel" "[I" ∈ uT := uT_tb (i := 689) (by decide +kernel) (by decide +kernel)
theorem wf_X12_77 : Cond.fieldLink RX12 77 "MendDeskModel" "risks" "[I" ∈ uT := uT_tb (i := 690) (by decide +kernel) (by decide +kernel)
theorem wf_X12_80 : Cond.fieldLink RX12 80 "MendDeskModel" "sounds" "[Z" ∈ uT := uT_tb (i := 691) (by decide +kernel) (by decide +kernel)
theorem wf_X12_83 : Cond.fieldLink RX12 83 "MendDeskModel" "least" "[I" ∈ uT := uT_tb (i := 692) (by decide +kernel) (by decide +kernel)
theorem wf_X12_86 : Cond.fieldLink RX12 86 "MendDeskModel" "chosen" "[I" ∈ uT := uT_tb (i := 693) (by decide +kernel) (by decide +kernel)
theorem wf_X12_176 : Cond.fieldLink RX12 176 "MendDeskModel" "plans" "I" ∈ uT := uT_tb (i := 694) (by decide +kernel) (by decide +kernel)
theorem wf_X12_89 : Cond.fieldLink RX12 89 "MendDeskModel" "weeksNow" "[I" ∈ uT := uT_tb (i := 695) (by decide +kernel) (by decide +kernel)
theorem wf_X12_92 : Cond.fieldLink RX12 92 "MendDeskModel" "weeksBefore" "[I" ∈ uT := uT_tb (i := 696) (by decide +kernel) (by decide +kernel)
theorem wm_L_17 : Cond.methodLink RL 17 yX12_part ∈ uT := uT_tb (i := 764) (by decide +kernel) (by decide +kernel)
theorem wi_X12_part : Cond.instanceMethod yX12_part ∈ uT := uT_tb (i := 765) (by decide +kernel) (by decide +kernel)
theorem ws_X12_X12_part : Cond.selects RX12 yX12_part yX12_part ∈ uT := uT_tb (i := 766) (by decide +kernel) (by decide +kernel)
theorem wk_X12_part : Cond.code yX12_part cX12_part 4 (Option.some FieldType.int) ∈ uT := uT_tb (i := 767) (by decide +kernel) (by decide +kernel)
theorem wm_X12_103 : Cond.methodLink RX12 103 yX12_isVersion ∈ uT := uT_tb (i := 768) (by decide +kernel) (by decide +kernel)
theorem wt_X12_isVersion : Cond.static yX12_isVersion ∈ uT := uT_tb (i := 769) (by decide +kernel) (by decide +kernel)
theorem wk_X12_isVersion : Cond.code yX12_isVersion cX12_isVersion 1 (Option.some FieldType.boolean) ∈ uT := uT_tb (i := 770) (by decide +kernel) (by decide +kernel)
theorem wm_X12_99 : Cond.methodLink RX12 99 yX12_in ∈ uT := uT_tb (i := 771) (by decide +kernel) (by decide +kernel)
theorem wt_X12_in : Cond.static yX12_in ∈ uT := uT_tb (i := 772) (by decide +kernel) (by decide +kernel)
theorem wk_X12_in : Cond.code yX12_in cX12_in 3 (Option.some FieldType.boolean) ∈ uT := uT_tb (i := 773) (by decide +kernel) (by decide +kernel)
theorem wm_L_21 : Cond.methodLink RL 21 yX12_link ∈ uT := uT_tb (i := 774) (by decide +kernel) (by decide +kernel)
theorem wi_X12_link : Cond.instanceMethod yX12_link ∈ uT := uT_tb (i := 775) (by decide +kernel) (by decide +kernel)
theorem ws_X12_X12_link : Cond.selects RX12 yX12_link yX12_link ∈ uT := uT_tb (i := 776) (by decide +kernel) (by decide +kernel)
theorem wk_X12_link : Cond.code yX12_link cX12_link 5 (Option.some FieldType.int) ∈ uT := uT_tb (i := 777) (by decide +kernel) (by decide +kernel)
theorem wm_X12_107 : Cond.methodLink RX12 107 yX12_isPart ∈ uT := uT_tb (i := 778) (by decide +kernel) (by decide +kernel)
theorem wi_X12_isPart : Cond.instanceMethod yX12_isPart ∈ uT := uT_tb (i := 780) (by decide +kernel) (by decide +kernel)
theorem wk_X12_isPart : Cond.code yX12_isPart cX12_isPart 2 (Option.some FieldType.boolean) ∈ uT := uT_tb (i := 781) (by decide +kernel) (by decide +kernel)
theorem wm_L_26 : Cond.methodLink RL 26 yX12_guard ∈ uT := uT_tb (i := 782) (by decide +kernel) (by decide +kernel)
theorem wi_X12_guard : Cond.instanceMethod yX12_guard ∈ uT := uT_tb (i := 783) (by decide +kernel) (by decide +kernel)
theorem ws_X12_X12_guard : Cond.selects RX12 yX12_guard yX12_guard ∈ uT := uT_tb (i := 784) (by decide +kernel) (by decide +kernel)
theorem wk_X12_guard : Cond.code yX12_guard cX12_guard 4 (Option.some FieldType.int) ∈ uT := uT_tb (i := 785) (by decide +kernel) (by decide +kernel)
theorem wm_L_31 : Cond.methodLink RL 31 yX12_version ∈ uT := uT_tb (i := 786) (by decide +kernel) (by decide +kernel)
theorem wi_X12_version : Cond.instanceMethod yX12_version ∈ uT := uT_tb (i := 787) (by decide +kernel) (by decide +kernel)
theorem ws_X12_X12_version : Cond.selects RX12 yX12_version yX12_version ∈ uT := uT_tb (i := 788) (by decide +kernel) (by decide +kernel)
theorem wk_X12_version : Cond.code yX12_version cX12_version 4 (Option.some FieldType.int) ∈ uT := uT_tb (i := 789) (by decide +kernel) (by decide +kernel)
theorem wm_L_36 : Cond.methodLink RL 36 yX12_hole ∈ uT := uT_tb (i := 790) (by decide +kernel) (by decide +kernel)
theorem wi_X12_hole : Cond.instanceMethod yX12_hole ∈ uT := uT_tb (i := 791) (by decide +kernel) (by decide +kernel)
theorem ws_X12_X12_hole : Cond.selects RX12 yX12_hole yX12_hole ∈ uT := uT_tb (i := 792) (by decide +kernel) (by decide +kernel)
theorem wk_X12_hole : Cond.code yX12_hole cX12_hole 5 (Option.some FieldType.int) ∈ uT := uT_tb (i := 793) (by decide +kernel) (by decide +kernel)
theorem wm_X12_113 : Cond.methodLink RX12 113 yX12_isSpan ∈ uT := uT_tb (i := 794) (by decide +kernel) (by decide +kernel)
theorem wi_X12_isSpan : Cond.instanceMethod yX12_isSpan ∈ uT := uT_tb (i := 796) (by decide +kernel) (by decide +kernel)
theorem wk_X12_isSpan : Cond.code yX12_isSpan cX12_isSpan 4 (Option.some FieldType.boolean) ∈ uT := uT_tb (i := 797) (by decide +kernel) (by decide +kernel)
theorem wm_X12_116 : Cond.methodLink RX12 116 yX12_add ∈ uT := uT_tb (i := 798) (by decide +kernel) (by decide +kernel)
theorem wi_X12_add : Cond.instanceMethod yX12_add ∈ uT := uT_tb (i := 800) (by decide +kernel) (by decide +kernel)
theorem wk_X12_add : Cond.code yX12_add cX12_add 6 (Option.some FieldType.int) ∈ uT := uT_tb (i := 801) (by decide +kernel) (by decide +kernel)
theorem wm_L_40 : Cond.methodLink RL 40 yX12_chained ∈ uT := uT_tb (i := 802) (by decide +kernel) (by decide +kernel)
theorem wi_X12_chained : Cond.instanceMethod yX12_chained ∈ uT := uT_tb (i := 803) (by decide +kernel) (by decide +kernel)
theorem ws_X12_X12_chained : Cond.selects RX12 yX12_chained yX12_chained ∈ uT := uT_tb (i := 804) (by decide +kernel) (by decide +kernel)
theorem wk_X12_chained : Cond.code yX12_chained cX12_chained 5 (Option.some FieldType.int) ∈ uT := uT_tb (i := 805) (by decide +kernel) (by decide +kernel)
theorem wm_X12_120 : Cond.methodLink RX12 120 yX12_isHole ∈ uT := uT_tb (i := 806) (by decide +kernel) (by decide +kernel)
theorem wi_X12_isHole : Cond.instanceMethod yX12_isHole ∈ uT := uT_tb (i := 808) (by decide +kernel) (by decide +kernel)
theorem wk_X12_isHole : Cond.code yX12_isHole cX12_isHole 2 (Option.some FieldType.boolean) ∈ uT := uT_tb (i := 809) (by decide +kernel) (by decide +kernel)
theorem wm_L_44 : Cond.methodLink RL 44 yX12_wake ∈ uT := uT_tb (i := 810) (by decide +kernel) (by decide +kernel)
theorem wi_X12_wake : Cond.instanceMethod yX12_wake ∈ uT := uT_tb (i := 811) (by decide +kernel) (by decide +kernel)
theorem ws_X12_X12_wake : Cond.selects RX12 yX12_wake yX12_wake ∈ uT := uT_tb (i := 812) (by decide +kernel) (by decide +kernel)
theorem wk_X12_wake : Cond.code yX12_wake cX12_wake 4 (Option.some FieldType.int) ∈ uT := uT_tb (i := 813) (by decide +kernel) (by decide +kernel)
theorem wm_L_49 : Cond.methodLink RL 49 yX12_chain ∈ uT := uT_tb (i := 814) (by decide +kernel) (by decide +kernel)
theorem wi_X12_chain : Cond.instanceMethod yX12_chain ∈ uT := uT_tb (i := 815) (by decide +kernel) (by decide +kernel)
theorem ws_X12_X12_chain : Cond.selects RX12 yX12_chain yX12_chain ∈ uT := uT_tb (i := 816) (by decide +kernel) (by decide +kernel)
theorem wk_X12_chain : Cond.code yX12_chain cX12_chain 2 (Option.some FieldType.int) ∈ uT := uT_tb (i := 817) (by decide +kernel) (by decide +kernel)
theorem wm_L_53 : Cond.methodLink RL 53 yX12_told ∈ uT := uT_tb (i := 818) (by decide +kernel) (by decide +kernel)
theorem wi_X12_told : Cond.instanceMethod yX12_told ∈ uT := uT_tb (i := 819) (by decide +kernel) (by decide +kernel)
theorem ws_X12_X12_told : Cond.selects RX12 yX12_told yX12_told ∈ uT := uT_tb (i := 820) (by decide +kernel) (by decide +kernel)
theorem wk_X12_told : Cond.code yX12_told cX12_told 3 (Option.some FieldType.int) ∈ uT := uT_tb (i := 821) (by decide +kernel) (by decide +kernel)
theorem wm_X12_140 : Cond.methodLink RX12 140 yX12_takeVersions ∈ uT := uT_tb (i := 822) (by decide +kernel) (by decide +kernel)
theorem wi_X12_takeVersions : Cond.instanceMethod yX12_takeVersions ∈ uT := uT_tb (i := 824) (by decide +kernel) (by decide +kernel)
theorem wk_X12_takeVersions : Cond.code yX12_takeVersions cX12_takeVersions 3 (Option.none : Option FieldType) ∈ uT := uT_tb (i := 825) (by decide +kernel) (by decide +kernel)
theorem wm_X12_126 : Cond.methodLink RX12 126 yX12_stands ∈ uT := uT_tb (i := 826) (by decide +kernel) (by decide +kernel)
theorem wi_X12_stands : Cond.instanceMethod yX12_stands ∈ uT := uT_tb (i := 828) (by decide +kernel) (by decide +kernel)
theorem wk_X12_stands : Cond.code yX12_stands cX12_stands 4 (Option.some FieldType.boolean) ∈ uT := uT_tb (i := 829) (by decide +kernel) (by decide +kernel)
theorem wm_L_58 : Cond.methodLink RL 58 yX12_risk ∈ uT := uT_tb (i := 830) (by decide +kernel) (by decide +kernel)
theorem wi_X12_risk : Cond.instanceMethod yX12_risk ∈ uT := uT_tb (i := 831) (by decide +kernel) (by decide +kernel)
theorem ws_X12_X12_risk : Cond.selects RX12 yX12_risk yX12_risk ∈ uT := uT_tb (i := 832) (by decide +kernel) (by decide +kernel)
theorem wk_X12_risk : Cond.code yX12_risk cX12_risk 1 (Option.some FieldType.int) ∈ uT := uT_tb (i := 833) (by decide +kernel) (by decide +kernel)
theorem wm_X12_148 : Cond.methodLink RX12 148 yX12_riskOf ∈ uT := uT_tb (i := 834) (by decide +kernel) (by decide +kernel)
theorem wi_X12_riskOf : Cond.instanceMethod yX12_riskOf ∈ uT := uT_tb (i := 836) (by decide +kernel) (by decide +kernel)
theorem wk_X12_riskOf : Cond.code yX12_riskOf cX12_riskOf 2 (Option.some FieldType.int) ∈ uT := uT_tb (i := 837) (by decide +kernel) (by decide +kernel)
theorem wm_X12_144 : Cond.methodLink RX12 144 yX12_riskNow ∈ uT := uT_tb (i := 838) (by decide +kernel) (by decide +kernel)
theorem wi_X12_riskNow : Cond.instanceMethod yX12_riskNow ∈ uT := uT_tb (i := 840) (by decide +kernel) (by decide +kernel)
theorem wk_X12_riskNow : Cond.code yX12_riskNow cX12_riskNow 5 (Option.some FieldType.int) ∈ uT := uT_tb (i := 841) (by decide +kernel) (by decide +kernel)
theorem wm_X12_137 : Cond.methodLink RX12 137 yX12_take ∈ uT := uT_tb (i := 842) (by decide +kernel) (by decide +kernel)
theorem wi_X12_take : Cond.instanceMethod yX12_take ∈ uT := uT_tb (i := 844) (by decide +kernel) (by decide +kernel)
theorem wk_X12_take : Cond.code yX12_take cX12_take 6 (Option.none : Option FieldType) ∈ uT := uT_tb (i := 845) (by decide +kernel) (by decide +kernel)
theorem wm_X12_129 : Cond.methodLink RX12 129 yX12_fromFor ∈ uT := uT_tb (i := 846) (by decide +kernel) (by decide +kernel)
theorem wi_X12_fromFor : Cond.instanceMethod yX12_fromFor ∈ uT := uT_tb (i := 848) (by decide +kernel) (by decide +kernel)
theorem wk_X12_fromFor : Cond.code yX12_fromFor cX12_fromFor 4 (Option.some FieldType.int) ∈ uT := uT_tb (i := 849) (by decide +kernel) (by decide +kernel)
theorem wm_X12_133 : Cond.methodLink RX12 133 yX12_opens ∈ uT := uT_tb (i := 850) (by decide +kernel) (by decide +kernel)
theorem wi_X12_opens : Cond.instanceMethod yX12_opens ∈ uT := uT_tb (i := 852) (by decide +kernel) (by decide +kernel)
theorem wk_X12_opens : Cond.code yX12_opens cX12_opens 5 (Option.some FieldType.boolean) ∈ uT := uT_tb (i := 853) (by decide +kernel) (by decide +kernel)
theorem wm_L_62 : Cond.methodLink RL 62 yX12_taken ∈ uT := uT_tb (i := 854) (by decide +kernel) (by decide +kernel)
theorem wi_X12_taken : Cond.instanceMethod yX12_taken ∈ uT := uT_tb (i := 855) (by decide +kernel) (by decide +kernel)
theorem ws_X12_X12_taken : Cond.selects RX12 yX12_taken yX12_taken ∈ uT := uT_tb (i := 856) (by decide +kernel) (by decide +kernel)
theorem wk_X12_taken : Cond.code yX12_taken cX12_taken 4 (Option.some FieldType.int) ∈ uT := uT_tb (i := 857) (by decide +kernel) (by decide +kernel)
theorem wm_L_66 : Cond.methodLink RL 66 yX12_way ∈ uT := uT_tb (i := 858) (by decide +kernel) (by decide +kernel)
theorem wi_X12_way : Cond.instanceMethod yX12_way ∈ uT := uT_tb (i := 859) (by decide +kernel) (by decide +kernel)
theorem ws_X12_X12_way : Cond.selects RX12 yX12_way yX12_way ∈ uT := uT_tb (i := 860) (by decide +kernel) (by decide +kernel)
theorem wk_X12_way : Cond.code yX12_way cX12_way 4 (Option.some FieldType.int) ∈ uT := uT_tb (i := 861) (by decide +kernel) (by decide +kernel)
theorem wm_L_70 : Cond.methodLink RL 70 yX12_bestGuard ∈ uT := uT_tb (i := 862) (by decide +kernel) (by decide +kernel)
theorem wi_X12_bestGuard : Cond.instanceMethod yX12_bestGuard ∈ uT := uT_tb (i := 863) (by decide +kernel) (by decide +kernel)
theorem ws_X12_X12_bestGuard : Cond.selects RX12 yX12_bestGuard yX12_bestGuard ∈ uT := uT_tb (i := 864) (by decide +kernel) (by decide +kernel)
theorem wk_X12_bestGuard : Cond.code yX12_bestGuard cX12_bestGuard 5 (Option.some FieldType.int) ∈ uT := uT_tb (i := 865) (by decide +kernel) (by decide +kernel)
theorem wm_L_75 : Cond.methodLink RL 75 yX12_mend ∈ uT := uT_tb (i := 866) (by decide +kernel) (by decide +kernel)
theorem wi_X12_mend : Cond.instanceMethod yX12_mend ∈ uT := uT_tb (i := 867) (by decide +kernel) (by decide +kernel)
theorem ws_X12_X12_mend : Cond.selects RX12 yX12_mend yX12_mend ∈ uT := uT_tb (i := 868) (by decide +kernel) (by decide +kernel)
theorem wk_X12_mend : Cond.code yX12_mend cX12_mend 7 (Option.some FieldType.int) ∈ uT := uT_tb (i := 869) (by decide +kernel) (by decide +kernel)
theorem wm_L_79 : Cond.methodLink RL 79 yX12_quarrel ∈ uT := uT_tb (i := 870) (by decide +kernel) (by decide +kernel)
theorem wi_X12_quarrel : Cond.instanceMethod yX12_quarrel ∈ uT := uT_tb (i := 871) (by decide +kernel) (by decide +kernel)
theorem ws_X12_X12_quarrel : Cond.selects RX12 yX12_quarrel yX12_quarrel ∈ uT := uT_tb (i := 872) (by decide +kernel) (by decide +kernel)
theorem wk_X12_quarrel : Cond.code yX12_quarrel cX12_quarrel 5 (Option.some FieldType.int) ∈ uT := uT_tb (i := 873) (by decide +kernel) (by decide +kernel)
theorem wm_L_83 : Cond.methodLink RL 83 yX12_riskWith ∈ uT := uT_tb (i := 874) (by decide +kernel) (by decide +kernel)
theorem wi_X12_riskWith : Cond.instanceMethod yX12_riskWith ∈ uT := uT_tb (i := 875) (by decide +kernel) (by decide +kernel)
theorem ws_X12_X12_riskWith : Cond.selects RX12 yX12_riskWith yX12_riskWith ∈ uT := uT_tb (i := 876) (by decide +kernel) (by decide +kernel)
theorem wk_X12_riskWith : Cond.code yX12_riskWith cX12_riskWith 2 (Option.some FieldType.int) ∈ uT := uT_tb (i := 877) (by decide +kernel) (by decide +kernel)
theorem wm_X12_159 : Cond.methodLink RX12 159 yX12_isSet ∈ uT := uT_tb (i := 878) (by decide +kernel) (by decide +kernel)
theorem wi_X12_isSet : Cond.instanceMethod yX12_isSet ∈ uT := uT_tb (i := 880) (by decide +kernel) (by decide +kernel)
theorem wk_X12_isSet : Cond.code yX12_isSet cX12_isSet 2 (Option.some FieldType.boolean) ∈ uT := uT_tb (i := 881) (by decide +kernel) (by decide +kernel)
theorem wm_L_87 : Cond.methodLink RL 87 yX12_sound ∈ uT := uT_tb (i := 882) (by decide +kernel) (by decide +kernel)
theorem wi_X12_sound : Cond.instanceMethod yX12_sound ∈ uT := uT_tb (i := 883) (by decide +kernel) (by decide +kernel)
theorem ws_X12_X12_sound : Cond.selects RX12 yX12_sound yX12_sound ∈ uT := uT_tb (i := 884) (by decide +kernel) (by decide +kernel)
theorem wk_X12_sound : Cond.code yX12_sound cX12_sound 2 (Option.some FieldType.int) ∈ uT := uT_tb (i := 885) (by decide +kernel) (by decide +kernel)
theorem wm_X12_162 : Cond.methodLink RX12 162 yX12_isSound ∈ uT := uT_tb (i := 886) (by decide +kernel) (by decide +kernel)
theorem wi_X12_isSound : Cond.instanceMethod yX12_isSound ∈ uT := uT_tb (i := 888) (by decide +kernel) (by decide +kernel)
theorem wk_X12_isSound : Cond.code yX12_isSound cX12_isSound 3 (Option.some FieldType.boolean) ∈ uT := uT_tb (i := 889) (by decide +kernel) (by decide +kernel)
theorem wm_X12_155 : Cond.methodLink RX12 155 yX12_isQuarrelling ∈ uT := uT_tb (i := 890) (by decide +kernel) (by decide +kernel)
theorem wi_X12_isQuarrelling : Cond.instanceMethod yX12_isQuarrelling ∈ uT := uT_tb (i := 892) (by decide +kernel) (by decide +kernel)
theorem wk_X12_isQuarrelling : Cond.code yX12_isQuarrelling cX12_isQuarrelling 3 (Option.some FieldType.boolean) ∈ uT := uT_tb (i := 893) (by decide +kernel) (by decide +kernel)
theorem wm_L_91 : Cond.methodLink RL 91 yX12_gain ∈ uT := uT_tb (i := 894) (by decide +kernel) (by decide +kernel)
theorem wi_X12_gain : Cond.instanceMethod yX12_gain ∈ uT := uT_tb (i := 895) (by decide +kernel) (by decide +kernel)
theorem ws_X12_X12_gain : Cond.selects RX12 yX12_gain yX12_gain ∈ uT := uT_tb (i := 896) (by decide +kernel) (by decide +kernel)
theorem wk_X12_gain : Cond.code yX12_gain cX12_gain 3 (Option.some FieldType.int) ∈ uT := uT_tb (i := 897) (by decide +kernel) (by decide +kernel)
theorem wm_X12_165 : Cond.methodLink RX12 165 yX12_isMend ∈ uT := uT_tb (i := 898) (by decide +kernel) (by decide +kernel)
theorem wi_X12_isMend : Cond.instanceMethod yX12_isMend ∈ uT := uT_tb (i := 900) (by decide +kernel) (by decide +kernel)
theorem wk_X12_isMend : Cond.code yX12_isMend cX12_isMend 2 (Option.some FieldType.boolean) ∈ uT := uT_tb (i := 901) (by decide +kernel) (by decide +kernel)
theorem wm_L_95 : Cond.methodLink RL 95 yX12_next ∈ uT := uT_tb (i := 903) (by decide +kernel) (by decide +kernel)
theorem wi_X12_next : Cond.instanceMethod yX12_next ∈ uT := uT_tb (i := 904) (by decide +kernel) (by decide +kernel)
theorem ws_X12_X12_next : Cond.selects RX12 yX12_next yX12_next ∈ uT := uT_tb (i := 905) (by decide +kernel) (by decide +kernel)
theorem wk_X12_next : Cond.code yX12_next cX12_next 6 (Option.some FieldType.int) ∈ uT := uT_tb (i := 906) (by decide +kernel) (by decide +kernel)
theorem wm_L_99 : Cond.methodLink RL 99 yX12_plan ∈ uT := uT_tb (i := 907) (by decide +kernel) (by decide +kernel)
theorem wi_X12_plan : Cond.instanceMethod yX12_plan ∈ uT := uT_tb (i := 908) (by decide +kernel) (by decide +kernel)
theorem ws_X12_X12_plan : Cond.selects RX12 yX12_plan yX12_plan ∈ uT := uT_tb (i := 909) (by decide +kernel) (by decide +kernel)
theorem wk_X12_plan : Cond.code yX12_plan cX12_plan 8 (Option.some FieldType.int) ∈ uT := uT_tb (i := 910) (by decide +kernel) (by decide +kernel)
theorem wm_X12_172 : Cond.methodLink RX12 172 yX12_planFrom ∈ uT := uT_tb (i := 911) (by decide +kernel) (by decide +kernel)
theorem wi_X12_planFrom : Cond.instanceMethod yX12_planFrom ∈ uT := uT_tb (i := 913) (by decide +kernel) (by decide +kernel)
theorem wk_X12_planFrom : Cond.code yX12_planFrom cX12_planFrom 10 (Option.none : Option FieldType) ∈ uT := uT_tb (i := 914) (by decide +kernel) (by decide +kernel)
theorem wm_X12_169 : Cond.methodLink RX12 169 yX12_mayIn ∈ uT := uT_tb (i := 915) (by decide +kernel) (by decide +kernel)
theorem wi_X12_mayIn : Cond.instanceMethod yX12_mayIn ∈ uT := uT_tb (i := 917) (by decide +kernel) (by decide +kernel)
theorem wk_X12_mayIn : Cond.code yX12_mayIn cX12_mayIn 6 (Option.some FieldType.boolean) ∈ uT := uT_tb (i := 918) (by decide +kernel) (by decide +kernel)
theorem wm_L_103 : Cond.methodLink RL 103 yX12_week ∈ uT := uT_tb (i := 919) (by decide +kernel) (by decide +kernel)
theorem wi_X12_week : Cond.instanceMethod yX12_week ∈ uT := uT_tb (i := 920) (by decide +kernel) (by decide +kernel)
theorem ws_X12_X12_week : Cond.selects RX12 yX12_week yX12_week ∈ uT := uT_tb (i := 921) (by decide +kernel) (by decide +kernel)
theorem wk_X12_week : Cond.code yX12_week cX12_week 2 (Option.some FieldType.int) ∈ uT := uT_tb (i := 922) (by decide +kernel) (by decide +kernel)
theorem wm_L_107 : Cond.methodLink RL 107 yX12_moved ∈ uT := uT_tb (i := 923) (by decide +kernel) (by decide +kernel)
theorem wi_X12_moved : Cond.instanceMethod yX12_moved ∈ uT := uT_tb (i := 924) (by decide +kernel) (by decide +kernel)
theorem ws_X12_X12_moved : Cond.selects RX12 yX12_moved yX12_moved ∈ uT := uT_tb (i := 925) (by decide +kernel) (by decide +kernel)
theorem wk_X12_moved : Cond.code yX12_moved cX12_moved 3 (Option.some FieldType.int) ∈ uT := uT_tb (i := 926) (by decide +kernel) (by decide +kernel)
theorem wm_L_111 : Cond.methodLink RL 111 yX12_make ∈ uT := uT_tb (i := 927) (by decide +kernel) (by decide +kernel)
theorem wi_X12_make : Cond.instanceMethod yX12_make ∈ uT := uT_tb (i := 928) (by decide +kernel) (by decide +kernel)
theorem ws_X12_X12_make : Cond.selects RX12 yX12_make yX12_make ∈ uT := uT_tb (i := 929) (by decide +kernel) (by decide +kernel)
theorem wk_X12_make : Cond.code yX12_make cX12_make 5 (Option.some FieldType.int) ∈ uT := uT_tb (i := 930) (by decide +kernel) (by decide +kernel)
theorem wm_L_115 : Cond.methodLink RL 115 yX12_count ∈ uT := uT_tb (i := 932) (by decide +kernel) (by decide +kernel)
theorem wi_X12_count : Cond.instanceMethod yX12_count ∈ uT := uT_tb (i := 933) (by decide +kernel) (by decide +kernel)
theorem ws_X12_X12_count : Cond.selects RX12 yX12_count yX12_count ∈ uT := uT_tb (i := 934) (by decide +kernel) (by decide +kernel)
theorem wk_X12_count : Cond.code yX12_count cX12_count 5 (Option.some FieldType.int) ∈ uT := uT_tb (i := 935) (by decide +kernel) (by decide +kernel)
theorem ws_X0_X2_isOfVersion : Cond.selects RX0 yX2_isOfVersion yX2_isOfVersion ∈ uT := uT_tb (i := 937) (by decide +kernel) (by decide +kernel)
theorem ws_X1_X2_isOfVersion : Cond.selects RX1 yX2_isOfVersion yX2_isOfVersion ∈ uT := uT_tb (i := 938) (by decide +kernel) (by decide +kernel)
theorem ws_X2_X2_isOfVersion : Cond.selects RX2 yX2_isOfVersion yX2_isOfVersion ∈ uT := uT_tb (i := 939) (by decide +kernel) (by decide +kernel)
theorem ws_X8_X2_isOfVersion : Cond.selects RX8 yX2_isOfVersion yX2_isOfVersion ∈ uT := uT_tb (i := 940) (by decide +kernel) (by decide +kernel)
theorem ws_X10_X2_isOfVersion : Cond.selects RX10 yX2_isOfVersion yX2_isOfVersion ∈ uT := uT_tb (i := 941) (by decide +kernel) (by decide +kernel)
theorem ws_X11_X11_spreadNow : Cond.selects RX11 yX11_spreadNow yX11_spreadNow ∈ uT := uT_pv (i := 0) (by decide +kernel) (by decide +kernel)
theorem ws_X9_X9_findStanding : Cond.selects RX9 yX9_findStanding yX9_findStanding ∈ uT := uT_pv (i := 1) (by decide +kernel) (by decide +kernel)
theorem ws_X9_X9_takeStep : Cond.selects RX9 yX9_takeStep yX9_takeStep ∈ uT := uT_pv (i := 2) (by decide +kernel) (by decide +kernel)
theorem ws_X9_X9_isReached : Cond.selects RX9 yX9_isReached yX9_isReached ∈ uT := uT_pv (i := 3) (by decide +kernel) (by decide +kernel)
theorem ws_X9_X9_sumOfWorths : Cond.selects RX9 yX9_sumOfWorths yX9_sumOfWorths ∈ uT := uT_pv (i := 4) (by decide +kernel) (by decide +kernel)
theorem ws_X4_X4_fillVersions : Cond.selects RX4 yX4_fillVersions yX4_fillVersions ∈ uT := uT_pv (i := 5) (by decide +kernel) (by decide +kernel)
theorem ws_X4_X4_hasAllNeeds : Cond.selects RX4 yX4_hasAllNeeds yX4_hasAllNeeds ∈ uT := uT_pv (i := 6) (by decide +kernel) (by decide +kernel)
theorem ws_X6_X6_findAllowed : Cond.selects RX6 yX6_findAllowed yX6_findAllowed ∈ uT := uT_pv (i := 7) (by decide +kernel) (by decide +kernel)
theorem ws_X6_X6_handsOf : Cond.selects RX6 yX6_handsOf yX6_handsOf ∈ uT := uT_pv (i := 8) (by decide +kernel) (by decide +kernel)
theorem ws_X6_X6_bestSet : Cond.selects RX6 yX6_bestSet yX6_bestSet ∈ uT := uT_pv (i := 9) (by decide +kernel) (by decide +kernel)
theorem ws_X6_X6_putInWeek : Cond.selects RX6 yX6_putInWeek yX6_putInWeek ∈ uT := uT_pv (i := 10) (by decide +kernel) (by decide +kernel)
theorem ws_X12_X12_isPart : Cond.selects RX12 yX12_isPart yX12_isPart ∈ uT := uT_pv (i := 11) (by decide +kernel) (by decide +kernel)
theorem ws_X12_X12_isSpan : Cond.selects RX12 yX12_isSpan yX12_isSpan ∈ uT := uT_pv (i := 12) (by decide +kernel) (by decide +kernel)
theorem ws_X12_X12_add : Cond.selects RX12 yX12_add yX12_add ∈ uT := uT_pv (i := 13) (by decide +kernel) (by decide +kernel)
theorem ws_X12_X12_isHole : Cond.selects RX12 yX12_isHole yX12_isHole ∈ uT := uT_pv (i := 14) (by decide +kernel) (by decide +kernel)
theorem ws_X12_X12_takeVersions : Cond.selects RX12 yX12_takeVersions yX12_takeVersions ∈ uT := uT_pv (i := 15) (by decide +kernel) (by decide +kernel)
theorem ws_X12_X12_stands : Cond.selects RX12 yX12_stands yX12_stands ∈ uT := uT_pv (i := 16) (by decide +kernel) (by decide +kernel)
theorem ws_X12_X12_riskOf : Cond.selects RX12 yX12_riskOf yX12_riskOf ∈ uT := uT_pv (i := 17) (by decide +kernel) (by decide +kernel)
theorem ws_X12_X12_riskNow : Cond.selects RX12 yX12_riskNow yX12_riskNow ∈ uT := uT_pv (i := 18) (by decide +kernel) (by decide +kernel)
theorem ws_X12_X12_take : Cond.selects RX12 yX12_take yX12_take ∈ uT := uT_pv (i := 19) (by decide +kernel) (by decide +kernel)
theorem ws_X12_X12_fromFor : Cond.selects RX12 yX12_fromFor yX12_fromFor ∈ uT := uT_pv (i := 20) (by decide +kernel) (by decide +kernel)
theorem ws_X12_X12_opens : Cond.selects RX12 yX12_opens yX12_opens ∈ uT := uT_pv (i := 21) (by decide +kernel) (by decide +kernel)
theorem ws_X12_X12_isSet : Cond.selects RX12 yX12_isSet yX12_isSet ∈ uT := uT_pv (i := 22) (by decide +kernel) (by decide +kernel)
theorem ws_X12_X12_isSound : Cond.selects RX12 yX12_isSound yX12_isSound ∈ uT := uT_pv (i := 23) (by decide +kernel) (by decide +kernel)
theorem ws_X12_X12_isQuarrelling : Cond.selects RX12 yX12_isQuarrelling yX12_isQuarrelling ∈ uT := uT_pv (i := 24) (by decide +kernel) (by decide +kernel)
theorem ws_X12_X12_isMend : Cond.selects RX12 yX12_isMend yX12_isMend ∈ uT := uT_pv (i := 25) (by decide +kernel) (by decide +kernel)
theorem ws_X12_X12_planFrom : Cond.selects RX12 yX12_planFrom yX12_planFrom ∈ uT := uT_pv (i := 26) (by decide +kernel) (by decide +kernel)
theorem ws_X12_X12_mayIn : Cond.selects RX12 yX12_mayIn yX12_mayIn ∈ uT := uT_pv (i := 27) (by decide +kernel) (by decide +kernel)
theorem cl_X0 : ∀ w ∈ u_ws RX0 TX0 5, w ∈ uT := uT_sub [331, 332, 333, 327, 329] (by decide +kernel) (by decide +kernel)
theorem cl_X1 : ∀ w ∈ u_ws RX1 TX1 4, w ∈ uT := uT_sub [302, 303, 304, 300] (by decide +kernel) (by decide +kernel)
theorem cl_X2 : ∀ w ∈ u_ws RX2 TX2 3, w ∈ uT := uT_sub [265, 267, 269] (by decide +kernel) (by decide +kernel)
theorem cl_X3 : ∀ w ∈ u_ws RX3 TX3 6, w ∈ uT := uT_sub [487, 489, 491, 493, 495, 497] (by decide +kernel) (by decide +kernel)
theorem cl_X4 : ∀ w ∈ u_ws RX4 TX4 7, w ∈ uT := uT_sub [125, 127, 129, 131, 133, 135, 137] (by decide +kernel) (by decide +kernel)
theorem cl_X5 : ∀ w ∈ u_ws RX5 TX5 8, w ∈ uT := uT_sub [54, 56, 58, 60, 62, 64, 66, 68] (by decide +kernel) (by decide +kernel)
theorem cl_X6 : ∀ w ∈ u_ws RX6 TX6 9, w ∈ uT := uT_sub [163, 165, 167, 169, 171, 173, 175, 177, 179] (by decide +kernel) (by decide +kernel)
theorem cl_X7 : ∀ w ∈ u_ws RX7 TX7 4, w ∈ uT := uT_sub [518, 520, 522, 524] (by decide +kernel) (by decide +kernel)
theorem cl_X8 : ∀ w ∈ u_ws RX8 TX8 3, w ∈ uT := uT_sub [278, 279, 280] (by decide +kernel) (by decide +kernel)
theorem cl_X9 : ∀ w ∈ u_ws RX9 TX9 7, w ∈ uT := uT_sub [90, 92, 94, 96, 98, 100, 102] (by decide +kernel) (by decide +kernel)
theorem cl_X10 : ∀ w ∈ u_ws RX10 TX10 3, w ∈ uT := uT_sub [288, 289, 290] (by decide +kernel) (by decide +kernel)
theorem cl_X11 : ∀ w ∈ u_ws RX11 TX11 4, w ∈ uT := uT_sub [187, 189, 191, 193] (by decide +kernel) (by decide +kernel)
theorem cl_X12 : ∀ w ∈ u_ws RX12 TX12 33, w ∈ uT := uT_sub [697, 699, 701, 703, 705, 707, 709, 711, 713, 715, 717, 719, 721, 723, 725, 727, 729, 731, 733, 735, 737, 739, 741, 743, 745, 747, 749, 751, 753, 755, 757, 759, 761] (by decide +kernel) (by decide +kernel)
theorem wl_28 : (Cond.methodLinkNest "MendDesk" (11 : Nat) ({ cls := "MendDesk$Net", name := "<init>", desc := "()V" } : MethodName) "MendDesk") ∈ lw_tbl := List.mem_append_right _ (List.mem_of_getElem? (i := 28) (by decide +kernel))
theorem wl_33 : (Cond.arrayOver (FieldType.object "MendDesk$Hole")) ∈ lw_tbl := List.mem_append_right _ (List.mem_of_getElem? (i := 33) (by decide +kernel))
theorem wl_112 : (Cond.arrayOver (FieldType.object "MendDesk$Mend")) ∈ lw_tbl := List.mem_append_right _ (List.mem_of_getElem? (i := 112) (by decide +kernel))
theorem wl_114 : (Cond.arrayOver (FieldType.object "MendDesk$Quarrel")) ∈ lw_tbl := List.mem_append_right _ (List.mem_of_getElem? (i := 114) (by decide +kernel))
theorem wl_147 : (Cond.arrayOver (FieldType.array FieldType.int)) ∈ lw_tbl := List.mem_append_right _ (List.mem_of_getElem? (i := 147) (by decide +kernel))
theorem wl_210 : (Cond.methodLinkNest "MendDesk$Net" (37 : Nat) ({ cls := "MendDesk", name := "withMember", desc := "(IIZ)I" } : MethodName) "MendDesk") ∈ lw_tbl := List.mem_append_right _ (List.mem_of_getElem? (i := 210) (by decide +kernel))
theorem wx_257 : (Cond.sameField "MendDesk$Chained" "MendDesk$Hole" "part" "I") ∈ uT := uT_tb (i := 257) (by decide +kernel) (by decide +kernel)
theorem wx_350 : (Cond.sameMethod "MendDesk$Hole" "MendDesk$Hole" "kind" "()I") ∈ uT := uT_tb (i := 350) (by decide +kernel) (by decide +kernel)
theorem wl_368 : (Cond.methodLinkNest "MendDesk$Net" (47 : Nat) ({ cls := "MendDesk", name := "isIn", desc := "(II)Z" } : MethodName) "MendDesk") ∈ lw_tbl := List.mem_append_right _ (List.mem_of_getElem? (i := 368) (by decide +kernel))
theorem wx_372 : (Cond.sameMethod "MendDesk$Hole" "MendDesk$Hole" "stands" "(IZ)Z") ∈ uT := uT_tb (i := 372) (by decide +kernel) (by decide +kernel)
theorem wx_378 : (Cond.sameMethod "MendDesk$Dormant" "MendDesk$Hole" "isOfVersion" "(I)Z") ∈ uT := uT_tb (i := 378) (by decide +kernel) (by decide +kernel)
theorem wl_379 : (Cond.declares ({ cls := "MendDesk$Hole", name := "isOfVersion", desc := "(I)Z" } : MethodName)) ∈ lw_tbl := List.mem_append_right _ (List.mem_of_getElem? (i := 379) (by decide +kernel))
theorem wx_387 : (Cond.sameMethod "MendDesk$Shielded" "MendDesk$Hole" "isOfVersion" "(I)Z") ∈ uT := uT_tb (i := 387) (by decide +kernel) (by decide +kernel)
theorem wx_394 : (Cond.sameMethod "MendDesk$Used" "MendDesk$Hole" "isOfVersion" "(I)Z") ∈ uT := uT_tb (i := 394) (by decide +kernel) (by decide +kernel)
theorem wl_415 : (Cond.methodLinkNest "MendDesk$Spread" (46 : Nat) ({ cls := "MendDesk", name := "isIn", desc := "(II)Z" } : MethodName) "MendDesk") ∈ lw_tbl := List.mem_append_right _ (List.mem_of_getElem? (i := 415) (by decide +kernel))
theorem wl_417 : (Cond.methodLinkNest "MendDesk$Spread" (75 : Nat) ({ cls := "MendDesk", name := "bit", desc := "(I)I" } : MethodName) "MendDesk") ∈ lw_tbl := List.mem_append_right _ (List.mem_of_getElem? (i := 417) (by decide +kernel))
theorem wx_426 : (Cond.sameMethod "MendDesk$Hole" "MendDesk$Hole" "isFreed" "(III)Z") ∈ uT := uT_tb (i := 426) (by decide +kernel) (by decide +kernel)
theorem wl_430 : (Cond.methodLinkNest "MendDesk$Chained" (19 : Nat) ({ cls := "MendDesk", name := "isIn", desc := "(II)Z" } : MethodName) "MendDesk") ∈ lw_tbl := List.mem_append_right _ (List.mem_of_getElem? (i := 430) (by decide +kernel))
theorem wl_539 : (Cond.methodLinkNest "MendDesk$Mends" (39 : Nat) ({ cls := "MendDesk", name := "bit", desc := "(I)I" } : MethodName) "MendDesk") ∈ lw_tbl := List.mem_append_right _ (List.mem_of_getElem? (i := 539) (by decide +kernel))
theorem wl_551 : (Cond.methodLinkNest "MendDesk$Mends" (88 : Nat) ({ cls := "MendDesk", name := "isIn", desc := "(II)Z" } : MethodName) "MendDesk") ∈ lw_tbl := List.mem_append_right _ (List.mem_of_getElem? (i := 551) (by decide +kernel))
theorem wx_580 : (Cond.constant "MendDesk" (185 : Nat) (-100001 : Int32)) ∈ uT := uT_tb (i := 580) (by decide +kernel) (by decide +kernel)
theorem wl_598 : (Cond.methodLinkNest "MendDesk$Planner" (103 : Nat) ({ cls := "MendDesk", name := "isBetween", desc := "(III)Z" } : MethodName) "MendDesk") ∈ lw_tbl := List.mem_append_right _ (List.mem_of_getElem? (i := 598) (by decide +kernel))
theorem wl_599 : (Cond.methodLinkNest "MendDesk$Planner" (85 : Nat) ({ cls := "MendDesk", name := "bit", desc := "(I)I" } : MethodName) "MendDesk") ∈ lw_tbl := List.mem_append_right _ (List.mem_of_getElem? (i := 599) (by decide +kernel))
theorem wl_604 : (Cond.methodLinkNest "MendDesk$Planner" (74 : Nat) ({ cls := "MendDesk", name := "isIn", desc := "(II)Z" } : MethodName) "MendDesk") ∈ lw_tbl := List.mem_append_right _ (List.mem_of_getElem? (i := 604) (by decide +kernel))
theorem wx_647 : (Cond.constant "MendDesk" (232 : Nat) (100000 : Int32)) ∈ uT := uT_tb (i := 647) (by decide +kernel) (by decide +kernel)
theorem wx_655 : (Cond.constant "java/lang/Integer" (265 : Nat) (1431655765 : Int32)) ∈ uT := uT_tb (i := 655) (by decide +kernel) (by decide +kernel)
theorem wx_656 : (Cond.constant "java/lang/Integer" (266 : Nat) (858993459 : Int32)) ∈ uT := uT_tb (i := 656) (by decide +kernel) (by decide +kernel)
theorem wx_657 : (Cond.constant "java/lang/Integer" (267 : Nat) (252645135 : Int32)) ∈ uT := uT_tb (i := 657) (by decide +kernel) (by decide +kernel)
theorem wx_902 : (Cond.constant "MendDeskModel" (168 : Nat) (-100001 : Int32)) ∈ uT := uT_tb (i := 902) (by decide +kernel) (by decide +kernel)
theorem wx_931 : (Cond.constant "MendDeskModel" (179 : Nat) (100000 : Int32)) ∈ uT := uT_tb (i := 931) (by decide +kernel) (by decide +kernel)
theorem wx_936 : (Cond.sameMethod "MendDesk$Hole" "MendDesk$Hole" "isOfVersion" "(I)Z") ∈ uT := uT_tb (i := 936) (by decide +kernel) (by decide +kernel)
theorem wl_942 : (Cond.castable "MendDesk$Shielded" "MendDesk$Hole") ∈ lw_tbl := List.mem_append_right _ (List.mem_of_getElem? (i := 942) (by decide +kernel))
theorem wl_943 : (Cond.castable "MendDesk$Used" "MendDesk$Hole") ∈ lw_tbl := List.mem_append_right _ (List.mem_of_getElem? (i := 943) (by decide +kernel))
theorem wl_944 : (Cond.castable "MendDesk$Dormant" "MendDesk$Hole") ∈ lw_tbl := List.mem_append_right _ (List.mem_of_getElem? (i := 944) (by decide +kernel))
theorem wl_945 : (Cond.castable "MendDesk$Chained" "MendDesk$Hole") ∈ lw_tbl := List.mem_append_right _ (List.mem_of_getElem? (i := 945) (by decide +kernel))
end
section
theorem dX0_init_0 : decode cX0_init 0 = .ok (.aload_n 0, 1) := by decide +kernel
theorem dX0_init_1 : decode cX0_init 1 = .ok (.iload_n 1, 1) := by decide +kernel
theorem dX0_init_2 : decode cX0_init 2 = .ok (.iload_n 2, 1) := by decide +kernel
theorem dX0_init_3 : decode cX0_init 3 = .ok (.iload_n 3, 1) := by decide +kernel
theorem dX0_init_4 : decode cX0_init 4 = .ok (.invokespecial 1, 3) := by decide +kernel
theorem dX0_init_7 : decode cX0_init 7 = .ok (.aload_n 0, 1) := by decide +kernel
theorem dX0_init_8 : decode cX0_init 8 = .ok (.iload 4, 2) := by decide +kernel
theorem dX0_init_10 : decode cX0_init 10 = .ok (.putfield 7, 3) := by decide +kernel
theorem dX0_init_13 : decode cX0_init 13 = .ok (.aload_n 0, 1) := by decide +kernel
theorem dX0_init_14 : decode cX0_init 14 = .ok (.iload 5, 2) := by decide +kernel
theorem dX0_init_16 : decode cX0_init 16 = .ok (.putfield 13, 3) := by decide +kernel
theorem dX0_init_19 : decode cX0_init 19 = .ok (.return_, 1) := by decide +kernel
theorem dX0_kind_0 : decode cX0_kind 0 = .ok (.iconst 1, 1) := by decide +kernel
theorem dX0_kind_1 : decode cX0_kind 1 = .ok (.ireturn, 1) := by decide +kernel
theorem dX0_isFreed_0 : decode cX0_isFreed 0 = .ok (.aload_n 0, 1) := by decide +kernel
theorem dX0_isFreed_1 : decode cX0_isFreed 1 = .ok (.getfield 13, 3) := by decide +kernel
theorem dX0_isFreed_4 : decode cX0_isFreed 4 = .ok (.aload_n 0, 1) := by decide +kernel
theorem dX0_isFreed_5 : decode cX0_isFreed 5 = .ok (.getfield 16, 3) := by decide +kernel
theorem dX0_isFreed_8 : decode cX0_isFreed 8 = .ok (.if_icmp .ne 12, 3) := by decide +kernel
theorem dX0_isFreed_11 : decode cX0_isFreed 11 = .ok (.iload_n 2, 1) := by decide +kernel
theorem dX0_isFreed_12 : decode cX0_isFreed 12 = .ok (.aload_n 0, 1) := by decide +kernel
theorem dX0_isFreed_13 : decode cX0_isFreed 13 = .ok (.getfield 7, 3) := by decide +kernel
theorem dX0_isFreed_16 : decode cX0_isFreed 16 = .ok (.invokestatic 19, 3) := by decide +kernel
theorem dX0_isFreed_19 : decode cX0_isFreed 19 = .ok (.ireturn, 1) := by decide +kernel
theorem dX0_isFreed_20 : decode cX0_isFreed 20 = .ok (.iload_n 1, 1) := by decide +kernel
theorem dX0_isFreed_21 : decode cX0_isFreed 21 = .ok (.aload_n 0, 1) := by decide +kernel
theorem dX0_isFreed_22 : decode cX0_isFreed 22 = .ok (.getfield 7, 3) := by decide +kernel
theorem dX0_isFreed_25 : decode cX0_isFreed 25 = .ok (.invokestatic 19, 3) := by decide +kernel
theorem dX0_isFreed_28 : decode cX0_isFreed 28 = .ok (.ifCond .eq 18, 3) := by decide +kernel
theorem dX0_isFreed_31 : decode cX0_isFreed 31 = .ok (.iload_n 3, 1) := by decide +kernel
theorem dX0_isFreed_32 : decode cX0_isFreed 32 = .ok (.aload_n 0, 1) := by decide +kernel
theorem dX0_isFreed_33 : decode cX0_isFreed 33 = .ok (.getfield 13, 3) := by decide +kernel
theorem dX0_isFreed_36 : decode cX0_isFreed 36 = .ok (.invokestatic 19, 3) := by decide +kernel
theorem dX0_isFreed_39 : decode cX0_isFreed 39 = .ok (.ifCond .eq 7, 3) := by decide +kernel
theorem dX0_isFreed_42 : decode cX0_isFreed 42 = .ok (.iconst 1, 1) := by decide +kernel
theorem dX0_isFreed_43 : decode cX0_isFreed 43 = .ok (.goto 4, 3) := by decide +kernel
theorem dX0_isFreed_46 : decode cX0_isFreed 46 = .ok (.iconst 0, 1) := by decide +kernel
theorem dX0_isFreed_47 : decode cX0_isFreed 47 = .ok (.ireturn, 1) := by decide +kernel
theorem dX1_init_0 : decode cX1_init 0 = .ok (.aload_n 0, 1) := by decide +kernel
theorem dX1_init_1 : decode cX1_init 1 = .ok (.iload_n 1, 1) := by decide +kernel
theorem dX1_init_2 : decode cX1_init 2 = .ok (.iload_n 2, 1) := by decide +kernel
theorem dX1_init_3 : decode cX1_init 3 = .ok (.iload_n 3, 1) := by decide +kernel
theorem dX1_init_4 : decode cX1_init 4 = .ok (.invokespecial 1, 3) := by decide +kernel
theorem dX1_init_7 : decode cX1_init 7 = .ok (.return_, 1) := by decide +kernel
theorem dX1_kind_0 : decode cX1_kind 0 = .ok (.iconst 4, 1) := by decide +kernel
theorem dX1_kind_1 : decode cX1_kind 1 = .ok (.ireturn, 1) := by decide +kernel
theorem dX1_stands_0 : decode cX1_stands 0 = .ok (.aload_n 0, 1) := by decide +kernel
theorem dX1_stands_1 : decode cX1_stands 1 = .ok (.getfield 7, 3) := by decide +kernel
theorem dX1_stands_4 : decode cX1_stands 4 = .ok (.ifCond .eq 15, 3) := by decide +kernel
theorem dX1_stands_7 : decode cX1_stands 7 = .ok (.aload_n 0, 1) := by decide +kernel
theorem dX1_stands_8 : decode cX1_stands 8 = .ok (.iload_n 1, 1) := by decide +kernel
theorem dX1_stands_9 : decode cX1_stands 9 = .ok (.invokevirtual 13, 3) := by decide +kernel
theorem dX1_stands_12 : decode cX1_stands 12 = .ok (.ifCond .eq 7, 3) := by decide +kernel
theorem dX1_stands_15 : decode cX1_stands 15 = .ok (.iconst 1, 1) := by decide +kernel
theorem dX1_stands_16 : decode cX1_stands 16 = .ok (.goto 4, 3) := by decide +kernel
theorem dX1_stands_19 : decode cX1_stands 19 = .ok (.iconst 0, 1) := by decide +kernel
theorem dX1_stands_20 : decode cX1_stands 20 = .ok (.ireturn, 1) := by decide +kernel
theorem dX2_init_0 : decode cX2_init 0 = .ok (.aload_n 0, 1) := by decide +kernel
theorem dX2_init_1 : decode cX2_init 1 = .ok (.invokespecial 1, 3) := by decide +kernel
theorem dX2_init_4 : decode cX2_init 4 = .ok (.aload_n 0, 1) := by decide +kernel
theorem dX2_init_5 : decode cX2_init 5 = .ok (.iload_n 1, 1) := by decide +kernel
theorem dX2_init_6 : decode cX2_init 6 = .ok (.putfield 7, 3) := by decide +kernel
theorem dX2_init_9 : decode cX2_init 9 = .ok (.aload_n 0, 1) := by decide +kernel
theorem dX2_init_10 : decode cX2_init 10 = .ok (.iload_n 2, 1) := by decide +kernel
theorem dX2_init_11 : decode cX2_init 11 = .ok (.putfield 13, 3) := by decide +kernel
theorem dX2_init_14 : decode cX2_init 14 = .ok (.aload_n 0, 1) := by decide +kernel
theorem dX2_init_15 : decode cX2_init 15 = .ok (.iload_n 3, 1) := by decide +kernel
theorem dX2_init_16 : decode cX2_init 16 = .ok (.putfield 16, 3) := by decide +kernel
theorem dX2_init_19 : decode cX2_init 19 = .ok (.return_, 1) := by decide +kernel
theorem dX2_kind_0 : decode cX2_kind 0 = .ok (.iconst 0, 1) := by decide +kernel
theorem dX2_kind_1 : decode cX2_kind 1 = .ok (.ireturn, 1) := by decide +kernel
theorem dX2_stands_0 : decode cX2_stands 0 = .ok (.aload_n 0, 1) := by decide +kernel
theorem dX2_stands_1 : decode cX2_stands 1 = .ok (.iload_n 1, 1) := by decide +kernel
theorem dX2_stands_2 : decode cX2_stands 2 = .ok (.invokevirtual 19, 3) := by decide +kernel
theorem dX2_stands_5 : decode cX2_stands 5 = .ok (.ireturn, 1) := by decide +kernel
theorem dX2_isFreed_0 : decode cX2_isFreed 0 = .ok (.iconst 1, 1) := by decide +kernel
theorem dX2_isFreed_1 : decode cX2_isFreed 1 = .ok (.ireturn, 1) := by decide +kernel
theorem dX2_isOfVersion_0 : decode cX2_isOfVersion 0 = .ok (.aload_n 0, 1) := by decide +kernel
theorem dX2_isOfVersion_1 : decode cX2_isOfVersion 1 = .ok (.getfield 13, 3) := by decide +kernel
theorem dX2_isOfVersion_4 : decode cX2_isOfVersion 4 = .ok (.iload_n 1, 1) := by decide +kernel
theorem dX2_isOfVersion_5 : decode cX2_isOfVersion 5 = .ok (.if_icmp .gt 15, 3) := by decide +kernel
theorem dX2_isOfVersion_8 : decode cX2_isOfVersion 8 = .ok (.iload_n 1, 1) := by decide +kernel
theorem dX2_isOfVersion_9 : decode cX2_isOfVersion 9 = .ok (.aload_n 0, 1) := by decide +kernel
theorem dX2_isOfVersion_10 : decode cX2_isOfVersion 10 = .ok (.getfield 16, 3) := by decide +kernel
theorem dX2_isOfVersion_13 : decode cX2_isOfVersion 13 = .ok (.if_icmp .gt 7, 3) := by decide +kernel
theorem dX2_isOfVersion_16 : decode cX2_isOfVersion 16 = .ok (.iconst 1, 1) := by decide +kernel
theorem dX2_isOfVersion_17 : decode cX2_isOfVersion 17 = .ok (.goto 4, 3) := by decide +kernel
theorem dX2_isOfVersion_20 : decode cX2_isOfVersion 20 = .ok (.iconst 0, 1) := by decide +kernel
theorem dX2_isOfVersion_21 : decode cX2_isOfVersion 21 = .ok (.ireturn, 1) := by decide +kernel
theorem dX3_init_0 : decode cX3_init 0 = .ok (.aload_n 0, 1) := by decide +kernel
theorem dX3_init_1 : decode cX3_init 1 = .ok (.invokespecial 1, 3) := by decide +kernel
theorem dX3_init_4 : decode cX3_init 4 = .ok (.aload_n 0, 1) := by decide +kernel
theorem dX3_init_5 : decode cX3_init 5 = .ok (.iload_n 1, 1) := by decide +kernel
theorem dX3_init_6 : decode cX3_init 6 = .ok (.putfield 7, 3) := by decide +kernel
theorem dX3_init_9 : decode cX3_init 9 = .ok (.aload_n 0, 1) := by decide +kernel
theorem dX3_init_10 : decode cX3_init 10 = .ok (.iload_n 2, 1) := by decide +kernel
theorem dX3_init_11 : decode cX3_init 11 = .ok (.putfield 13, 3) := by decide +kernel
theorem dX3_init_14 : decode cX3_init 14 = .ok (.aload_n 0, 1) := by decide +kernel
theorem dX3_init_15 : decode cX3_init 15 = .ok (.iload_n 3, 1) := by decide +kernel
theorem dX3_init_16 : decode cX3_init 16 = .ok (.putfield 16, 3) := by decide +kernel
theorem dX3_init_19 : decode cX3_init 19 = .ok (.aload_n 0, 1) := by decide +kernel
theorem dX3_init_20 : decode cX3_init 20 = .ok (.iload 4, 2) := by decide +kernel
theorem dX3_init_22 : decode cX3_init 22 = .ok (.putfield 19, 3) := by decide +kernel
theorem dX3_init_25 : decode cX3_init 25 = .ok (.aload_n 0, 1) := by decide +kernel
theorem dX3_init_26 : decode cX3_init 26 = .ok (.iload 5, 2) := by decide +kernel
theorem dX3_init_28 : decode cX3_init 28 = .ok (.putfield 22, 3) := by decide +kernel
theorem dX3_init_31 : decode cX3_init 31 = .ok (.aload_n 0, 1) := by decide +kernel
theorem dX3_init_32 : decode cX3_init 32 = .ok (.iload 6, 2) := by decide +kernel
theorem dX3_init_34 : decode cX3_init 34 = .ok (.putfield 25, 3) := by decide +kernel
theorem dX3_init_37 : decode cX3_init 37 = .ok (.return_, 1) := by decide +kernel
theorem dX4_init_0 : decode cX4_init 0 = .ok (.aload_n 0, 1) := by decide +kernel
theorem dX4_init_1 : decode cX4_init 1 = .ok (.invokespecial 3, 3) := by decide +kernel
theorem dX4_init_4 : decode cX4_init 4 = .ok (.aload_n 0, 1) := by decide +kernel
theorem dX4_init_5 : decode cX4_init 5 = .ok (.bipush 8, 2) := by decide +kernel
theorem dX4_init_7 : decode cX4_init 7 = .ok (.anewarray 9, 3) := by decide +kernel
theorem dX4_init_10 : decode cX4_init 10 = .ok (.putfield 11, 3) := by decide +kernel
theorem dX4_init_13 : decode cX4_init 13 = .ok (.aload_n 0, 1) := by decide +kernel
theorem dX4_init_14 : decode cX4_init 14 = .ok (.bipush 8, 2) := by decide +kernel
theorem dX4_init_16 : decode cX4_init 16 = .ok (.anewarray 17, 3) := by decide +kernel
theorem dX4_init_19 : decode cX4_init 19 = .ok (.putfield 19, 3) := by decide +kernel
theorem dX4_init_22 : decode cX4_init 22 = .ok (.aload_n 0, 1) := by decide +kernel
theorem dX4_init_23 : decode cX4_init 23 = .ok (.bipush 8, 2) := by decide +kernel
theorem dX4_init_25 : decode cX4_init 25 = .ok (.newarray .int, 2) := by decide +kernel
theorem dX4_init_27 : decode cX4_init 27 = .ok (.putfield 23, 3) := by decide +kernel
theorem dX4_init_30 : decode cX4_init 30 = .ok (.aload_n 0, 1) := by decide +kernel
theorem dX4_init_31 : decode cX4_init 31 = .ok (.aload_n 1, 1) := by decide +kernel
theorem dX4_init_32 : decode cX4_init 32 = .ok (.putfield 27, 3) := by decide +kernel
theorem dX4_init_35 : decode cX4_init 35 = .ok (.aload_n 0, 1) := by decide +kernel
theorem dX4_init_36 : decode cX4_init 36 = .ok (.aload_n 2, 1) := by decide +kernel
theorem dX4_init_37 : decode cX4_init 37 = .ok (.putfield 31, 3) := by decide +kernel
theorem dX4_init_40 : decode cX4_init 40 = .ok (.return_, 1) := by decide +kernel
theorem dX4_mendAt_0 : decode cX4_mendAt 0 = .ok (.iload_n 1, 1) := by decide +kernel
theorem dX4_mendAt_1 : decode cX4_mendAt 1 = .ok (.ifCond .lt 20, 3) := by decide +kernel
theorem dX4_mendAt_4 : decode cX4_mendAt 4 = .ok (.iload_n 1, 1) := by decide +kernel
theorem dX4_mendAt_5 : decode cX4_mendAt 5 = .ok (.aload_n 0, 1) := by decide +kernel
theorem dX4_mendAt_6 : decode cX4_mendAt 6 = .ok (.getfield 35, 3) := by decide +kernel
theorem dX4_mendAt_9 : decode cX4_mendAt 9 = .ok (.if_icmp .ge 12, 3) := by decide +kernel
theorem dX4_mendAt_12 : decode cX4_mendAt 12 = .ok (.aload_n 0, 1) := by decide +kernel
theorem dX4_mendAt_13 : decode cX4_mendAt 13 = .ok (.getfield 11, 3) := by decide +kernel
theorem dX4_mendAt_16 : decode cX4_mendAt 16 = .ok (.iload_n 1, 1) := by decide +kernel
theorem dX4_mendAt_17 : decode cX4_mendAt 17 = .ok (.aaload, 1) := by decide +kernel
theorem dX4_mendAt_18 : decode cX4_mendAt 18 = .ok (.goto 4, 3) := by decide +kernel
theorem dX4_mendAt_21 : decode cX4_mendAt 21 = .ok (.aconst_null, 1) := by decide +kernel
theorem dX4_mendAt_22 : decode cX4_mendAt 22 = .ok (.areturn, 1) := by decide +kernel
theorem dX4_isSet_0 : decode cX4_isSet 0 = .ok (.iload_n 1, 1) := by decide +kernel
theorem dX4_isSet_1 : decode cX4_isSet 1 = .ok (.ifCond .lt 18, 3) := by decide +kernel
theorem dX4_isSet_4 : decode cX4_isSet 4 = .ok (.iload_n 1, 1) := by decide +kernel
theorem dX4_isSet_5 : decode cX4_isSet 5 = .ok (.aload_n 0, 1) := by decide +kernel
theorem dX4_isSet_6 : decode cX4_isSet 6 = .ok (.getfield 35, 3) := by decide +kernel
theorem dX4_isSet_9 : decode cX4_isSet 9 = .ok (.invokestatic 39, 3) := by decide +kernel
theorem dX4_isSet_12 : decode cX4_isSet 12 = .ok (.if_icmp .ge 7, 3) := by decide +kernel
theorem dX4_isSet_15 : decode cX4_isSet 15 = .ok (.iconst 1, 1) := by decide +kernel
theorem dX4_isSet_16 : decode cX4_isSet 16 = .ok (.goto 4, 3) := by decide +kernel
theorem dX4_isSet_19 : decode cX4_isSet 19 = .ok (.iconst 0, 1) := by decide +kernel
theorem dX4_isSet_20 : decode cX4_isSet 20 = .ok (.ireturn, 1) := by decide +kernel
theorem dX4_addMend_0 : decode cX4_addMend 0 = .ok (.aload_n 0, 1) := by decide +kernel
theorem dX4_addMend_1 : decode cX4_addMend 1 = .ok (.getfield 35, 3) := by decide +kernel
theorem dX4_addMend_4 : decode cX4_addMend 4 = .ok (.bipush 8, 2) := by decide +kernel
theorem dX4_addMend_6 : decode cX4_addMend 6 = .ok (.if_icmp .lt 6, 3) := by decide +kernel
theorem dX4_addMend_9 : decode cX4_addMend 9 = .ok (.bipush (-3), 2) := by decide +kernel
theorem dX4_addMend_11 : decode cX4_addMend 11 = .ok (.ireturn, 1) := by decide +kernel
theorem dX4_addMend_12 : decode cX4_addMend 12 = .ok (.aload_n 0, 1) := by decide +kernel
theorem dX4_addMend_13 : decode cX4_addMend 13 = .ok (.getfield 11, 3) := by decide +kernel
theorem dX4_addMend_16 : decode cX4_addMend 16 = .ok (.aload_n 0, 1) := by decide +kernel
theorem dX4_addMend_17 : decode cX4_addMend 17 = .ok (.getfield 35, 3) := by decide +kernel
theorem dX4_addMend_20 : decode cX4_addMend 20 = .ok (.aload_n 1, 1) := by decide +kernel
theorem dX4_addMend_21 : decode cX4_addMend 21 = .ok (.aastore, 1) := by decide +kernel
theorem dX4_addMend_22 : decode cX4_addMend 22 = .ok (.aload_n 0, 1) := by decide +kernel
theorem dX4_addMend_23 : decode cX4_addMend 23 = .ok (.dup, 1) := by decide +kernel
theorem dX4_addMend_24 : decode cX4_addMend 24 = .ok (.getfield 35, 3) := by decide +kernel
theorem dX4_addMend_27 : decode cX4_addMend 27 = .ok (.dup_x1, 1) := by decide +kernel
theorem dX4_addMend_28 : decode cX4_addMend 28 = .ok (.iconst 1, 1) := by decide +kernel
theorem dX4_addMend_29 : decode cX4_addMend 29 = .ok (.iadd, 1) := by decide +kernel
theorem dX4_addMend_30 : decode cX4_addMend 30 = .ok (.putfield 35, 3) := by decide +kernel
theorem dX4_addMend_33 : decode cX4_addMend 33 = .ok (.ireturn, 1) := by decide +kernel
theorem dX4_addQuarrel_0 : decode cX4_addQuarrel 0 = .ok (.aload_n 0, 1) := by decide +kernel
theorem dX4_addQuarrel_1 : decode cX4_addQuarrel 1 = .ok (.getfield 43, 3) := by decide +kernel
theorem dX4_addQuarrel_4 : decode cX4_addQuarrel 4 = .ok (.bipush 8, 2) := by decide +kernel
theorem dX4_addQuarrel_6 : decode cX4_addQuarrel 6 = .ok (.if_icmp .lt 6, 3) := by decide +kernel
theorem dX4_addQuarrel_9 : decode cX4_addQuarrel 9 = .ok (.bipush (-3), 2) := by decide +kernel
theorem dX4_addQuarrel_11 : decode cX4_addQuarrel 11 = .ok (.ireturn, 1) := by decide +kernel
theorem dX4_addQuarrel_12 : decode cX4_addQuarrel 12 = .ok (.aload_n 0, 1) := by decide +kernel
theorem dX4_addQuarrel_13 : decode cX4_addQuarrel 13 = .ok (.getfield 19, 3) := by decide +kernel
theorem dX4_addQuarrel_16 : decode cX4_addQuarrel 16 = .ok (.aload_n 0, 1) := by decide +kernel
theorem dX4_addQuarrel_17 : decode cX4_addQuarrel 17 = .ok (.getfield 43, 3) := by decide +kernel
theorem dX4_addQuarrel_20 : decode cX4_addQuarrel 20 = .ok (.aload_n 1, 1) := by decide +kernel
theorem dX4_addQuarrel_21 : decode cX4_addQuarrel 21 = .ok (.aastore, 1) := by decide +kernel
theorem dX4_addQuarrel_22 : decode cX4_addQuarrel 22 = .ok (.aload_n 0, 1) := by decide +kernel
theorem dX4_addQuarrel_23 : decode cX4_addQuarrel 23 = .ok (.dup, 1) := by decide +kernel
theorem dX4_addQuarrel_24 : decode cX4_addQuarrel 24 = .ok (.getfield 43, 3) := by decide +kernel
theorem dX4_addQuarrel_27 : decode cX4_addQuarrel 27 = .ok (.iconst 1, 1) := by decide +kernel
theorem dX4_addQuarrel_28 : decode cX4_addQuarrel 28 = .ok (.iadd, 1) := by decide +kernel
theorem dX4_addQuarrel_29 : decode cX4_addQuarrel 29 = .ok (.dup_x1, 1) := by decide +kernel
theorem dX4_addQuarrel_30 : decode cX4_addQuarrel 30 = .ok (.putfield 43, 3) := by decide +kernel
theorem dX4_addQuarrel_33 : decode cX4_addQuarrel 33 = .ok (.ireturn, 1) := by decide +kernel
theorem dX4_riskAfter_0 : decode cX4_riskAfter 0 = .ok (.aload_n 0, 1) := by decide +kernel
theorem dX4_riskAfter_1 : decode cX4_riskAfter 1 = .ok (.iload_n 1, 1) := by decide +kernel
theorem dX4_riskAfter_2 : decode cX4_riskAfter 2 = .ok (.invokevirtual 46, 3) := by decide +kernel
theorem dX4_riskAfter_5 : decode cX4_riskAfter 5 = .ok (.aload_n 0, 1) := by decide +kernel
theorem dX4_riskAfter_6 : decode cX4_riskAfter 6 = .ok (.getfield 31, 3) := by decide +kernel
theorem dX4_riskAfter_9 : decode cX4_riskAfter 9 = .ok (.aload_n 0, 1) := by decide +kernel
theorem dX4_riskAfter_10 : decode cX4_riskAfter 10 = .ok (.getfield 23, 3) := by decide +kernel
theorem dX4_riskAfter_13 : decode cX4_riskAfter 13 = .ok (.aload_n 0, 1) := by decide +kernel
theorem dX4_riskAfter_14 : decode cX4_riskAfter 14 = .ok (.getfield 27, 3) := by decide +kernel
theorem dX4_riskAfter_17 : decode cX4_riskAfter 17 = .ok (.getfield 50, 3) := by decide +kernel
theorem dX4_riskAfter_20 : decode cX4_riskAfter 20 = .ok (.invokevirtual 55, 3) := by decide +kernel
theorem dX4_riskAfter_23 : decode cX4_riskAfter 23 = .ok (.ireturn, 1) := by decide +kernel
theorem dX4_isSound_0 : decode cX4_isSound 0 = .ok (.aload_n 0, 1) := by decide +kernel
theorem dX4_isSound_1 : decode cX4_isSound 1 = .ok (.iload_n 1, 1) := by decide +kernel
theorem dX4_isSound_2 : decode cX4_isSound 2 = .ok (.invokevirtual 61, 3) := by decide +kernel
theorem dX4_isSound_5 : decode cX4_isSound 5 = .ok (.ifCond .eq 15, 3) := by decide +kernel
theorem dX4_isSound_8 : decode cX4_isSound 8 = .ok (.aload_n 0, 1) := by decide +kernel
theorem dX4_isSound_9 : decode cX4_isSound 9 = .ok (.iload_n 1, 1) := by decide +kernel
theorem dX4_isSound_10 : decode cX4_isSound 10 = .ok (.invokevirtual 65, 3) := by decide +kernel
theorem dX4_isSound_13 : decode cX4_isSound 13 = .ok (.ifCond .ne 7, 3) := by decide +kernel
theorem dX4_isSound_16 : decode cX4_isSound 16 = .ok (.iconst 1, 1) := by decide +kernel
theorem dX4_isSound_17 : decode cX4_isSound 17 = .ok (.goto 4, 3) := by decide +kernel
theorem dX4_isSound_20 : decode cX4_isSound 20 = .ok (.iconst 0, 1) := by decide +kernel
theorem dX4_isSound_21 : decode cX4_isSound 21 = .ok (.ireturn, 1) := by decide +kernel
theorem dX4_quarrelHolds_0 : decode cX4_quarrelHolds 0 = .ok (.aload_n 0, 1) := by decide +kernel
theorem dX4_quarrelHolds_1 : decode cX4_quarrelHolds 1 = .ok (.iload_n 1, 1) := by decide +kernel
theorem dX4_quarrelHolds_2 : decode cX4_quarrelHolds 2 = .ok (.invokevirtual 46, 3) := by decide +kernel
theorem dX4_quarrelHolds_5 : decode cX4_quarrelHolds 5 = .ok (.iconst 0, 1) := by decide +kernel
theorem dX4_quarrelHolds_6 : decode cX4_quarrelHolds 6 = .ok (.istore_n 2, 1) := by decide +kernel
theorem dX4_quarrelHolds_7 : decode cX4_quarrelHolds 7 = .ok (.iload_n 2, 1) := by decide +kernel
theorem dX4_quarrelHolds_8 : decode cX4_quarrelHolds 8 = .ok (.aload_n 0, 1) := by decide +kernel
theorem dX4_quarrelHolds_9 : decode cX4_quarrelHolds 9 = .ok (.getfield 43, 3) := by decide +kernel
theorem dX4_quarrelHolds_12 : decode cX4_quarrelHolds 12 = .ok (.if_icmp .ge 33, 3) := by decide +kernel
theorem dX4_quarrelHolds_15 : decode cX4_quarrelHolds 15 = .ok (.aload_n 0, 1) := by decide +kernel
theorem dX4_quarrelHolds_16 : decode cX4_quarrelHolds 16 = .ok (.getfield 19, 3) := by decide +kernel
theorem dX4_quarrelHolds_19 : decode cX4_quarrelHolds 19 = .ok (.iload_n 2, 1) := by decide +kernel
theorem dX4_quarrelHolds_20 : decode cX4_quarrelHolds 20 = .ok (.aaload, 1) := by decide +kernel
theorem dX4_quarrelHolds_21 : decode cX4_quarrelHolds 21 = .ok (.astore_n 3, 1) := by decide +kernel
theorem dX4_quarrelHolds_22 : decode cX4_quarrelHolds 22 = .ok (.aload_n 3, 1) := by decide +kernel
theorem dX4_quarrelHolds_23 : decode cX4_quarrelHolds 23 = .ok (.ifnull 16, 3) := by decide +kernel
theorem dX4_quarrelHolds_26 : decode cX4_quarrelHolds 26 = .ok (.aload_n 3, 1) := by decide +kernel
theorem dX4_quarrelHolds_27 : decode cX4_quarrelHolds 27 = .ok (.aload_n 0, 1) := by decide +kernel
theorem dX4_quarrelHolds_28 : decode cX4_quarrelHolds 28 = .ok (.getfield 23, 3) := by decide +kernel
theorem dX4_quarrelHolds_31 : decode cX4_quarrelHolds 31 = .ok (.invokevirtual 68, 3) := by decide +kernel
theorem dX4_quarrelHolds_34 : decode cX4_quarrelHolds 34 = .ok (.ifCond .eq 5, 3) := by decide +kernel
theorem dX4_quarrelHolds_37 : decode cX4_quarrelHolds 37 = .ok (.iconst 1, 1) := by decide +kernel
theorem dX4_quarrelHolds_38 : decode cX4_quarrelHolds 38 = .ok (.ireturn, 1) := by decide +kernel
theorem dX4_quarrelHolds_39 : decode cX4_quarrelHolds 39 = .ok (.iinc 2 1, 3) := by decide +kernel
theorem dX4_quarrelHolds_42 : decode cX4_quarrelHolds 42 = .ok (.goto (-35), 3) := by decide +kernel
theorem dX4_quarrelHolds_45 : decode cX4_quarrelHolds 45 = .ok (.iconst 0, 1) := by decide +kernel
theorem dX4_quarrelHolds_46 : decode cX4_quarrelHolds 46 = .ok (.ireturn, 1) := by decide +kernel
theorem dX4_needIsMet_0 : decode cX4_needIsMet 0 = .ok (.aload_n 0, 1) := by decide +kernel
theorem dX4_needIsMet_1 : decode cX4_needIsMet 1 = .ok (.aload_n 1, 1) := by decide +kernel
theorem dX4_needIsMet_2 : decode cX4_needIsMet 2 = .ok (.getfield 72, 3) := by decide +kernel
theorem dX4_needIsMet_5 : decode cX4_needIsMet 5 = .ok (.invokevirtual 75, 3) := by decide +kernel
theorem dX4_needIsMet_8 : decode cX4_needIsMet 8 = .ok (.astore_n 2, 1) := by decide +kernel
theorem dX4_needIsMet_9 : decode cX4_needIsMet 9 = .ok (.aload_n 2, 1) := by decide +kernel
theorem dX4_needIsMet_10 : decode cX4_needIsMet 10 = .ok (.ifnull 22, 3) := by decide +kernel
theorem dX4_needIsMet_13 : decode cX4_needIsMet 13 = .ok (.aload_n 0, 1) := by decide +kernel
theorem dX4_needIsMet_14 : decode cX4_needIsMet 14 = .ok (.getfield 27, 3) := by decide +kernel
theorem dX4_needIsMet_17 : decode cX4_needIsMet 17 = .ok (.getfield 79, 3) := by decide +kernel
theorem dX4_needIsMet_20 : decode cX4_needIsMet 20 = .ok (.aload_n 2, 1) := by decide +kernel
theorem dX4_needIsMet_21 : decode cX4_needIsMet 21 = .ok (.getfield 82, 3) := by decide +kernel
theorem dX4_needIsMet_24 : decode cX4_needIsMet 24 = .ok (.iaload, 1) := by decide +kernel
theorem dX4_needIsMet_25 : decode cX4_needIsMet 25 = .ok (.aload_n 2, 1) := by decide +kernel
theorem dX4_needIsMet_26 : decode cX4_needIsMet 26 = .ok (.getfield 85, 3) := by decide +kernel
theorem dX4_needIsMet_29 : decode cX4_needIsMet 29 = .ok (.if_icmp .lt 7, 3) := by decide +kernel
theorem dX4_needIsMet_32 : decode cX4_needIsMet 32 = .ok (.iconst 1, 1) := by decide +kernel
theorem dX4_needIsMet_33 : decode cX4_needIsMet 33 = .ok (.goto 4, 3) := by decide +kernel
theorem dX4_needIsMet_36 : decode cX4_needIsMet 36 = .ok (.iconst 0, 1) := by decide +kernel
theorem dX4_needIsMet_37 : decode cX4_needIsMet 37 = .ok (.ireturn, 1) := by decide +kernel
theorem dX4_hasAllNeeds_0 : decode cX4_hasAllNeeds 0 = .ok (.iconst 0, 1) := by decide +kernel
theorem dX4_hasAllNeeds_1 : decode cX4_hasAllNeeds 1 = .ok (.istore_n 2, 1) := by decide +kernel
theorem dX4_hasAllNeeds_2 : decode cX4_hasAllNeeds 2 = .ok (.iload_n 2, 1) := by decide +kernel
theorem dX4_hasAllNeeds_3 : decode cX4_hasAllNeeds 3 = .ok (.aload_n 0, 1) := by decide +kernel
theorem dX4_hasAllNeeds_4 : decode cX4_hasAllNeeds 4 = .ok (.getfield 35, 3) := by decide +kernel
theorem dX4_hasAllNeeds_7 : decode cX4_hasAllNeeds 7 = .ok (.if_icmp .ge 52, 3) := by decide +kernel
theorem dX4_hasAllNeeds_10 : decode cX4_hasAllNeeds 10 = .ok (.aload_n 0, 1) := by decide +kernel
theorem dX4_hasAllNeeds_11 : decode cX4_hasAllNeeds 11 = .ok (.getfield 11, 3) := by decide +kernel
theorem dX4_hasAllNeeds_14 : decode cX4_hasAllNeeds 14 = .ok (.iload_n 2, 1) := by decide +kernel
theorem dX4_hasAllNeeds_15 : decode cX4_hasAllNeeds 15 = .ok (.aaload, 1) := by decide +kernel
theorem dX4_hasAllNeeds_16 : decode cX4_hasAllNeeds 16 = .ok (.astore_n 3, 1) := by decide +kernel
theorem dX4_hasAllNeeds_17 : decode cX4_hasAllNeeds 17 = .ok (.aload_n 3, 1) := by decide +kernel
theorem dX4_hasAllNeeds_18 : decode cX4_hasAllNeeds 18 = .ok (.ifnull 35, 3) := by decide +kernel
theorem dX4_hasAllNeeds_21 : decode cX4_hasAllNeeds 21 = .ok (.iload_n 1, 1) := by decide +kernel
theorem dX4_hasAllNeeds_22 : decode cX4_hasAllNeeds 22 = .ok (.iload_n 2, 1) := by decide +kernel
theorem dX4_hasAllNeeds_23 : decode cX4_hasAllNeeds 23 = .ok (.invokestatic 88, 3) := by decide +kernel
theorem dX4_hasAllNeeds_26 : decode cX4_hasAllNeeds 26 = .ok (.ifCond .eq 27, 3) := by decide +kernel
theorem dX4_hasAllNeeds_29 : decode cX4_hasAllNeeds 29 = .ok (.aload_n 3, 1) := by decide +kernel
theorem dX4_hasAllNeeds_30 : decode cX4_hasAllNeeds 30 = .ok (.getfield 72, 3) := by decide +kernel
theorem dX4_hasAllNeeds_33 : decode cX4_hasAllNeeds 33 = .ok (.iconst (-1), 1) := by decide +kernel
theorem dX4_hasAllNeeds_34 : decode cX4_hasAllNeeds 34 = .ok (.if_icmp .ne 6, 3) := by decide +kernel
theorem dX4_hasAllNeeds_37 : decode cX4_hasAllNeeds 37 = .ok (.goto 16, 3) := by decide +kernel
theorem dX4_hasAllNeeds_40 : decode cX4_hasAllNeeds 40 = .ok (.iload_n 1, 1) := by decide +kernel
theorem dX4_hasAllNeeds_41 : decode cX4_hasAllNeeds 41 = .ok (.aload_n 3, 1) := by decide +kernel
theorem dX4_hasAllNeeds_42 : decode cX4_hasAllNeeds 42 = .ok (.getfield 72, 3) := by decide +kernel
theorem dX4_hasAllNeeds_45 : decode cX4_hasAllNeeds 45 = .ok (.invokestatic 88, 3) := by decide +kernel
theorem dX4_hasAllNeeds_48 : decode cX4_hasAllNeeds 48 = .ok (.ifCond .ne 5, 3) := by decide +kernel
theorem dX4_hasAllNeeds_51 : decode cX4_hasAllNeeds 51 = .ok (.iconst 0, 1) := by decide +kernel
theorem dX4_hasAllNeeds_52 : decode cX4_hasAllNeeds 52 = .ok (.ireturn, 1) := by decide +kernel
theorem dX4_hasAllNeeds_53 : decode cX4_hasAllNeeds 53 = .ok (.iinc 2 1, 3) := by decide +kernel
theorem dX4_hasAllNeeds_56 : decode cX4_hasAllNeeds 56 = .ok (.goto (-54), 3) := by decide +kernel
theorem dX4_hasAllNeeds_59 : decode cX4_hasAllNeeds 59 = .ok (.iconst 1, 1) := by decide +kernel
theorem dX4_hasAllNeeds_60 : decode cX4_hasAllNeeds 60 = .ok (.ireturn, 1) := by decide +kernel
theorem dX4_fillVersions_0 : decode cX4_fillVersions 0 = .ok (.aload_n 0, 1) := by decide +kernel
theorem dX4_fillVersions_1 : decode cX4_fillVersions 1 = .ok (.getfield 27, 3) := by decide +kernel
theorem dX4_fillVersions_4 : decode cX4_fillVersions 4 = .ok (.getfield 79, 3) := by decide +kernel
theorem dX4_fillVersions_7 : decode cX4_fillVersions 7 = .ok (.iconst 0, 1) := by decide +kernel
theorem dX4_fillVersions_8 : decode cX4_fillVersions 8 = .ok (.aload_n 0, 1) := by decide +kernel
theorem dX4_fillVersions_9 : decode cX4_fillVersions 9 = .ok (.getfield 23, 3) := by decide +kernel
theorem dX4_fillVersions_12 : decode cX4_fillVersions 12 = .ok (.iconst 0, 1) := by decide +kernel
theorem dX4_fillVersions_13 : decode cX4_fillVersions 13 = .ok (.bipush 8, 2) := by decide +kernel
theorem dX4_fillVersions_15 : decode cX4_fillVersions 15 = .ok (.invokestatic 92, 3) := by decide +kernel
theorem dX4_fillVersions_18 : decode cX4_fillVersions 18 = .ok (.iconst 0, 1) := by decide +kernel
theorem dX4_fillVersions_19 : decode cX4_fillVersions 19 = .ok (.istore_n 2, 1) := by decide +kernel
theorem dX4_fillVersions_20 : decode cX4_fillVersions 20 = .ok (.iload_n 2, 1) := by decide +kernel
theorem dX4_fillVersions_21 : decode cX4_fillVersions 21 = .ok (.aload_n 0, 1) := by decide +kernel
theorem dX4_fillVersions_22 : decode cX4_fillVersions 22 = .ok (.getfield 35, 3) := by decide +kernel
theorem dX4_fillVersions_25 : decode cX4_fillVersions 25 = .ok (.if_icmp .ge 56, 3) := by decide +kernel
theorem dX4_fillVersions_28 : decode cX4_fillVersions 28 = .ok (.aload_n 0, 1) := by decide +kernel
theorem dX4_fillVersions_29 : decode cX4_fillVersions 29 = .ok (.getfield 11, 3) := by decide +kernel
theorem dX4_fillVersions_32 : decode cX4_fillVersions 32 = .ok (.iload_n 2, 1) := by decide +kernel
theorem dX4_fillVersions_33 : decode cX4_fillVersions 33 = .ok (.aaload, 1) := by decide +kernel
theorem dX4_fillVersions_34 : decode cX4_fillVersions 34 = .ok (.astore_n 3, 1) := by decide +kernel
theorem dX4_fillVersions_35 : decode cX4_fillVersions 35 = .ok (.aload_n 3, 1) := by decide +kernel
theorem dX4_fillVersions_36 : decode cX4_fillVersions 36 = .ok (.ifnull 39, 3) := by decide +kernel
theorem dX4_fillVersions_39 : decode cX4_fillVersions 39 = .ok (.iload_n 1, 1) := by decide +kernel
theorem dX4_fillVersions_40 : decode cX4_fillVersions 40 = .ok (.iload_n 2, 1) := by decide +kernel
theorem dX4_fillVersions_41 : decode cX4_fillVersions 41 = .ok (.invokestatic 88, 3) := by decide +kernel
theorem dX4_fillVersions_44 : decode cX4_fillVersions 44 = .ok (.ifCond .ne 6, 3) := by decide +kernel
theorem dX4_fillVersions_47 : decode cX4_fillVersions 47 = .ok (.goto 28, 3) := by decide +kernel
theorem dX4_fillVersions_50 : decode cX4_fillVersions 50 = .ok (.aload_n 0, 1) := by decide +kernel
theorem dX4_fillVersions_51 : decode cX4_fillVersions 51 = .ok (.getfield 23, 3) := by decide +kernel
theorem dX4_fillVersions_54 : decode cX4_fillVersions 54 = .ok (.aload_n 3, 1) := by decide +kernel
theorem dX4_fillVersions_55 : decode cX4_fillVersions 55 = .ok (.getfield 82, 3) := by decide +kernel
theorem dX4_fillVersions_58 : decode cX4_fillVersions 58 = .ok (.aload_n 0, 1) := by decide +kernel
theorem dX4_fillVersions_59 : decode cX4_fillVersions 59 = .ok (.getfield 23, 3) := by decide +kernel
theorem dX4_fillVersions_62 : decode cX4_fillVersions 62 = .ok (.aload_n 3, 1) := by decide +kernel
theorem dX4_fillVersions_63 : decode cX4_fillVersions 63 = .ok (.getfield 82, 3) := by decide +kernel
theorem dX4_fillVersions_66 : decode cX4_fillVersions 66 = .ok (.iaload, 1) := by decide +kernel
theorem dX4_fillVersions_67 : decode cX4_fillVersions 67 = .ok (.aload_n 3, 1) := by decide +kernel
theorem dX4_fillVersions_68 : decode cX4_fillVersions 68 = .ok (.getfield 85, 3) := by decide +kernel
theorem dX4_fillVersions_71 : decode cX4_fillVersions 71 = .ok (.invokestatic 98, 3) := by decide +kernel
theorem dX4_fillVersions_74 : decode cX4_fillVersions 74 = .ok (.iastore, 1) := by decide +kernel
theorem dX4_fillVersions_75 : decode cX4_fillVersions 75 = .ok (.iinc 2 1, 3) := by decide +kernel
theorem dX4_fillVersions_78 : decode cX4_fillVersions 78 = .ok (.goto (-58), 3) := by decide +kernel
theorem dX4_fillVersions_81 : decode cX4_fillVersions 81 = .ok (.return_, 1) := by decide +kernel
theorem dX5_init_0 : decode cX5_init 0 = .ok (.aload_n 0, 1) := by decide +kernel
theorem dX5_init_1 : decode cX5_init 1 = .ok (.invokespecial 3, 3) := by decide +kernel
theorem dX5_init_4 : decode cX5_init 4 = .ok (.aload_n 0, 1) := by decide +kernel
theorem dX5_init_5 : decode cX5_init 5 = .ok (.bipush 8, 2) := by decide +kernel
theorem dX5_init_7 : decode cX5_init 7 = .ok (.newarray .int, 2) := by decide +kernel
theorem dX5_init_9 : decode cX5_init 9 = .ok (.putfield 9, 3) := by decide +kernel
theorem dX5_init_12 : decode cX5_init 12 = .ok (.aload_n 0, 1) := by decide +kernel
theorem dX5_init_13 : decode cX5_init 13 = .ok (.bipush 8, 2) := by decide +kernel
theorem dX5_init_15 : decode cX5_init 15 = .ok (.newarray .int, 2) := by decide +kernel
theorem dX5_init_17 : decode cX5_init 17 = .ok (.putfield 15, 3) := by decide +kernel
theorem dX5_init_20 : decode cX5_init 20 = .ok (.aload_n 0, 1) := by decide +kernel
theorem dX5_init_21 : decode cX5_init 21 = .ok (.bipush 8, 2) := by decide +kernel
theorem dX5_init_23 : decode cX5_init 23 = .ok (.newarray .int, 2) := by decide +kernel
theorem dX5_init_25 : decode cX5_init 25 = .ok (.putfield 18, 3) := by decide +kernel
theorem dX5_init_28 : decode cX5_init 28 = .ok (.aload_n 0, 1) := by decide +kernel
theorem dX5_init_29 : decode cX5_init 29 = .ok (.bipush 12, 2) := by decide +kernel
theorem dX5_init_31 : decode cX5_init 31 = .ok (.anewarray 21, 3) := by decide +kernel
theorem dX5_init_34 : decode cX5_init 34 = .ok (.putfield 23, 3) := by decide +kernel
theorem dX5_init_37 : decode cX5_init 37 = .ok (.return_, 1) := by decide +kernel
theorem dX5_hasPart_0 : decode cX5_hasPart 0 = .ok (.iload_n 1, 1) := by decide +kernel
theorem dX5_hasPart_1 : decode cX5_hasPart 1 = .ok (.ifCond .lt 15, 3) := by decide +kernel
theorem dX5_hasPart_4 : decode cX5_hasPart 4 = .ok (.iload_n 1, 1) := by decide +kernel
theorem dX5_hasPart_5 : decode cX5_hasPart 5 = .ok (.aload_n 0, 1) := by decide +kernel
theorem dX5_hasPart_6 : decode cX5_hasPart 6 = .ok (.getfield 27, 3) := by decide +kernel
theorem dX5_hasPart_9 : decode cX5_hasPart 9 = .ok (.if_icmp .ge 7, 3) := by decide +kernel
theorem dX5_hasPart_12 : decode cX5_hasPart 12 = .ok (.iconst 1, 1) := by decide +kernel
theorem dX5_hasPart_13 : decode cX5_hasPart 13 = .ok (.goto 4, 3) := by decide +kernel
theorem dX5_hasPart_16 : decode cX5_hasPart 16 = .ok (.iconst 0, 1) := by decide +kernel
theorem dX5_hasPart_17 : decode cX5_hasPart 17 = .ok (.ireturn, 1) := by decide +kernel
theorem dX5_holeAt_0 : decode cX5_holeAt 0 = .ok (.iload_n 1, 1) := by decide +kernel
theorem dX5_holeAt_1 : decode cX5_holeAt 1 = .ok (.ifCond .lt 20, 3) := by decide +kernel
theorem dX5_holeAt_4 : decode cX5_holeAt 4 = .ok (.iload_n 1, 1) := by decide +kernel
theorem dX5_holeAt_5 : decode cX5_holeAt 5 = .ok (.aload_n 0, 1) := by decide +kernel
theorem dX5_holeAt_6 : decode cX5_holeAt 6 = .ok (.getfield 31, 3) := by decide +kernel
theorem dX5_holeAt_9 : decode cX5_holeAt 9 = .ok (.if_icmp .ge 12, 3) := by decide +kernel
theorem dX5_holeAt_12 : decode cX5_holeAt 12 = .ok (.aload_n 0, 1) := by decide +kernel
theorem dX5_holeAt_13 : decode cX5_holeAt 13 = .ok (.getfield 23, 3) := by decide +kernel
theorem dX5_holeAt_16 : decode cX5_holeAt 16 = .ok (.iload_n 1, 1) := by decide +kernel
theorem dX5_holeAt_17 : decode cX5_holeAt 17 = .ok (.aaload, 1) := by decide +kernel
theorem dX5_holeAt_18 : decode cX5_holeAt 18 = .ok (.goto 4, 3) := by decide +kernel
theorem dX5_holeAt_21 : decode cX5_holeAt 21 = .ok (.aconst_null, 1) := by decide +kernel
theorem dX5_holeAt_22 : decode cX5_holeAt 22 = .ok (.areturn, 1) := by decide +kernel
theorem dX5_addPart_0 : decode cX5_addPart 0 = .ok (.aload_n 0, 1) := by decide +kernel
theorem dX5_addPart_1 : decode cX5_addPart 1 = .ok (.getfield 27, 3) := by decide +kernel
theorem dX5_addPart_4 : decode cX5_addPart 4 = .ok (.bipush 8, 2) := by decide +kernel
theorem dX5_addPart_6 : decode cX5_addPart 6 = .ok (.if_icmp .lt 6, 3) := by decide +kernel
theorem dX5_addPart_9 : decode cX5_addPart 9 = .ok (.bipush (-3), 2) := by decide +kernel
theorem dX5_addPart_11 : decode cX5_addPart 11 = .ok (.ireturn, 1) := by decide +kernel
theorem dX5_addPart_12 : decode cX5_addPart 12 = .ok (.aload_n 0, 1) := by decide +kernel
theorem dX5_addPart_13 : decode cX5_addPart 13 = .ok (.getfield 9, 3) := by decide +kernel
theorem dX5_addPart_16 : decode cX5_addPart 16 = .ok (.aload_n 0, 1) := by decide +kernel
theorem dX5_addPart_17 : decode cX5_addPart 17 = .ok (.getfield 27, 3) := by decide +kernel
theorem dX5_addPart_20 : decode cX5_addPart 20 = .ok (.iload_n 1, 1) := by decide +kernel
theorem dX5_addPart_21 : decode cX5_addPart 21 = .ok (.iastore, 1) := by decide +kernel
theorem dX5_addPart_22 : decode cX5_addPart 22 = .ok (.aload_n 0, 1) := by decide +kernel
theorem dX5_addPart_23 : decode cX5_addPart 23 = .ok (.getfield 15, 3) := by decide +kernel
theorem dX5_addPart_26 : decode cX5_addPart 26 = .ok (.aload_n 0, 1) := by decide +kernel
theorem dX5_addPart_27 : decode cX5_addPart 27 = .ok (.getfield 27, 3) := by decide +kernel
theorem dX5_addPart_30 : decode cX5_addPart 30 = .ok (.iload_n 2, 1) := by decide +kernel
theorem dX5_addPart_31 : decode cX5_addPart 31 = .ok (.iastore, 1) := by decide +kernel
theorem dX5_addPart_32 : decode cX5_addPart 32 = .ok (.aload_n 0, 1) := by decide +kernel
theorem dX5_addPart_33 : decode cX5_addPart 33 = .ok (.aload_n 0, 1) := by decide +kernel
theorem dX5_addPart_34 : decode cX5_addPart 34 = .ok (.getfield 34, 3) := by decide +kernel
theorem dX5_addPart_37 : decode cX5_addPart 37 = .ok (.aload_n 0, 1) := by decide +kernel
theorem dX5_addPart_38 : decode cX5_addPart 38 = .ok (.getfield 27, 3) := by decide +kernel
theorem dX5_addPart_41 : decode cX5_addPart 41 = .ok (.iload_n 3, 1) := by decide +kernel
theorem dX5_addPart_42 : decode cX5_addPart 42 = .ok (.invokestatic 37, 3) := by decide +kernel
theorem dX5_addPart_45 : decode cX5_addPart 45 = .ok (.putfield 34, 3) := by decide +kernel
theorem dX5_addPart_48 : decode cX5_addPart 48 = .ok (.aload_n 0, 1) := by decide +kernel
theorem dX5_addPart_49 : decode cX5_addPart 49 = .ok (.dup, 1) := by decide +kernel
theorem dX5_addPart_50 : decode cX5_addPart 50 = .ok (.getfield 27, 3) := by decide +kernel
theorem dX5_addPart_53 : decode cX5_addPart 53 = .ok (.dup_x1, 1) := by decide +kernel
theorem dX5_addPart_54 : decode cX5_addPart 54 = .ok (.iconst 1, 1) := by decide +kernel
theorem dX5_addPart_55 : decode cX5_addPart 55 = .ok (.iadd, 1) := by decide +kernel
theorem dX5_addPart_56 : decode cX5_addPart 56 = .ok (.putfield 27, 3) := by decide +kernel
theorem dX5_addPart_59 : decode cX5_addPart 59 = .ok (.ireturn, 1) := by decide +kernel
theorem dX5_addHole_0 : decode cX5_addHole 0 = .ok (.aload_n 0, 1) := by decide +kernel
theorem dX5_addHole_1 : decode cX5_addHole 1 = .ok (.getfield 31, 3) := by decide +kernel
theorem dX5_addHole_4 : decode cX5_addHole 4 = .ok (.bipush 12, 2) := by decide +kernel
theorem dX5_addHole_6 : decode cX5_addHole 6 = .ok (.if_icmp .lt 6, 3) := by decide +kernel
theorem dX5_addHole_9 : decode cX5_addHole 9 = .ok (.bipush (-3), 2) := by decide +kernel
theorem dX5_addHole_11 : decode cX5_addHole 11 = .ok (.ireturn, 1) := by decide +kernel
theorem dX5_addHole_12 : decode cX5_addHole 12 = .ok (.aload_n 0, 1) := by decide +kernel
theorem dX5_addHole_13 : decode cX5_addHole 13 = .ok (.getfield 23, 3) := by decide +kernel
theorem dX5_addHole_16 : decode cX5_addHole 16 = .ok (.aload_n 0, 1) := by decide +kernel
theorem dX5_addHole_17 : decode cX5_addHole 17 = .ok (.getfield 31, 3) := by decide +kernel
theorem dX5_addHole_20 : decode cX5_addHole 20 = .ok (.aload_n 1, 1) := by decide +kernel
theorem dX5_addHole_21 : decode cX5_addHole 21 = .ok (.aastore, 1) := by decide +kernel
theorem dX5_addHole_22 : decode cX5_addHole 22 = .ok (.aload_n 0, 1) := by decide +kernel
theorem dX5_addHole_23 : decode cX5_addHole 23 = .ok (.dup, 1) := by decide +kernel
theorem dX5_addHole_24 : decode cX5_addHole 24 = .ok (.getfield 31, 3) := by decide +kernel
theorem dX5_addHole_27 : decode cX5_addHole 27 = .ok (.dup_x1, 1) := by decide +kernel
theorem dX5_addHole_28 : decode cX5_addHole 28 = .ok (.iconst 1, 1) := by decide +kernel
theorem dX5_addHole_29 : decode cX5_addHole 29 = .ok (.iadd, 1) := by decide +kernel
theorem dX5_addHole_30 : decode cX5_addHole 30 = .ok (.putfield 31, 3) := by decide +kernel
theorem dX5_addHole_33 : decode cX5_addHole 33 = .ok (.ireturn, 1) := by decide +kernel
theorem dX5_standsNow_0 : decode cX5_standsNow 0 = .ok (.aload_n 1, 1) := by decide +kernel
theorem dX5_standsNow_1 : decode cX5_standsNow 1 = .ok (.aload_n 0, 1) := by decide +kernel
theorem dX5_standsNow_2 : decode cX5_standsNow 2 = .ok (.getfield 9, 3) := by decide +kernel
theorem dX5_standsNow_5 : decode cX5_standsNow 5 = .ok (.aload_n 1, 1) := by decide +kernel
theorem dX5_standsNow_6 : decode cX5_standsNow 6 = .ok (.getfield 41, 3) := by decide +kernel
theorem dX5_standsNow_9 : decode cX5_standsNow 9 = .ok (.iaload, 1) := by decide +kernel
theorem dX5_standsNow_10 : decode cX5_standsNow 10 = .ok (.aload_n 0, 1) := by decide +kernel
theorem dX5_standsNow_11 : decode cX5_standsNow 11 = .ok (.getfield 44, 3) := by decide +kernel
theorem dX5_standsNow_14 : decode cX5_standsNow 14 = .ok (.aload_n 1, 1) := by decide +kernel
theorem dX5_standsNow_15 : decode cX5_standsNow 15 = .ok (.getfield 41, 3) := by decide +kernel
theorem dX5_standsNow_18 : decode cX5_standsNow 18 = .ok (.invokestatic 47, 3) := by decide +kernel
theorem dX5_standsNow_21 : decode cX5_standsNow 21 = .ok (.invokevirtual 51, 3) := by decide +kernel
theorem dX5_standsNow_24 : decode cX5_standsNow 24 = .ok (.ireturn, 1) := by decide +kernel
theorem dX6_init_0 : decode cX6_init 0 = .ok (.aload_n 0, 1) := by decide +kernel
theorem dX6_init_1 : decode cX6_init 1 = .ok (.invokespecial 3, 3) := by decide +kernel
theorem dX6_init_4 : decode cX6_init 4 = .ok (.aload_n 0, 1) := by decide +kernel
theorem dX6_init_5 : decode cX6_init 5 = .ok (.sipush 256, 3) := by decide +kernel
theorem dX6_init_8 : decode cX6_init 8 = .ok (.newarray .int, 2) := by decide +kernel
theorem dX6_init_10 : decode cX6_init 10 = .ok (.putfield 9, 3) := by decide +kernel
theorem dX6_init_13 : decode cX6_init 13 = .ok (.aload_n 0, 1) := by decide +kernel
theorem dX6_init_14 : decode cX6_init 14 = .ok (.sipush 256, 3) := by decide +kernel
theorem dX6_init_17 : decode cX6_init 17 = .ok (.newarray .boolean, 2) := by decide +kernel
theorem dX6_init_19 : decode cX6_init 19 = .ok (.putfield 15, 3) := by decide +kernel
theorem dX6_init_22 : decode cX6_init 22 = .ok (.aload_n 0, 1) := by decide +kernel
theorem dX6_init_23 : decode cX6_init 23 = .ok (.bipush 7, 2) := by decide +kernel
theorem dX6_init_25 : decode cX6_init 25 = .ok (.sipush 256, 3) := by decide +kernel
theorem dX6_init_28 : decode cX6_init 28 = .ok (.multianewarray 19 2, 4) := by decide +kernel
theorem dX6_init_32 : decode cX6_init 32 = .ok (.putfield 21, 3) := by decide +kernel
theorem dX6_init_35 : decode cX6_init 35 = .ok (.aload_n 0, 1) := by decide +kernel
theorem dX6_init_36 : decode cX6_init 36 = .ok (.bipush 6, 2) := by decide +kernel
theorem dX6_init_38 : decode cX6_init 38 = .ok (.newarray .int, 2) := by decide +kernel
theorem dX6_init_40 : decode cX6_init 40 = .ok (.putfield 24, 3) := by decide +kernel
theorem dX6_init_43 : decode cX6_init 43 = .ok (.aload_n 0, 1) := by decide +kernel
theorem dX6_init_44 : decode cX6_init 44 = .ok (.bipush 7, 2) := by decide +kernel
theorem dX6_init_46 : decode cX6_init 46 = .ok (.newarray .int, 2) := by decide +kernel
theorem dX6_init_48 : decode cX6_init 48 = .ok (.putfield 27, 3) := by decide +kernel
theorem dX6_init_51 : decode cX6_init 51 = .ok (.aload_n 0, 1) := by decide +kernel
theorem dX6_init_52 : decode cX6_init 52 = .ok (.bipush 8, 2) := by decide +kernel
theorem dX6_init_54 : decode cX6_init 54 = .ok (.newarray .int, 2) := by decide +kernel
theorem dX6_init_56 : decode cX6_init 56 = .ok (.putfield 30, 3) := by decide +kernel
theorem dX6_init_59 : decode cX6_init 59 = .ok (.aload_n 0, 1) := by decide +kernel
theorem dX6_init_60 : decode cX6_init 60 = .ok (.aload_n 1, 1) := by decide +kernel
theorem dX6_init_61 : decode cX6_init 61 = .ok (.putfield 33, 3) := by decide +kernel
theorem dX6_init_64 : decode cX6_init 64 = .ok (.aload_n 0, 1) := by decide +kernel
theorem dX6_init_65 : decode cX6_init 65 = .ok (.getfield 30, 3) := by decide +kernel
theorem dX6_init_68 : decode cX6_init 68 = .ok (.bipush (-4), 2) := by decide +kernel
theorem dX6_init_70 : decode cX6_init 70 = .ok (.invokestatic 37, 3) := by decide +kernel
theorem dX6_init_73 : decode cX6_init 73 = .ok (.return_, 1) := by decide +kernel
theorem dX6_weighSets_0 : decode cX6_weighSets 0 = .ok (.aload_n 0, 1) := by decide +kernel
theorem dX6_weighSets_1 : decode cX6_weighSets 1 = .ok (.iload_n 1, 1) := by decide +kernel
theorem dX6_weighSets_2 : decode cX6_weighSets 2 = .ok (.invokevirtual 43, 3) := by decide +kernel
theorem dX6_weighSets_5 : decode cX6_weighSets 5 = .ok (.iconst 0, 1) := by decide +kernel
theorem dX6_weighSets_6 : decode cX6_weighSets 6 = .ok (.istore_n 3, 1) := by decide +kernel
theorem dX6_weighSets_7 : decode cX6_weighSets 7 = .ok (.iload_n 3, 1) := by decide +kernel
theorem dX6_weighSets_8 : decode cX6_weighSets 8 = .ok (.sipush 256, 3) := by decide +kernel
theorem dX6_weighSets_11 : decode cX6_weighSets 11 = .ok (.if_icmp .ge 74, 3) := by decide +kernel
theorem dX6_weighSets_14 : decode cX6_weighSets 14 = .ok (.iload_n 3, 1) := by decide +kernel
theorem dX6_weighSets_15 : decode cX6_weighSets 15 = .ok (.aload_n 0, 1) := by decide +kernel
theorem dX6_weighSets_16 : decode cX6_weighSets 16 = .ok (.getfield 27, 3) := by decide +kernel
theorem dX6_weighSets_19 : decode cX6_weighSets 19 = .ok (.iload_n 1, 1) := by decide +kernel
theorem dX6_weighSets_20 : decode cX6_weighSets 20 = .ok (.iaload, 1) := by decide +kernel
theorem dX6_weighSets_21 : decode cX6_weighSets 21 = .ok (.iconst (-1), 1) := by decide +kernel
theorem dX6_weighSets_22 : decode cX6_weighSets 22 = .ok (.ixor, 1) := by decide +kernel
theorem dX6_weighSets_23 : decode cX6_weighSets 23 = .ok (.iand, 1) := by decide +kernel
theorem dX6_weighSets_24 : decode cX6_weighSets 24 = .ok (.ifCond .eq 6, 3) := by decide +kernel
theorem dX6_weighSets_27 : decode cX6_weighSets 27 = .ok (.goto 52, 3) := by decide +kernel
theorem dX6_weighSets_30 : decode cX6_weighSets 30 = .ok (.aload_n 0, 1) := by decide +kernel
theorem dX6_weighSets_31 : decode cX6_weighSets 31 = .ok (.getfield 15, 3) := by decide +kernel
theorem dX6_weighSets_34 : decode cX6_weighSets 34 = .ok (.iload_n 3, 1) := by decide +kernel
theorem dX6_weighSets_35 : decode cX6_weighSets 35 = .ok (.aload_n 0, 1) := by decide +kernel
theorem dX6_weighSets_36 : decode cX6_weighSets 36 = .ok (.iload_n 3, 1) := by decide +kernel
theorem dX6_weighSets_37 : decode cX6_weighSets 37 = .ok (.invokevirtual 47, 3) := by decide +kernel
theorem dX6_weighSets_40 : decode cX6_weighSets 40 = .ok (.iload_n 2, 1) := by decide +kernel
theorem dX6_weighSets_41 : decode cX6_weighSets 41 = .ok (.if_icmp .gt 7, 3) := by decide +kernel
theorem dX6_weighSets_44 : decode cX6_weighSets 44 = .ok (.iconst 1, 1) := by decide +kernel
theorem dX6_weighSets_45 : decode cX6_weighSets 45 = .ok (.goto 4, 3) := by decide +kernel
theorem dX6_weighSets_48 : decode cX6_weighSets 48 = .ok (.iconst 0, 1) := by decide +kernel
theorem dX6_weighSets_49 : decode cX6_weighSets 49 = .ok (.bastore, 1) := by decide +kernel
theorem dX6_weighSets_50 : decode cX6_weighSets 50 = .ok (.aload_n 0, 1) := by decide +kernel
theorem dX6_weighSets_51 : decode cX6_weighSets 51 = .ok (.getfield 9, 3) := by decide +kernel
theorem dX6_weighSets_54 : decode cX6_weighSets 54 = .ok (.iload_n 3, 1) := by decide +kernel
theorem dX6_weighSets_55 : decode cX6_weighSets 55 = .ok (.aload_n 0, 1) := by decide +kernel
theorem dX6_weighSets_56 : decode cX6_weighSets 56 = .ok (.getfield 33, 3) := by decide +kernel
theorem dX6_weighSets_59 : decode cX6_weighSets 59 = .ok (.iload_n 3, 1) := by decide +kernel
theorem dX6_weighSets_60 : decode cX6_weighSets 60 = .ok (.invokevirtual 51, 3) := by decide +kernel
theorem dX6_weighSets_63 : decode cX6_weighSets 63 = .ok (.ifCond .eq 14, 3) := by decide +kernel
theorem dX6_weighSets_66 : decode cX6_weighSets 66 = .ok (.aload_n 0, 1) := by decide +kernel
theorem dX6_weighSets_67 : decode cX6_weighSets 67 = .ok (.getfield 33, 3) := by decide +kernel
theorem dX6_weighSets_70 : decode cX6_weighSets 70 = .ok (.iload_n 3, 1) := by decide +kernel
theorem dX6_weighSets_71 : decode cX6_weighSets 71 = .ok (.invokevirtual 57, 3) := by decide +kernel
theorem dX6_weighSets_74 : decode cX6_weighSets 74 = .ok (.goto 4, 3) := by decide +kernel
theorem dX6_weighSets_77 : decode cX6_weighSets 77 = .ok (.iconst (-1), 1) := by decide +kernel
theorem dX6_weighSets_78 : decode cX6_weighSets 78 = .ok (.iastore, 1) := by decide +kernel
theorem dX6_weighSets_79 : decode cX6_weighSets 79 = .ok (.iinc 3 1, 3) := by decide +kernel
theorem dX6_weighSets_82 : decode cX6_weighSets 82 = .ok (.goto (-75), 3) := by decide +kernel
theorem dX6_weighSets_85 : decode cX6_weighSets 85 = .ok (.return_, 1) := by decide +kernel
theorem dX6_findSums_0 : decode cX6_findSums 0 = .ok (.aload_n 0, 1) := by decide +kernel
theorem dX6_findSums_1 : decode cX6_findSums 1 = .ok (.getfield 9, 3) := by decide +kernel
theorem dX6_findSums_4 : decode cX6_findSums 4 = .ok (.iconst 0, 1) := by decide +kernel
theorem dX6_findSums_5 : decode cX6_findSums 5 = .ok (.aload_n 0, 1) := by decide +kernel
theorem dX6_findSums_6 : decode cX6_findSums 6 = .ok (.getfield 21, 3) := by decide +kernel
theorem dX6_findSums_9 : decode cX6_findSums 9 = .ok (.iload_n 1, 1) := by decide +kernel
theorem dX6_findSums_10 : decode cX6_findSums 10 = .ok (.aaload, 1) := by decide +kernel
theorem dX6_findSums_11 : decode cX6_findSums 11 = .ok (.iconst 0, 1) := by decide +kernel
theorem dX6_findSums_12 : decode cX6_findSums 12 = .ok (.sipush 256, 3) := by decide +kernel
theorem dX6_findSums_15 : decode cX6_findSums 15 = .ok (.invokestatic 60, 3) := by decide +kernel
theorem dX6_findSums_18 : decode cX6_findSums 18 = .ok (.iload_n 1, 1) := by decide +kernel
theorem dX6_findSums_19 : decode cX6_findSums 19 = .ok (.iconst 1, 1) := by decide +kernel
theorem dX6_findSums_20 : decode cX6_findSums 20 = .ok (.isub, 1) := by decide +kernel
theorem dX6_findSums_21 : decode cX6_findSums 21 = .ok (.istore_n 2, 1) := by decide +kernel
theorem dX6_findSums_22 : decode cX6_findSums 22 = .ok (.iload_n 2, 1) := by decide +kernel
theorem dX6_findSums_23 : decode cX6_findSums 23 = .ok (.ifCond .lt 82, 3) := by decide +kernel
theorem dX6_findSums_26 : decode cX6_findSums 26 = .ok (.iconst 0, 1) := by decide +kernel
theorem dX6_findSums_27 : decode cX6_findSums 27 = .ok (.istore_n 3, 1) := by decide +kernel
theorem dX6_findSums_28 : decode cX6_findSums 28 = .ok (.iload_n 3, 1) := by decide +kernel
theorem dX6_findSums_29 : decode cX6_findSums 29 = .ok (.sipush 256, 3) := by decide +kernel
theorem dX6_findSums_32 : decode cX6_findSums 32 = .ok (.if_icmp .ge 67, 3) := by decide +kernel
theorem dX6_findSums_35 : decode cX6_findSums 35 = .ok (.iload_n 3, 1) := by decide +kernel
theorem dX6_findSums_36 : decode cX6_findSums 36 = .ok (.aload_n 0, 1) := by decide +kernel
theorem dX6_findSums_37 : decode cX6_findSums 37 = .ok (.getfield 27, 3) := by decide +kernel
theorem dX6_findSums_40 : decode cX6_findSums 40 = .ok (.iload_n 2, 1) := by decide +kernel
theorem dX6_findSums_41 : decode cX6_findSums 41 = .ok (.iaload, 1) := by decide +kernel
theorem dX6_findSums_42 : decode cX6_findSums 42 = .ok (.iconst (-1), 1) := by decide +kernel
theorem dX6_findSums_43 : decode cX6_findSums 43 = .ok (.ixor, 1) := by decide +kernel
theorem dX6_findSums_44 : decode cX6_findSums 44 = .ok (.iand, 1) := by decide +kernel
theorem dX6_findSums_45 : decode cX6_findSums 45 = .ok (.ifCond .ne 48, 3) := by decide +kernel
theorem dX6_findSums_48 : decode cX6_findSums 48 = .ok (.aload_n 0, 1) := by decide +kernel
theorem dX6_findSums_49 : decode cX6_findSums 49 = .ok (.getfield 9, 3) := by decide +kernel
theorem dX6_findSums_52 : decode cX6_findSums 52 = .ok (.iload_n 3, 1) := by decide +kernel
theorem dX6_findSums_53 : decode cX6_findSums 53 = .ok (.iaload, 1) := by decide +kernel
theorem dX6_findSums_54 : decode cX6_findSums 54 = .ok (.iconst (-1), 1) := by decide +kernel
theorem dX6_findSums_55 : decode cX6_findSums 55 = .ok (.if_icmp .ne 6, 3) := by decide +kernel
theorem dX6_findSums_58 : decode cX6_findSums 58 = .ok (.goto 35, 3) := by decide +kernel
theorem dX6_findSums_61 : decode cX6_findSums 61 = .ok (.aload_n 0, 1) := by decide +kernel
theorem dX6_findSums_62 : decode cX6_findSums 62 = .ok (.getfield 21, 3) := by decide +kernel
theorem dX6_findSums_65 : decode cX6_findSums 65 = .ok (.iload_n 2, 1) := by decide +kernel
theorem dX6_findSums_66 : decode cX6_findSums 66 = .ok (.aaload, 1) := by decide +kernel
theorem dX6_findSums_67 : decode cX6_findSums 67 = .ok (.iload_n 3, 1) := by decide +kernel
theorem dX6_findSums_68 : decode cX6_findSums 68 = .ok (.aload_n 0, 1) := by decide +kernel
theorem dX6_findSums_69 : decode cX6_findSums 69 = .ok (.getfield 9, 3) := by decide +kernel
theorem dX6_findSums_72 : decode cX6_findSums 72 = .ok (.iload_n 3, 1) := by decide +kernel
theorem dX6_findSums_73 : decode cX6_findSums 73 = .ok (.iaload, 1) := by decide +kernel
theorem dX6_findSums_74 : decode cX6_findSums 74 = .ok (.aload_n 0, 1) := by decide +kernel
theorem dX6_findSums_75 : decode cX6_findSums 75 = .ok (.getfield 21, 3) := by decide +kernel
theorem dX6_findSums_78 : decode cX6_findSums 78 = .ok (.iload_n 2, 1) := by decide +kernel
theorem dX6_findSums_79 : decode cX6_findSums 79 = .ok (.iconst 1, 1) := by decide +kernel
theorem dX6_findSums_80 : decode cX6_findSums 80 = .ok (.iadd, 1) := by decide +kernel
theorem dX6_findSums_81 : decode cX6_findSums 81 = .ok (.aaload, 1) := by decide +kernel
theorem dX6_findSums_82 : decode cX6_findSums 82 = .ok (.iload_n 3, 1) := by decide +kernel
theorem dX6_findSums_83 : decode cX6_findSums 83 = .ok (.aload_n 0, 1) := by decide +kernel
theorem dX6_findSums_84 : decode cX6_findSums 84 = .ok (.iload_n 2, 1) := by decide +kernel
theorem dX6_findSums_85 : decode cX6_findSums 85 = .ok (.iload_n 3, 1) := by decide +kernel
theorem dX6_findSums_86 : decode cX6_findSums 86 = .ok (.invokevirtual 66, 3) := by decide +kernel
theorem dX6_findSums_89 : decode cX6_findSums 89 = .ok (.ior, 1) := by decide +kernel
theorem dX6_findSums_90 : decode cX6_findSums 90 = .ok (.iaload, 1) := by decide +kernel
theorem dX6_findSums_91 : decode cX6_findSums 91 = .ok (.iadd, 1) := by decide +kernel
theorem dX6_findSums_92 : decode cX6_findSums 92 = .ok (.iastore, 1) := by decide +kernel
theorem dX6_findSums_93 : decode cX6_findSums 93 = .ok (.iinc 3 1, 3) := by decide +kernel
theorem dX6_findSums_96 : decode cX6_findSums 96 = .ok (.goto (-68), 3) := by decide +kernel
theorem dX6_findSums_99 : decode cX6_findSums 99 = .ok (.iinc 2 (-1), 3) := by decide +kernel
theorem dX6_findSums_102 : decode cX6_findSums 102 = .ok (.goto (-80), 3) := by decide +kernel
theorem dX6_findSums_105 : decode cX6_findSums 105 = .ok (.return_, 1) := by decide +kernel
theorem dX6_leastSum_0 : decode cX6_leastSum 0 = .ok (.aload_n 0, 1) := by decide +kernel
theorem dX6_leastSum_1 : decode cX6_leastSum 1 = .ok (.getfield 21, 3) := by decide +kernel
theorem dX6_leastSum_4 : decode cX6_leastSum 4 = .ok (.iconst 0, 1) := by decide +kernel
theorem dX6_leastSum_5 : decode cX6_leastSum 5 = .ok (.aaload, 1) := by decide +kernel
theorem dX6_leastSum_6 : decode cX6_leastSum 6 = .ok (.iconst 0, 1) := by decide +kernel
theorem dX6_leastSum_7 : decode cX6_leastSum 7 = .ok (.iaload, 1) := by decide +kernel
theorem dX6_leastSum_8 : decode cX6_leastSum 8 = .ok (.ireturn, 1) := by decide +kernel
theorem dX6_fixWeeks_0 : decode cX6_fixWeeks 0 = .ok (.aload_n 0, 1) := by decide +kernel
theorem dX6_fixWeeks_1 : decode cX6_fixWeeks 1 = .ok (.iconst 0, 1) := by decide +kernel
theorem dX6_fixWeeks_2 : decode cX6_fixWeeks 2 = .ok (.putfield 70, 3) := by decide +kernel
theorem dX6_fixWeeks_5 : decode cX6_fixWeeks 5 = .ok (.iconst 0, 1) := by decide +kernel
theorem dX6_fixWeeks_6 : decode cX6_fixWeeks 6 = .ok (.istore_n 2, 1) := by decide +kernel
theorem dX6_fixWeeks_7 : decode cX6_fixWeeks 7 = .ok (.iconst 0, 1) := by decide +kernel
theorem dX6_fixWeeks_8 : decode cX6_fixWeeks 8 = .ok (.istore_n 3, 1) := by decide +kernel
theorem dX6_fixWeeks_9 : decode cX6_fixWeeks 9 = .ok (.iload_n 3, 1) := by decide +kernel
theorem dX6_fixWeeks_10 : decode cX6_fixWeeks 10 = .ok (.iload_n 1, 1) := by decide +kernel
theorem dX6_fixWeeks_11 : decode cX6_fixWeeks 11 = .ok (.if_icmp .ge 55, 3) := by decide +kernel
theorem dX6_fixWeeks_14 : decode cX6_fixWeeks 14 = .ok (.aload_n 0, 1) := by decide +kernel
theorem dX6_fixWeeks_15 : decode cX6_fixWeeks 15 = .ok (.iload_n 3, 1) := by decide +kernel
theorem dX6_fixWeeks_16 : decode cX6_fixWeeks 16 = .ok (.iload_n 2, 1) := by decide +kernel
theorem dX6_fixWeeks_17 : decode cX6_fixWeeks 17 = .ok (.invokevirtual 66, 3) := by decide +kernel
theorem dX6_fixWeeks_20 : decode cX6_fixWeeks 20 = .ok (.istore 4, 2) := by decide +kernel
theorem dX6_fixWeeks_22 : decode cX6_fixWeeks 22 = .ok (.iload_n 2, 1) := by decide +kernel
theorem dX6_fixWeeks_23 : decode cX6_fixWeeks 23 = .ok (.iload 4, 2) := by decide +kernel
theorem dX6_fixWeeks_25 : decode cX6_fixWeeks 25 = .ok (.ior, 1) := by decide +kernel
theorem dX6_fixWeeks_26 : decode cX6_fixWeeks 26 = .ok (.istore_n 2, 1) := by decide +kernel
theorem dX6_fixWeeks_27 : decode cX6_fixWeeks 27 = .ok (.iconst 0, 1) := by decide +kernel
theorem dX6_fixWeeks_28 : decode cX6_fixWeeks 28 = .ok (.istore 5, 2) := by decide +kernel
theorem dX6_fixWeeks_30 : decode cX6_fixWeeks 30 = .ok (.iload 5, 2) := by decide +kernel
theorem dX6_fixWeeks_32 : decode cX6_fixWeeks 32 = .ok (.bipush 8, 2) := by decide +kernel
theorem dX6_fixWeeks_34 : decode cX6_fixWeeks 34 = .ok (.if_icmp .ge 26, 3) := by decide +kernel
theorem dX6_fixWeeks_37 : decode cX6_fixWeeks 37 = .ok (.iload 4, 2) := by decide +kernel
theorem dX6_fixWeeks_39 : decode cX6_fixWeeks 39 = .ok (.iload 5, 2) := by decide +kernel
theorem dX6_fixWeeks_41 : decode cX6_fixWeeks 41 = .ok (.invokestatic 74, 3) := by decide +kernel
theorem dX6_fixWeeks_44 : decode cX6_fixWeeks 44 = .ok (.ifCond .eq 10, 3) := by decide +kernel
theorem dX6_fixWeeks_47 : decode cX6_fixWeeks 47 = .ok (.aload_n 0, 1) := by decide +kernel
theorem dX6_fixWeeks_48 : decode cX6_fixWeeks 48 = .ok (.iload 5, 2) := by decide +kernel
theorem dX6_fixWeeks_50 : decode cX6_fixWeeks 50 = .ok (.iload_n 3, 1) := by decide +kernel
theorem dX6_fixWeeks_51 : decode cX6_fixWeeks 51 = .ok (.invokevirtual 78, 3) := by decide +kernel
theorem dX6_fixWeeks_54 : decode cX6_fixWeeks 54 = .ok (.iinc 5 1, 3) := by decide +kernel
theorem dX6_fixWeeks_57 : decode cX6_fixWeeks 57 = .ok (.goto (-27), 3) := by decide +kernel
theorem dX6_fixWeeks_60 : decode cX6_fixWeeks 60 = .ok (.iinc 3 1, 3) := by decide +kernel
theorem dX6_fixWeeks_63 : decode cX6_fixWeeks 63 = .ok (.goto (-54), 3) := by decide +kernel
theorem dX6_fixWeeks_66 : decode cX6_fixWeeks 66 = .ok (.iconst 0, 1) := by decide +kernel
theorem dX6_fixWeeks_67 : decode cX6_fixWeeks 67 = .ok (.istore_n 3, 1) := by decide +kernel
theorem dX6_fixWeeks_68 : decode cX6_fixWeeks 68 = .ok (.iload_n 3, 1) := by decide +kernel
theorem dX6_fixWeeks_69 : decode cX6_fixWeeks 69 = .ok (.bipush 8, 2) := by decide +kernel
theorem dX6_fixWeeks_71 : decode cX6_fixWeeks 71 = .ok (.if_icmp .ge 24, 3) := by decide +kernel
theorem dX6_fixWeeks_74 : decode cX6_fixWeeks 74 = .ok (.iload_n 2, 1) := by decide +kernel
theorem dX6_fixWeeks_75 : decode cX6_fixWeeks 75 = .ok (.iload_n 3, 1) := by decide +kernel
theorem dX6_fixWeeks_76 : decode cX6_fixWeeks 76 = .ok (.invokestatic 74, 3) := by decide +kernel
theorem dX6_fixWeeks_79 : decode cX6_fixWeeks 79 = .ok (.ifCond .ne 10, 3) := by decide +kernel
theorem dX6_fixWeeks_82 : decode cX6_fixWeeks 82 = .ok (.aload_n 0, 1) := by decide +kernel
theorem dX6_fixWeeks_83 : decode cX6_fixWeeks 83 = .ok (.iload_n 3, 1) := by decide +kernel
theorem dX6_fixWeeks_84 : decode cX6_fixWeeks 84 = .ok (.bipush (-4), 2) := by decide +kernel
theorem dX6_fixWeeks_86 : decode cX6_fixWeeks 86 = .ok (.invokevirtual 78, 3) := by decide +kernel
theorem dX6_fixWeeks_89 : decode cX6_fixWeeks 89 = .ok (.iinc 3 1, 3) := by decide +kernel
theorem dX6_fixWeeks_92 : decode cX6_fixWeeks 92 = .ok (.goto (-24), 3) := by decide +kernel
theorem dX6_fixWeeks_95 : decode cX6_fixWeeks 95 = .ok (.aload_n 0, 1) := by decide +kernel
theorem dX6_fixWeeks_96 : decode cX6_fixWeeks 96 = .ok (.dup, 1) := by decide +kernel
theorem dX6_fixWeeks_97 : decode cX6_fixWeeks 97 = .ok (.getfield 82, 3) := by decide +kernel
theorem dX6_fixWeeks_100 : decode cX6_fixWeeks 100 = .ok (.iconst 1, 1) := by decide +kernel
theorem dX6_fixWeeks_101 : decode cX6_fixWeeks 101 = .ok (.iadd, 1) := by decide +kernel
theorem dX6_fixWeeks_102 : decode cX6_fixWeeks 102 = .ok (.putfield 82, 3) := by decide +kernel
theorem dX6_fixWeeks_105 : decode cX6_fixWeeks 105 = .ok (.return_, 1) := by decide +kernel
theorem dX6_putInWeek_0 : decode cX6_putInWeek 0 = .ok (.aload_n 0, 1) := by decide +kernel
theorem dX6_putInWeek_1 : decode cX6_putInWeek 1 = .ok (.getfield 30, 3) := by decide +kernel
theorem dX6_putInWeek_4 : decode cX6_putInWeek 4 = .ok (.iload_n 1, 1) := by decide +kernel
theorem dX6_putInWeek_5 : decode cX6_putInWeek 5 = .ok (.iaload, 1) := by decide +kernel
theorem dX6_putInWeek_6 : decode cX6_putInWeek 6 = .ok (.iload_n 2, 1) := by decide +kernel
theorem dX6_putInWeek_7 : decode cX6_putInWeek 7 = .ok (.if_icmp .eq 16, 3) := by decide +kernel
theorem dX6_putInWeek_10 : decode cX6_putInWeek 10 = .ok (.aload_n 0, 1) := by decide +kernel
theorem dX6_putInWeek_11 : decode cX6_putInWeek 11 = .ok (.dup, 1) := by decide +kernel
theorem dX6_putInWeek_12 : decode cX6_putInWeek 12 = .ok (.getfield 70, 3) := by decide +kernel
theorem dX6_putInWeek_15 : decode cX6_putInWeek 15 = .ok (.iload_n 1, 1) := by decide +kernel
theorem dX6_putInWeek_16 : decode cX6_putInWeek 16 = .ok (.invokestatic 85, 3) := by decide +kernel
theorem dX6_putInWeek_19 : decode cX6_putInWeek 19 = .ok (.ior, 1) := by decide +kernel
theorem dX6_putInWeek_20 : decode cX6_putInWeek 20 = .ok (.putfield 70, 3) := by decide +kernel
theorem dX6_putInWeek_23 : decode cX6_putInWeek 23 = .ok (.aload_n 0, 1) := by decide +kernel
theorem dX6_putInWeek_24 : decode cX6_putInWeek 24 = .ok (.getfield 30, 3) := by decide +kernel
theorem dX6_putInWeek_27 : decode cX6_putInWeek 27 = .ok (.iload_n 1, 1) := by decide +kernel
theorem dX6_putInWeek_28 : decode cX6_putInWeek 28 = .ok (.iload_n 2, 1) := by decide +kernel
theorem dX6_putInWeek_29 : decode cX6_putInWeek 29 = .ok (.iastore, 1) := by decide +kernel
theorem dX6_putInWeek_30 : decode cX6_putInWeek 30 = .ok (.return_, 1) := by decide +kernel
theorem dX6_bestSet_0 : decode cX6_bestSet 0 = .ok (.aload_n 0, 1) := by decide +kernel
theorem dX6_bestSet_1 : decode cX6_bestSet 1 = .ok (.getfield 24, 3) := by decide +kernel
theorem dX6_bestSet_4 : decode cX6_bestSet 4 = .ok (.iload_n 1, 1) := by decide +kernel
theorem dX6_bestSet_5 : decode cX6_bestSet 5 = .ok (.iaload, 1) := by decide +kernel
theorem dX6_bestSet_6 : decode cX6_bestSet 6 = .ok (.iload_n 2, 1) := by decide +kernel
theorem dX6_bestSet_7 : decode cX6_bestSet 7 = .ok (.iconst (-1), 1) := by decide +kernel
theorem dX6_bestSet_8 : decode cX6_bestSet 8 = .ok (.ixor, 1) := by decide +kernel
theorem dX6_bestSet_9 : decode cX6_bestSet 9 = .ok (.iand, 1) := by decide +kernel
theorem dX6_bestSet_10 : decode cX6_bestSet 10 = .ok (.istore_n 3, 1) := by decide +kernel
theorem dX6_bestSet_11 : decode cX6_bestSet 11 = .ok (.aload_n 0, 1) := by decide +kernel
theorem dX6_bestSet_12 : decode cX6_bestSet 12 = .ok (.getfield 21, 3) := by decide +kernel
theorem dX6_bestSet_15 : decode cX6_bestSet 15 = .ok (.iload_n 1, 1) := by decide +kernel
theorem dX6_bestSet_16 : decode cX6_bestSet 16 = .ok (.iconst 1, 1) := by decide +kernel
theorem dX6_bestSet_17 : decode cX6_bestSet 17 = .ok (.iadd, 1) := by decide +kernel
theorem dX6_bestSet_18 : decode cX6_bestSet 18 = .ok (.aaload, 1) := by decide +kernel
theorem dX6_bestSet_19 : decode cX6_bestSet 19 = .ok (.astore 4, 2) := by decide +kernel
theorem dX6_bestSet_21 : decode cX6_bestSet 21 = .ok (.iconst 0, 1) := by decide +kernel
theorem dX6_bestSet_22 : decode cX6_bestSet 22 = .ok (.istore 5, 2) := by decide +kernel
theorem dX6_bestSet_24 : decode cX6_bestSet 24 = .ok (.iconst 0, 1) := by decide +kernel
theorem dX6_bestSet_25 : decode cX6_bestSet 25 = .ok (.istore 6, 2) := by decide +kernel
theorem dX6_bestSet_27 : decode cX6_bestSet 27 = .ok (.iconst 0, 1) := by decide +kernel
theorem dX6_bestSet_28 : decode cX6_bestSet 28 = .ok (.istore 7, 2) := by decide +kernel
theorem dX6_bestSet_30 : decode cX6_bestSet 30 = .ok (.iload 7, 2) := by decide +kernel
theorem dX6_bestSet_32 : decode cX6_bestSet 32 = .ok (.sipush 256, 3) := by decide +kernel
theorem dX6_bestSet_35 : decode cX6_bestSet 35 = .ok (.if_icmp .ge 71, 3) := by decide +kernel
theorem dX6_bestSet_38 : decode cX6_bestSet 38 = .ok (.iload_n 2, 1) := by decide +kernel
theorem dX6_bestSet_39 : decode cX6_bestSet 39 = .ok (.iload 6, 2) := by decide +kernel
theorem dX6_bestSet_41 : decode cX6_bestSet 41 = .ok (.ior, 1) := by decide +kernel
theorem dX6_bestSet_42 : decode cX6_bestSet 42 = .ok (.istore 8, 2) := by decide +kernel
theorem dX6_bestSet_44 : decode cX6_bestSet 44 = .ok (.aload_n 0, 1) := by decide +kernel
theorem dX6_bestSet_45 : decode cX6_bestSet 45 = .ok (.getfield 15, 3) := by decide +kernel
theorem dX6_bestSet_48 : decode cX6_bestSet 48 = .ok (.iload 6, 2) := by decide +kernel
theorem dX6_bestSet_50 : decode cX6_bestSet 50 = .ok (.baload, 1) := by decide +kernel
theorem dX6_bestSet_51 : decode cX6_bestSet 51 = .ok (.ifCond .eq 33, 3) := by decide +kernel
theorem dX6_bestSet_54 : decode cX6_bestSet 54 = .ok (.aload_n 0, 1) := by decide +kernel
theorem dX6_bestSet_55 : decode cX6_bestSet 55 = .ok (.getfield 9, 3) := by decide +kernel
theorem dX6_bestSet_58 : decode cX6_bestSet 58 = .ok (.iload 8, 2) := by decide +kernel
theorem dX6_bestSet_60 : decode cX6_bestSet 60 = .ok (.iaload, 1) := by decide +kernel
theorem dX6_bestSet_61 : decode cX6_bestSet 61 = .ok (.iconst (-1), 1) := by decide +kernel
theorem dX6_bestSet_62 : decode cX6_bestSet 62 = .ok (.if_icmp .eq 22, 3) := by decide +kernel
theorem dX6_bestSet_65 : decode cX6_bestSet 65 = .ok (.aload 4, 2) := by decide +kernel
theorem dX6_bestSet_67 : decode cX6_bestSet 67 = .ok (.iload 8, 2) := by decide +kernel
theorem dX6_bestSet_69 : decode cX6_bestSet 69 = .ok (.iaload, 1) := by decide +kernel
theorem dX6_bestSet_70 : decode cX6_bestSet 70 = .ok (.aload 4, 2) := by decide +kernel
theorem dX6_bestSet_72 : decode cX6_bestSet 72 = .ok (.iload_n 2, 1) := by decide +kernel
theorem dX6_bestSet_73 : decode cX6_bestSet 73 = .ok (.iload 5, 2) := by decide +kernel
theorem dX6_bestSet_75 : decode cX6_bestSet 75 = .ok (.ior, 1) := by decide +kernel
theorem dX6_bestSet_76 : decode cX6_bestSet 76 = .ok (.iaload, 1) := by decide +kernel
theorem dX6_bestSet_77 : decode cX6_bestSet 77 = .ok (.if_icmp .ge 7, 3) := by decide +kernel
theorem dX6_bestSet_80 : decode cX6_bestSet 80 = .ok (.iload 6, 2) := by decide +kernel
theorem dX6_bestSet_82 : decode cX6_bestSet 82 = .ok (.istore 5, 2) := by decide +kernel
theorem dX6_bestSet_84 : decode cX6_bestSet 84 = .ok (.iload 6, 2) := by decide +kernel
theorem dX6_bestSet_86 : decode cX6_bestSet 86 = .ok (.iload_n 3, 1) := by decide +kernel
theorem dX6_bestSet_87 : decode cX6_bestSet 87 = .ok (.isub, 1) := by decide +kernel
theorem dX6_bestSet_88 : decode cX6_bestSet 88 = .ok (.iload_n 3, 1) := by decide +kernel
theorem dX6_bestSet_89 : decode cX6_bestSet 89 = .ok (.iand, 1) := by decide +kernel
theorem dX6_bestSet_90 : decode cX6_bestSet 90 = .ok (.istore 6, 2) := by decide +kernel
theorem dX6_bestSet_92 : decode cX6_bestSet 92 = .ok (.iload 6, 2) := by decide +kernel
theorem dX6_bestSet_94 : decode cX6_bestSet 94 = .ok (.ifCond .ne 6, 3) := by decide +kernel
theorem dX6_bestSet_97 : decode cX6_bestSet 97 = .ok (.goto 9, 3) := by decide +kernel
theorem dX6_bestSet_100 : decode cX6_bestSet 100 = .ok (.iinc 7 1, 3) := by decide +kernel
theorem dX6_bestSet_103 : decode cX6_bestSet 103 = .ok (.goto (-73), 3) := by decide +kernel
theorem dX6_bestSet_106 : decode cX6_bestSet 106 = .ok (.iload 5, 2) := by decide +kernel
theorem dX6_bestSet_108 : decode cX6_bestSet 108 = .ok (.ireturn, 1) := by decide +kernel
theorem dX6_findAllowed_0 : decode cX6_findAllowed 0 = .ok (.aload_n 0, 1) := by decide +kernel
theorem dX6_findAllowed_1 : decode cX6_findAllowed 1 = .ok (.getfield 27, 3) := by decide +kernel
theorem dX6_findAllowed_4 : decode cX6_findAllowed 4 = .ok (.iconst 0, 1) := by decide +kernel
theorem dX6_findAllowed_5 : decode cX6_findAllowed 5 = .ok (.iconst 0, 1) := by decide +kernel
theorem dX6_findAllowed_6 : decode cX6_findAllowed 6 = .ok (.iastore, 1) := by decide +kernel
theorem dX6_findAllowed_7 : decode cX6_findAllowed 7 = .ok (.iconst 0, 1) := by decide +kernel
theorem dX6_findAllowed_8 : decode cX6_findAllowed 8 = .ok (.istore_n 2, 1) := by decide +kernel
theorem dX6_findAllowed_9 : decode cX6_findAllowed 9 = .ok (.iload_n 2, 1) := by decide +kernel
theorem dX6_findAllowed_10 : decode cX6_findAllowed 10 = .ok (.iload_n 1, 1) := by decide +kernel
theorem dX6_findAllowed_11 : decode cX6_findAllowed 11 = .ok (.if_icmp .ge 101, 3) := by decide +kernel
theorem dX6_findAllowed_14 : decode cX6_findAllowed 14 = .ok (.aload_n 0, 1) := by decide +kernel
theorem dX6_findAllowed_15 : decode cX6_findAllowed 15 = .ok (.getfield 24, 3) := by decide +kernel
theorem dX6_findAllowed_18 : decode cX6_findAllowed 18 = .ok (.iload_n 2, 1) := by decide +kernel
theorem dX6_findAllowed_19 : decode cX6_findAllowed 19 = .ok (.iconst 0, 1) := by decide +kernel
theorem dX6_findAllowed_20 : decode cX6_findAllowed 20 = .ok (.iastore, 1) := by decide +kernel
theorem dX6_findAllowed_21 : decode cX6_findAllowed 21 = .ok (.iconst 0, 1) := by decide +kernel
theorem dX6_findAllowed_22 : decode cX6_findAllowed 22 = .ok (.istore_n 3, 1) := by decide +kernel
theorem dX6_findAllowed_23 : decode cX6_findAllowed 23 = .ok (.iload_n 3, 1) := by decide +kernel
theorem dX6_findAllowed_24 : decode cX6_findAllowed 24 = .ok (.aload_n 0, 1) := by decide +kernel
theorem dX6_findAllowed_25 : decode cX6_findAllowed 25 = .ok (.getfield 33, 3) := by decide +kernel
theorem dX6_findAllowed_28 : decode cX6_findAllowed 28 = .ok (.getfield 88, 3) := by decide +kernel
theorem dX6_findAllowed_31 : decode cX6_findAllowed 31 = .ok (.if_icmp .ge 54, 3) := by decide +kernel
theorem dX6_findAllowed_34 : decode cX6_findAllowed 34 = .ok (.aload_n 0, 1) := by decide +kernel
theorem dX6_findAllowed_35 : decode cX6_findAllowed 35 = .ok (.getfield 33, 3) := by decide +kernel
theorem dX6_findAllowed_38 : decode cX6_findAllowed 38 = .ok (.iload_n 3, 1) := by decide +kernel
theorem dX6_findAllowed_39 : decode cX6_findAllowed 39 = .ok (.invokevirtual 91, 3) := by decide +kernel
theorem dX6_findAllowed_42 : decode cX6_findAllowed 42 = .ok (.astore 4, 2) := by decide +kernel
theorem dX6_findAllowed_44 : decode cX6_findAllowed 44 = .ok (.aload 4, 2) := by decide +kernel
theorem dX6_findAllowed_46 : decode cX6_findAllowed 46 = .ok (.ifnull 33, 3) := by decide +kernel
theorem dX6_findAllowed_49 : decode cX6_findAllowed 49 = .ok (.iload_n 2, 1) := by decide +kernel
theorem dX6_findAllowed_50 : decode cX6_findAllowed 50 = .ok (.aload 4, 2) := by decide +kernel
theorem dX6_findAllowed_52 : decode cX6_findAllowed 52 = .ok (.getfield 95, 3) := by decide +kernel
theorem dX6_findAllowed_55 : decode cX6_findAllowed 55 = .ok (.aload 4, 2) := by decide +kernel
theorem dX6_findAllowed_57 : decode cX6_findAllowed 57 = .ok (.getfield 100, 3) := by decide +kernel
theorem dX6_findAllowed_60 : decode cX6_findAllowed 60 = .ok (.invokestatic 103, 3) := by decide +kernel
theorem dX6_findAllowed_63 : decode cX6_findAllowed 63 = .ok (.ifCond .eq 16, 3) := by decide +kernel
theorem dX6_findAllowed_66 : decode cX6_findAllowed 66 = .ok (.aload_n 0, 1) := by decide +kernel
theorem dX6_findAllowed_67 : decode cX6_findAllowed 67 = .ok (.getfield 24, 3) := by decide +kernel
theorem dX6_findAllowed_70 : decode cX6_findAllowed 70 = .ok (.iload_n 2, 1) := by decide +kernel
theorem dX6_findAllowed_71 : decode cX6_findAllowed 71 = .ok (.dup2, 1) := by decide +kernel
theorem dX6_findAllowed_72 : decode cX6_findAllowed 72 = .ok (.iaload, 1) := by decide +kernel
theorem dX6_findAllowed_73 : decode cX6_findAllowed 73 = .ok (.iload_n 3, 1) := by decide +kernel
theorem dX6_findAllowed_74 : decode cX6_findAllowed 74 = .ok (.invokestatic 85, 3) := by decide +kernel
theorem dX6_findAllowed_77 : decode cX6_findAllowed 77 = .ok (.ior, 1) := by decide +kernel
theorem dX6_findAllowed_78 : decode cX6_findAllowed 78 = .ok (.iastore, 1) := by decide +kernel
theorem dX6_findAllowed_79 : decode cX6_findAllowed 79 = .ok (.iinc 3 1, 3) := by decide +kernel
theorem dX6_findAllowed_82 : decode cX6_findAllowed 82 = .ok (.goto (-59), 3) := by decide +kernel
theorem dX6_findAllowed_85 : decode cX6_findAllowed 85 = .ok (.aload_n 0, 1) := by decide +kernel
theorem dX6_findAllowed_86 : decode cX6_findAllowed 86 = .ok (.getfield 27, 3) := by decide +kernel
theorem dX6_findAllowed_89 : decode cX6_findAllowed 89 = .ok (.iload_n 2, 1) := by decide +kernel
theorem dX6_findAllowed_90 : decode cX6_findAllowed 90 = .ok (.iconst 1, 1) := by decide +kernel
theorem dX6_findAllowed_91 : decode cX6_findAllowed 91 = .ok (.iadd, 1) := by decide +kernel
theorem dX6_findAllowed_92 : decode cX6_findAllowed 92 = .ok (.aload_n 0, 1) := by decide +kernel
theorem dX6_findAllowed_93 : decode cX6_findAllowed 93 = .ok (.getfield 27, 3) := by decide +kernel
theorem dX6_findAllowed_96 : decode cX6_findAllowed 96 = .ok (.iload_n 2, 1) := by decide +kernel
theorem dX6_findAllowed_97 : decode cX6_findAllowed 97 = .ok (.iaload, 1) := by decide +kernel
theorem dX6_findAllowed_98 : decode cX6_findAllowed 98 = .ok (.aload_n 0, 1) := by decide +kernel
theorem dX6_findAllowed_99 : decode cX6_findAllowed 99 = .ok (.getfield 24, 3) := by decide +kernel
theorem dX6_findAllowed_102 : decode cX6_findAllowed 102 = .ok (.iload_n 2, 1) := by decide +kernel
theorem dX6_findAllowed_103 : decode cX6_findAllowed 103 = .ok (.iaload, 1) := by decide +kernel
theorem dX6_findAllowed_104 : decode cX6_findAllowed 104 = .ok (.ior, 1) := by decide +kernel
theorem dX6_findAllowed_105 : decode cX6_findAllowed 105 = .ok (.iastore, 1) := by decide +kernel
theorem dX6_findAllowed_106 : decode cX6_findAllowed 106 = .ok (.iinc 2 1, 3) := by decide +kernel
theorem dX6_findAllowed_109 : decode cX6_findAllowed 109 = .ok (.goto (-100), 3) := by decide +kernel
theorem dX6_findAllowed_112 : decode cX6_findAllowed 112 = .ok (.return_, 1) := by decide +kernel
theorem dX6_handsOf_0 : decode cX6_handsOf 0 = .ok (.iconst 0, 1) := by decide +kernel
theorem dX6_handsOf_1 : decode cX6_handsOf 1 = .ok (.istore_n 2, 1) := by decide +kernel
theorem dX6_handsOf_2 : decode cX6_handsOf 2 = .ok (.iconst 0, 1) := by decide +kernel
theorem dX6_handsOf_3 : decode cX6_handsOf 3 = .ok (.istore_n 3, 1) := by decide +kernel
theorem dX6_handsOf_4 : decode cX6_handsOf 4 = .ok (.iload_n 3, 1) := by decide +kernel
theorem dX6_handsOf_5 : decode cX6_handsOf 5 = .ok (.aload_n 0, 1) := by decide +kernel
theorem dX6_handsOf_6 : decode cX6_handsOf 6 = .ok (.getfield 33, 3) := by decide +kernel
theorem dX6_handsOf_9 : decode cX6_handsOf 9 = .ok (.getfield 88, 3) := by decide +kernel
theorem dX6_handsOf_12 : decode cX6_handsOf 12 = .ok (.if_icmp .ge 40, 3) := by decide +kernel
theorem dX6_handsOf_15 : decode cX6_handsOf 15 = .ok (.aload_n 0, 1) := by decide +kernel
theorem dX6_handsOf_16 : decode cX6_handsOf 16 = .ok (.getfield 33, 3) := by decide +kernel
theorem dX6_handsOf_19 : decode cX6_handsOf 19 = .ok (.iload_n 3, 1) := by decide +kernel
theorem dX6_handsOf_20 : decode cX6_handsOf 20 = .ok (.invokevirtual 91, 3) := by decide +kernel
theorem dX6_handsOf_23 : decode cX6_handsOf 23 = .ok (.astore 4, 2) := by decide +kernel
theorem dX6_handsOf_25 : decode cX6_handsOf 25 = .ok (.aload 4, 2) := by decide +kernel
theorem dX6_handsOf_27 : decode cX6_handsOf 27 = .ok (.ifnull 19, 3) := by decide +kernel
theorem dX6_handsOf_30 : decode cX6_handsOf 30 = .ok (.iload_n 1, 1) := by decide +kernel
theorem dX6_handsOf_31 : decode cX6_handsOf 31 = .ok (.iload_n 3, 1) := by decide +kernel
theorem dX6_handsOf_32 : decode cX6_handsOf 32 = .ok (.invokestatic 74, 3) := by decide +kernel
theorem dX6_handsOf_35 : decode cX6_handsOf 35 = .ok (.ifCond .eq 11, 3) := by decide +kernel
theorem dX6_handsOf_38 : decode cX6_handsOf 38 = .ok (.iload_n 2, 1) := by decide +kernel
theorem dX6_handsOf_39 : decode cX6_handsOf 39 = .ok (.aload 4, 2) := by decide +kernel
theorem dX6_handsOf_41 : decode cX6_handsOf 41 = .ok (.getfield 107, 3) := by decide +kernel
theorem dX6_handsOf_44 : decode cX6_handsOf 44 = .ok (.iadd, 1) := by decide +kernel
theorem dX6_handsOf_45 : decode cX6_handsOf 45 = .ok (.istore_n 2, 1) := by decide +kernel
theorem dX6_handsOf_46 : decode cX6_handsOf 46 = .ok (.iinc 3 1, 3) := by decide +kernel
theorem dX6_handsOf_49 : decode cX6_handsOf 49 = .ok (.goto (-45), 3) := by decide +kernel
theorem dX6_handsOf_52 : decode cX6_handsOf 52 = .ok (.iload_n 2, 1) := by decide +kernel
theorem dX6_handsOf_53 : decode cX6_handsOf 53 = .ok (.ireturn, 1) := by decide +kernel
theorem dX7_init_0 : decode cX7_init 0 = .ok (.aload_n 0, 1) := by decide +kernel
theorem dX7_init_1 : decode cX7_init 1 = .ok (.invokespecial 1, 3) := by decide +kernel
theorem dX7_init_4 : decode cX7_init 4 = .ok (.aload_n 0, 1) := by decide +kernel
theorem dX7_init_5 : decode cX7_init 5 = .ok (.iload_n 1, 1) := by decide +kernel
theorem dX7_init_6 : decode cX7_init 6 = .ok (.putfield 7, 3) := by decide +kernel
theorem dX7_init_9 : decode cX7_init 9 = .ok (.aload_n 0, 1) := by decide +kernel
theorem dX7_init_10 : decode cX7_init 10 = .ok (.iload_n 2, 1) := by decide +kernel
theorem dX7_init_11 : decode cX7_init 11 = .ok (.putfield 13, 3) := by decide +kernel
theorem dX7_init_14 : decode cX7_init 14 = .ok (.aload_n 0, 1) := by decide +kernel
theorem dX7_init_15 : decode cX7_init 15 = .ok (.iload_n 3, 1) := by decide +kernel
theorem dX7_init_16 : decode cX7_init 16 = .ok (.putfield 16, 3) := by decide +kernel
theorem dX7_init_19 : decode cX7_init 19 = .ok (.aload_n 0, 1) := by decide +kernel
theorem dX7_init_20 : decode cX7_init 20 = .ok (.iload 4, 2) := by decide +kernel
theorem dX7_init_22 : decode cX7_init 22 = .ok (.putfield 19, 3) := by decide +kernel
theorem dX7_init_25 : decode cX7_init 25 = .ok (.return_, 1) := by decide +kernel
theorem dX7_holds_0 : decode cX7_holds 0 = .ok (.aload_n 1, 1) := by decide +kernel
theorem dX7_holds_1 : decode cX7_holds 1 = .ok (.aload_n 0, 1) := by decide +kernel
theorem dX7_holds_2 : decode cX7_holds 2 = .ok (.getfield 7, 3) := by decide +kernel
theorem dX7_holds_5 : decode cX7_holds 5 = .ok (.iaload, 1) := by decide +kernel
theorem dX7_holds_6 : decode cX7_holds 6 = .ok (.aload_n 0, 1) := by decide +kernel
theorem dX7_holds_7 : decode cX7_holds 7 = .ok (.getfield 13, 3) := by decide +kernel
theorem dX7_holds_10 : decode cX7_holds 10 = .ok (.if_icmp .ne 20, 3) := by decide +kernel
theorem dX7_holds_13 : decode cX7_holds 13 = .ok (.aload_n 1, 1) := by decide +kernel
theorem dX7_holds_14 : decode cX7_holds 14 = .ok (.aload_n 0, 1) := by decide +kernel
theorem dX7_holds_15 : decode cX7_holds 15 = .ok (.getfield 16, 3) := by decide +kernel
theorem dX7_holds_18 : decode cX7_holds 18 = .ok (.iaload, 1) := by decide +kernel
theorem dX7_holds_19 : decode cX7_holds 19 = .ok (.aload_n 0, 1) := by decide +kernel
theorem dX7_holds_20 : decode cX7_holds 20 = .ok (.getfield 19, 3) := by decide +kernel
theorem dX7_holds_23 : decode cX7_holds 23 = .ok (.if_icmp .ne 7, 3) := by decide +kernel
theorem dX7_holds_26 : decode cX7_holds 26 = .ok (.iconst 1, 1) := by decide +kernel
theorem dX7_holds_27 : decode cX7_holds 27 = .ok (.goto 4, 3) := by decide +kernel
theorem dX7_holds_30 : decode cX7_holds 30 = .ok (.iconst 0, 1) := by decide +kernel
theorem dX7_holds_31 : decode cX7_holds 31 = .ok (.ireturn, 1) := by decide +kernel
theorem dX8_init_0 : decode cX8_init 0 = .ok (.aload_n 0, 1) := by decide +kernel
theorem dX8_init_1 : decode cX8_init 1 = .ok (.iload_n 1, 1) := by decide +kernel
theorem dX8_init_2 : decode cX8_init 2 = .ok (.iload_n 2, 1) := by decide +kernel
theorem dX8_init_3 : decode cX8_init 3 = .ok (.iload_n 3, 1) := by decide +kernel
theorem dX8_init_4 : decode cX8_init 4 = .ok (.invokespecial 1, 3) := by decide +kernel
theorem dX8_init_7 : decode cX8_init 7 = .ok (.return_, 1) := by decide +kernel
theorem dX8_kind_0 : decode cX8_kind 0 = .ok (.iconst 2, 1) := by decide +kernel
theorem dX8_kind_1 : decode cX8_kind 1 = .ok (.ireturn, 1) := by decide +kernel
theorem dX8_stands_0 : decode cX8_stands 0 = .ok (.iload_n 2, 1) := by decide +kernel
theorem dX8_stands_1 : decode cX8_stands 1 = .ok (.ifCond .ne 15, 3) := by decide +kernel
theorem dX8_stands_4 : decode cX8_stands 4 = .ok (.aload_n 0, 1) := by decide +kernel
theorem dX8_stands_5 : decode cX8_stands 5 = .ok (.iload_n 1, 1) := by decide +kernel
theorem dX8_stands_6 : decode cX8_stands 6 = .ok (.invokevirtual 7, 3) := by decide +kernel
theorem dX8_stands_9 : decode cX8_stands 9 = .ok (.ifCond .eq 7, 3) := by decide +kernel
theorem dX8_stands_12 : decode cX8_stands 12 = .ok (.iconst 1, 1) := by decide +kernel
theorem dX8_stands_13 : decode cX8_stands 13 = .ok (.goto 4, 3) := by decide +kernel
theorem dX8_stands_16 : decode cX8_stands 16 = .ok (.iconst 0, 1) := by decide +kernel
theorem dX8_stands_17 : decode cX8_stands 17 = .ok (.ireturn, 1) := by decide +kernel
theorem dX9_init_0 : decode cX9_init 0 = .ok (.aload_n 0, 1) := by decide +kernel
theorem dX9_init_1 : decode cX9_init 1 = .ok (.invokespecial 3, 3) := by decide +kernel
theorem dX9_init_4 : decode cX9_init 4 = .ok (.aload_n 0, 1) := by decide +kernel
theorem dX9_init_5 : decode cX9_init 5 = .ok (.bipush 8, 2) := by decide +kernel
theorem dX9_init_7 : decode cX9_init 7 = .ok (.newarray .int, 2) := by decide +kernel
theorem dX9_init_9 : decode cX9_init 9 = .ok (.putfield 9, 3) := by decide +kernel
theorem dX9_init_12 : decode cX9_init 12 = .ok (.aload_n 0, 1) := by decide +kernel
theorem dX9_init_13 : decode cX9_init 13 = .ok (.bipush 8, 2) := by decide +kernel
theorem dX9_init_15 : decode cX9_init 15 = .ok (.newarray .int, 2) := by decide +kernel
theorem dX9_init_17 : decode cX9_init 17 = .ok (.putfield 15, 3) := by decide +kernel
theorem dX9_init_20 : decode cX9_init 20 = .ok (.aload_n 0, 1) := by decide +kernel
theorem dX9_init_21 : decode cX9_init 21 = .ok (.bipush 8, 2) := by decide +kernel
theorem dX9_init_23 : decode cX9_init 23 = .ok (.newarray .int, 2) := by decide +kernel
theorem dX9_init_25 : decode cX9_init 25 = .ok (.putfield 18, 3) := by decide +kernel
theorem dX9_init_28 : decode cX9_init 28 = .ok (.aload_n 0, 1) := by decide +kernel
theorem dX9_init_29 : decode cX9_init 29 = .ok (.aload_n 1, 1) := by decide +kernel
theorem dX9_init_30 : decode cX9_init 30 = .ok (.putfield 21, 3) := by decide +kernel
theorem dX9_init_33 : decode cX9_init 33 = .ok (.return_, 1) := by decide +kernel
theorem dX9_run_0 : decode cX9_run 0 = .ok (.aload_n 0, 1) := by decide +kernel
theorem dX9_run_1 : decode cX9_run 1 = .ok (.aload_n 1, 1) := by decide +kernel
theorem dX9_run_2 : decode cX9_run 2 = .ok (.iload_n 2, 1) := by decide +kernel
theorem dX9_run_3 : decode cX9_run 3 = .ok (.invokevirtual 25, 3) := by decide +kernel
theorem dX9_run_6 : decode cX9_run 6 = .ok (.aload_n 0, 1) := by decide +kernel
theorem dX9_run_7 : decode cX9_run 7 = .ok (.iconst 0, 1) := by decide +kernel
theorem dX9_run_8 : decode cX9_run 8 = .ok (.putfield 29, 3) := by decide +kernel
theorem dX9_run_11 : decode cX9_run 11 = .ok (.iconst 1, 1) := by decide +kernel
theorem dX9_run_12 : decode cX9_run 12 = .ok (.istore_n 3, 1) := by decide +kernel
theorem dX9_run_13 : decode cX9_run 13 = .ok (.iload_n 3, 1) := by decide +kernel
theorem dX9_run_14 : decode cX9_run 14 = .ok (.bipush 8, 2) := by decide +kernel
theorem dX9_run_16 : decode cX9_run 16 = .ok (.if_icmp .gt 35, 3) := by decide +kernel
theorem dX9_run_19 : decode cX9_run 19 = .ok (.aload_n 0, 1) := by decide +kernel
theorem dX9_run_20 : decode cX9_run 20 = .ok (.iload_n 3, 1) := by decide +kernel
theorem dX9_run_21 : decode cX9_run 21 = .ok (.invokevirtual 33, 3) := by decide +kernel
theorem dX9_run_24 : decode cX9_run 24 = .ok (.istore 4, 2) := by decide +kernel
theorem dX9_run_26 : decode cX9_run 26 = .ok (.iload 4, 2) := by decide +kernel
theorem dX9_run_28 : decode cX9_run 28 = .ok (.ifCond .ne 6, 3) := by decide +kernel
theorem dX9_run_31 : decode cX9_run 31 = .ok (.goto 20, 3) := by decide +kernel
theorem dX9_run_34 : decode cX9_run 34 = .ok (.aload_n 0, 1) := by decide +kernel
theorem dX9_run_35 : decode cX9_run 35 = .ok (.dup, 1) := by decide +kernel
theorem dX9_run_36 : decode cX9_run 36 = .ok (.getfield 29, 3) := by decide +kernel
theorem dX9_run_39 : decode cX9_run 39 = .ok (.iload 4, 2) := by decide +kernel
theorem dX9_run_41 : decode cX9_run 41 = .ok (.ior, 1) := by decide +kernel
theorem dX9_run_42 : decode cX9_run 42 = .ok (.putfield 29, 3) := by decide +kernel
theorem dX9_run_45 : decode cX9_run 45 = .ok (.iinc 3 1, 3) := by decide +kernel
theorem dX9_run_48 : decode cX9_run 48 = .ok (.goto (-35), 3) := by decide +kernel
theorem dX9_run_51 : decode cX9_run 51 = .ok (.aload_n 0, 1) := by decide +kernel
theorem dX9_run_52 : decode cX9_run 52 = .ok (.invokevirtual 37, 3) := by decide +kernel
theorem dX9_run_55 : decode cX9_run 55 = .ok (.ireturn, 1) := by decide +kernel
theorem dX9_sumOfWorths_0 : decode cX9_sumOfWorths 0 = .ok (.iconst 0, 1) := by decide +kernel
theorem dX9_sumOfWorths_1 : decode cX9_sumOfWorths 1 = .ok (.istore_n 1, 1) := by decide +kernel
theorem dX9_sumOfWorths_2 : decode cX9_sumOfWorths 2 = .ok (.iconst 0, 1) := by decide +kernel
theorem dX9_sumOfWorths_3 : decode cX9_sumOfWorths 3 = .ok (.istore_n 2, 1) := by decide +kernel
theorem dX9_sumOfWorths_4 : decode cX9_sumOfWorths 4 = .ok (.iload_n 2, 1) := by decide +kernel
theorem dX9_sumOfWorths_5 : decode cX9_sumOfWorths 5 = .ok (.aload_n 0, 1) := by decide +kernel
theorem dX9_sumOfWorths_6 : decode cX9_sumOfWorths 6 = .ok (.getfield 21, 3) := by decide +kernel
theorem dX9_sumOfWorths_9 : decode cX9_sumOfWorths 9 = .ok (.getfield 41, 3) := by decide +kernel
theorem dX9_sumOfWorths_12 : decode cX9_sumOfWorths 12 = .ok (.if_icmp .ge 57, 3) := by decide +kernel
theorem dX9_sumOfWorths_15 : decode cX9_sumOfWorths 15 = .ok (.aload_n 0, 1) := by decide +kernel
theorem dX9_sumOfWorths_16 : decode cX9_sumOfWorths 16 = .ok (.getfield 29, 3) := by decide +kernel
theorem dX9_sumOfWorths_19 : decode cX9_sumOfWorths 19 = .ok (.iload_n 2, 1) := by decide +kernel
theorem dX9_sumOfWorths_20 : decode cX9_sumOfWorths 20 = .ok (.invokestatic 46, 3) := by decide +kernel
theorem dX9_sumOfWorths_23 : decode cX9_sumOfWorths 23 = .ok (.ifCond .eq 40, 3) := by decide +kernel
theorem dX9_sumOfWorths_26 : decode cX9_sumOfWorths 26 = .ok (.iload_n 1, 1) := by decide +kernel
theorem dX9_sumOfWorths_27 : decode cX9_sumOfWorths 27 = .ok (.aload_n 0, 1) := by decide +kernel
theorem dX9_sumOfWorths_28 : decode cX9_sumOfWorths 28 = .ok (.getfield 50, 3) := by decide +kernel
theorem dX9_sumOfWorths_31 : decode cX9_sumOfWorths 31 = .ok (.iload_n 2, 1) := by decide +kernel
theorem dX9_sumOfWorths_32 : decode cX9_sumOfWorths 32 = .ok (.invokestatic 46, 3) := by decide +kernel
theorem dX9_sumOfWorths_35 : decode cX9_sumOfWorths 35 = .ok (.ifCond .eq 17, 3) := by decide +kernel
theorem dX9_sumOfWorths_38 : decode cX9_sumOfWorths 38 = .ok (.iconst 2, 1) := by decide +kernel
theorem dX9_sumOfWorths_39 : decode cX9_sumOfWorths 39 = .ok (.aload_n 0, 1) := by decide +kernel
theorem dX9_sumOfWorths_40 : decode cX9_sumOfWorths 40 = .ok (.getfield 21, 3) := by decide +kernel
theorem dX9_sumOfWorths_43 : decode cX9_sumOfWorths 43 = .ok (.getfield 53, 3) := by decide +kernel
theorem dX9_sumOfWorths_46 : decode cX9_sumOfWorths 46 = .ok (.iload_n 2, 1) := by decide +kernel
theorem dX9_sumOfWorths_47 : decode cX9_sumOfWorths 47 = .ok (.iaload, 1) := by decide +kernel
theorem dX9_sumOfWorths_48 : decode cX9_sumOfWorths 48 = .ok (.imul, 1) := by decide +kernel
theorem dX9_sumOfWorths_49 : decode cX9_sumOfWorths 49 = .ok (.goto 12, 3) := by decide +kernel
theorem dX9_sumOfWorths_52 : decode cX9_sumOfWorths 52 = .ok (.aload_n 0, 1) := by decide +kernel
theorem dX9_sumOfWorths_53 : decode cX9_sumOfWorths 53 = .ok (.getfield 21, 3) := by decide +kernel
theorem dX9_sumOfWorths_56 : decode cX9_sumOfWorths 56 = .ok (.getfield 53, 3) := by decide +kernel
theorem dX9_sumOfWorths_59 : decode cX9_sumOfWorths 59 = .ok (.iload_n 2, 1) := by decide +kernel
theorem dX9_sumOfWorths_60 : decode cX9_sumOfWorths 60 = .ok (.iaload, 1) := by decide +kernel
theorem dX9_sumOfWorths_61 : decode cX9_sumOfWorths 61 = .ok (.iadd, 1) := by decide +kernel
theorem dX9_sumOfWorths_62 : decode cX9_sumOfWorths 62 = .ok (.istore_n 1, 1) := by decide +kernel
theorem dX9_sumOfWorths_63 : decode cX9_sumOfWorths 63 = .ok (.iinc 2 1, 3) := by decide +kernel
theorem dX9_sumOfWorths_66 : decode cX9_sumOfWorths 66 = .ok (.goto (-62), 3) := by decide +kernel
theorem dX9_sumOfWorths_69 : decode cX9_sumOfWorths 69 = .ok (.iload_n 1, 1) := by decide +kernel
theorem dX9_sumOfWorths_70 : decode cX9_sumOfWorths 70 = .ok (.ireturn, 1) := by decide +kernel
theorem dX9_findStanding_0 : decode cX9_findStanding 0 = .ok (.aload_n 0, 1) := by decide +kernel
theorem dX9_findStanding_1 : decode cX9_findStanding 1 = .ok (.iconst 0, 1) := by decide +kernel
theorem dX9_findStanding_2 : decode cX9_findStanding 2 = .ok (.putfield 56, 3) := by decide +kernel
theorem dX9_findStanding_5 : decode cX9_findStanding 5 = .ok (.aload_n 0, 1) := by decide +kernel
theorem dX9_findStanding_6 : decode cX9_findStanding 6 = .ok (.iconst 0, 1) := by decide +kernel
theorem dX9_findStanding_7 : decode cX9_findStanding 7 = .ok (.putfield 50, 3) := by decide +kernel
theorem dX9_findStanding_10 : decode cX9_findStanding 10 = .ok (.iconst 0, 1) := by decide +kernel
theorem dX9_findStanding_11 : decode cX9_findStanding 11 = .ok (.istore_n 3, 1) := by decide +kernel
theorem dX9_findStanding_12 : decode cX9_findStanding 12 = .ok (.iload_n 3, 1) := by decide +kernel
theorem dX9_findStanding_13 : decode cX9_findStanding 13 = .ok (.aload_n 0, 1) := by decide +kernel
theorem dX9_findStanding_14 : decode cX9_findStanding 14 = .ok (.getfield 21, 3) := by decide +kernel
theorem dX9_findStanding_17 : decode cX9_findStanding 17 = .ok (.getfield 59, 3) := by decide +kernel
theorem dX9_findStanding_20 : decode cX9_findStanding 20 = .ok (.if_icmp .ge 89, 3) := by decide +kernel
theorem dX9_findStanding_23 : decode cX9_findStanding 23 = .ok (.aload_n 0, 1) := by decide +kernel
theorem dX9_findStanding_24 : decode cX9_findStanding 24 = .ok (.getfield 21, 3) := by decide +kernel
theorem dX9_findStanding_27 : decode cX9_findStanding 27 = .ok (.iload_n 3, 1) := by decide +kernel
theorem dX9_findStanding_28 : decode cX9_findStanding 28 = .ok (.invokevirtual 62, 3) := by decide +kernel
theorem dX9_findStanding_31 : decode cX9_findStanding 31 = .ok (.astore 4, 2) := by decide +kernel
theorem dX9_findStanding_33 : decode cX9_findStanding 33 = .ok (.aload 4, 2) := by decide +kernel
theorem dX9_findStanding_35 : decode cX9_findStanding 35 = .ok (.ifnull 68, 3) := by decide +kernel
theorem dX9_findStanding_38 : decode cX9_findStanding 38 = .ok (.aload 4, 2) := by decide +kernel
theorem dX9_findStanding_40 : decode cX9_findStanding 40 = .ok (.aload_n 1, 1) := by decide +kernel
theorem dX9_findStanding_41 : decode cX9_findStanding 41 = .ok (.aload 4, 2) := by decide +kernel
theorem dX9_findStanding_43 : decode cX9_findStanding 43 = .ok (.getfield 66, 3) := by decide +kernel
theorem dX9_findStanding_46 : decode cX9_findStanding 46 = .ok (.iaload, 1) := by decide +kernel
theorem dX9_findStanding_47 : decode cX9_findStanding 47 = .ok (.iload_n 2, 1) := by decide +kernel
theorem dX9_findStanding_48 : decode cX9_findStanding 48 = .ok (.aload 4, 2) := by decide +kernel
theorem dX9_findStanding_50 : decode cX9_findStanding 50 = .ok (.getfield 66, 3) := by decide +kernel
theorem dX9_findStanding_53 : decode cX9_findStanding 53 = .ok (.invokestatic 46, 3) := by decide +kernel
theorem dX9_findStanding_56 : decode cX9_findStanding 56 = .ok (.invokevirtual 71, 3) := by decide +kernel
theorem dX9_findStanding_59 : decode cX9_findStanding 59 = .ok (.ifCond .ne 6, 3) := by decide +kernel
theorem dX9_findStanding_62 : decode cX9_findStanding 62 = .ok (.goto 41, 3) := by decide +kernel
theorem dX9_findStanding_65 : decode cX9_findStanding 65 = .ok (.aload_n 0, 1) := by decide +kernel
theorem dX9_findStanding_66 : decode cX9_findStanding 66 = .ok (.dup, 1) := by decide +kernel
theorem dX9_findStanding_67 : decode cX9_findStanding 67 = .ok (.getfield 56, 3) := by decide +kernel
theorem dX9_findStanding_70 : decode cX9_findStanding 70 = .ok (.iload_n 3, 1) := by decide +kernel
theorem dX9_findStanding_71 : decode cX9_findStanding 71 = .ok (.invokestatic 75, 3) := by decide +kernel
theorem dX9_findStanding_74 : decode cX9_findStanding 74 = .ok (.ior, 1) := by decide +kernel
theorem dX9_findStanding_75 : decode cX9_findStanding 75 = .ok (.putfield 56, 3) := by decide +kernel
theorem dX9_findStanding_78 : decode cX9_findStanding 78 = .ok (.aload 4, 2) := by decide +kernel
theorem dX9_findStanding_80 : decode cX9_findStanding 80 = .ok (.instanceof 78, 3) := by decide +kernel
theorem dX9_findStanding_83 : decode cX9_findStanding 83 = .ok (.ifCond .eq 20, 3) := by decide +kernel
theorem dX9_findStanding_86 : decode cX9_findStanding 86 = .ok (.aload_n 0, 1) := by decide +kernel
theorem dX9_findStanding_87 : decode cX9_findStanding 87 = .ok (.dup, 1) := by decide +kernel
theorem dX9_findStanding_88 : decode cX9_findStanding 88 = .ok (.getfield 50, 3) := by decide +kernel
theorem dX9_findStanding_91 : decode cX9_findStanding 91 = .ok (.aload 4, 2) := by decide +kernel
theorem dX9_findStanding_93 : decode cX9_findStanding 93 = .ok (.getfield 66, 3) := by decide +kernel
theorem dX9_findStanding_96 : decode cX9_findStanding 96 = .ok (.invokestatic 75, 3) := by decide +kernel
theorem dX9_findStanding_99 : decode cX9_findStanding 99 = .ok (.ior, 1) := by decide +kernel
theorem dX9_findStanding_100 : decode cX9_findStanding 100 = .ok (.putfield 50, 3) := by decide +kernel
theorem dX9_findStanding_103 : decode cX9_findStanding 103 = .ok (.iinc 3 1, 3) := by decide +kernel
theorem dX9_findStanding_106 : decode cX9_findStanding 106 = .ok (.goto (-94), 3) := by decide +kernel
theorem dX9_findStanding_109 : decode cX9_findStanding 109 = .ok (.return_, 1) := by decide +kernel
theorem dX9_takeStep_0 : decode cX9_takeStep 0 = .ok (.iconst 0, 1) := by decide +kernel
theorem dX9_takeStep_1 : decode cX9_takeStep 1 = .ok (.istore_n 2, 1) := by decide +kernel
theorem dX9_takeStep_2 : decode cX9_takeStep 2 = .ok (.iconst 0, 1) := by decide +kernel
theorem dX9_takeStep_3 : decode cX9_takeStep 3 = .ok (.istore_n 3, 1) := by decide +kernel
theorem dX9_takeStep_4 : decode cX9_takeStep 4 = .ok (.iconst 0, 1) := by decide +kernel
theorem dX9_takeStep_5 : decode cX9_takeStep 5 = .ok (.istore 4, 2) := by decide +kernel
theorem dX9_takeStep_7 : decode cX9_takeStep 7 = .ok (.iload 4, 2) := by decide +kernel
theorem dX9_takeStep_9 : decode cX9_takeStep 9 = .ok (.aload_n 0, 1) := by decide +kernel
theorem dX9_takeStep_10 : decode cX9_takeStep 10 = .ok (.getfield 21, 3) := by decide +kernel
theorem dX9_takeStep_13 : decode cX9_takeStep 13 = .ok (.getfield 59, 3) := by decide +kernel
theorem dX9_takeStep_16 : decode cX9_takeStep 16 = .ok (.if_icmp .ge 167, 3) := by decide +kernel
theorem dX9_takeStep_19 : decode cX9_takeStep 19 = .ok (.aload_n 0, 1) := by decide +kernel
theorem dX9_takeStep_20 : decode cX9_takeStep 20 = .ok (.getfield 21, 3) := by decide +kernel
theorem dX9_takeStep_23 : decode cX9_takeStep 23 = .ok (.iload 4, 2) := by decide +kernel
theorem dX9_takeStep_25 : decode cX9_takeStep 25 = .ok (.invokevirtual 62, 3) := by decide +kernel
theorem dX9_takeStep_28 : decode cX9_takeStep 28 = .ok (.astore 5, 2) := by decide +kernel
theorem dX9_takeStep_30 : decode cX9_takeStep 30 = .ok (.aload 5, 2) := by decide +kernel
theorem dX9_takeStep_32 : decode cX9_takeStep 32 = .ok (.ifnull 145, 3) := by decide +kernel
theorem dX9_takeStep_35 : decode cX9_takeStep 35 = .ok (.aload_n 0, 1) := by decide +kernel
theorem dX9_takeStep_36 : decode cX9_takeStep 36 = .ok (.getfield 56, 3) := by decide +kernel
theorem dX9_takeStep_39 : decode cX9_takeStep 39 = .ok (.iload 4, 2) := by decide +kernel
theorem dX9_takeStep_41 : decode cX9_takeStep 41 = .ok (.invokestatic 46, 3) := by decide +kernel
theorem dX9_takeStep_44 : decode cX9_takeStep 44 = .ok (.ifCond .eq 133, 3) := by decide +kernel
theorem dX9_takeStep_47 : decode cX9_takeStep 47 = .ok (.aload 5, 2) := by decide +kernel
theorem dX9_takeStep_49 : decode cX9_takeStep 49 = .ok (.aload_n 0, 1) := by decide +kernel
theorem dX9_takeStep_50 : decode cX9_takeStep 50 = .ok (.getfield 56, 3) := by decide +kernel
theorem dX9_takeStep_53 : decode cX9_takeStep 53 = .ok (.iload_n 2, 1) := by decide +kernel
theorem dX9_takeStep_54 : decode cX9_takeStep 54 = .ok (.aload_n 0, 1) := by decide +kernel
theorem dX9_takeStep_55 : decode cX9_takeStep 55 = .ok (.getfield 29, 3) := by decide +kernel
theorem dX9_takeStep_58 : decode cX9_takeStep 58 = .ok (.invokevirtual 80, 3) := by decide +kernel
theorem dX9_takeStep_61 : decode cX9_takeStep 61 = .ok (.ifCond .ne 6, 3) := by decide +kernel
theorem dX9_takeStep_64 : decode cX9_takeStep 64 = .ok (.goto 113, 3) := by decide +kernel
theorem dX9_takeStep_67 : decode cX9_takeStep 67 = .ok (.iload_n 2, 1) := by decide +kernel
theorem dX9_takeStep_68 : decode cX9_takeStep 68 = .ok (.iload 4, 2) := by decide +kernel
theorem dX9_takeStep_70 : decode cX9_takeStep 70 = .ok (.invokestatic 75, 3) := by decide +kernel
theorem dX9_takeStep_73 : decode cX9_takeStep 73 = .ok (.ior, 1) := by decide +kernel
theorem dX9_takeStep_74 : decode cX9_takeStep 74 = .ok (.istore_n 2, 1) := by decide +kernel
theorem dX9_takeStep_75 : decode cX9_takeStep 75 = .ok (.aload 5, 2) := by decide +kernel
theorem dX9_takeStep_77 : decode cX9_takeStep 77 = .ok (.getfield 66, 3) := by decide +kernel
theorem dX9_takeStep_80 : decode cX9_takeStep 80 = .ok (.istore 6, 2) := by decide +kernel
theorem dX9_takeStep_82 : decode cX9_takeStep 82 = .ok (.aload_n 0, 1) := by decide +kernel
theorem dX9_takeStep_83 : decode cX9_takeStep 83 = .ok (.getfield 29, 3) := by decide +kernel
theorem dX9_takeStep_86 : decode cX9_takeStep 86 = .ok (.iload_n 3, 1) := by decide +kernel
theorem dX9_takeStep_87 : decode cX9_takeStep 87 = .ok (.ior, 1) := by decide +kernel
theorem dX9_takeStep_88 : decode cX9_takeStep 88 = .ok (.iload 6, 2) := by decide +kernel
theorem dX9_takeStep_90 : decode cX9_takeStep 90 = .ok (.invokestatic 46, 3) := by decide +kernel
theorem dX9_takeStep_93 : decode cX9_takeStep 93 = .ok (.ifCond .ne 84, 3) := by decide +kernel
theorem dX9_takeStep_96 : decode cX9_takeStep 96 = .ok (.aload_n 0, 1) := by decide +kernel
theorem dX9_takeStep_97 : decode cX9_takeStep 97 = .ok (.iload 6, 2) := by decide +kernel
theorem dX9_takeStep_99 : decode cX9_takeStep 99 = .ok (.invokevirtual 84, 3) := by decide +kernel
theorem dX9_takeStep_102 : decode cX9_takeStep 102 = .ok (.ifCond .ne 6, 3) := by decide +kernel
theorem dX9_takeStep_105 : decode cX9_takeStep 105 = .ok (.goto 72, 3) := by decide +kernel
theorem dX9_takeStep_108 : decode cX9_takeStep 108 = .ok (.iload_n 3, 1) := by decide +kernel
theorem dX9_takeStep_109 : decode cX9_takeStep 109 = .ok (.iload 6, 2) := by decide +kernel
theorem dX9_takeStep_111 : decode cX9_takeStep 111 = .ok (.invokestatic 75, 3) := by decide +kernel
theorem dX9_takeStep_114 : decode cX9_takeStep 114 = .ok (.ior, 1) := by decide +kernel
theorem dX9_takeStep_115 : decode cX9_takeStep 115 = .ok (.istore_n 3, 1) := by decide +kernel
theorem dX9_takeStep_116 : decode cX9_takeStep 116 = .ok (.aload_n 0, 1) := by decide +kernel
theorem dX9_takeStep_117 : decode cX9_takeStep 117 = .ok (.getfield 9, 3) := by decide +kernel
theorem dX9_takeStep_120 : decode cX9_takeStep 120 = .ok (.iload 6, 2) := by decide +kernel
theorem dX9_takeStep_122 : decode cX9_takeStep 122 = .ok (.iload_n 1, 1) := by decide +kernel
theorem dX9_takeStep_123 : decode cX9_takeStep 123 = .ok (.iastore, 1) := by decide +kernel
theorem dX9_takeStep_124 : decode cX9_takeStep 124 = .ok (.aload_n 0, 1) := by decide +kernel
theorem dX9_takeStep_125 : decode cX9_takeStep 125 = .ok (.getfield 15, 3) := by decide +kernel
theorem dX9_takeStep_128 : decode cX9_takeStep 128 = .ok (.iload 6, 2) := by decide +kernel
theorem dX9_takeStep_130 : decode cX9_takeStep 130 = .ok (.iload 4, 2) := by decide +kernel
theorem dX9_takeStep_132 : decode cX9_takeStep 132 = .ok (.iastore, 1) := by decide +kernel
theorem dX9_takeStep_133 : decode cX9_takeStep 133 = .ok (.aload_n 0, 1) := by decide +kernel
theorem dX9_takeStep_134 : decode cX9_takeStep 134 = .ok (.getfield 18, 3) := by decide +kernel
theorem dX9_takeStep_137 : decode cX9_takeStep 137 = .ok (.iload 6, 2) := by decide +kernel
theorem dX9_takeStep_139 : decode cX9_takeStep 139 = .ok (.aload_n 0, 1) := by decide +kernel
theorem dX9_takeStep_140 : decode cX9_takeStep 140 = .ok (.getfield 21, 3) := by decide +kernel
theorem dX9_takeStep_143 : decode cX9_takeStep 143 = .ok (.getfield 88, 3) := by decide +kernel
theorem dX9_takeStep_146 : decode cX9_takeStep 146 = .ok (.iload 6, 2) := by decide +kernel
theorem dX9_takeStep_148 : decode cX9_takeStep 148 = .ok (.invokestatic 46, 3) := by decide +kernel
theorem dX9_takeStep_151 : decode cX9_takeStep 151 = .ok (.ifCond .eq 7, 3) := by decide +kernel
theorem dX9_takeStep_154 : decode cX9_takeStep 154 = .ok (.iconst (-1), 1) := by decide +kernel
theorem dX9_takeStep_155 : decode cX9_takeStep 155 = .ok (.goto 21, 3) := by decide +kernel
theorem dX9_takeStep_158 : decode cX9_takeStep 158 = .ok (.aload_n 0, 1) := by decide +kernel
theorem dX9_takeStep_159 : decode cX9_takeStep 159 = .ok (.getfield 21, 3) := by decide +kernel
theorem dX9_takeStep_162 : decode cX9_takeStep 162 = .ok (.getfield 91, 3) := by decide +kernel
theorem dX9_takeStep_165 : decode cX9_takeStep 165 = .ok (.iload 6, 2) := by decide +kernel
theorem dX9_takeStep_167 : decode cX9_takeStep 167 = .ok (.iaload, 1) := by decide +kernel
theorem dX9_takeStep_168 : decode cX9_takeStep 168 = .ok (.aload_n 0, 1) := by decide +kernel
theorem dX9_takeStep_169 : decode cX9_takeStep 169 = .ok (.getfield 29, 3) := by decide +kernel
theorem dX9_takeStep_172 : decode cX9_takeStep 172 = .ok (.iand, 1) := by decide +kernel
theorem dX9_takeStep_173 : decode cX9_takeStep 173 = .ok (.invokestatic 94, 3) := by decide +kernel
theorem dX9_takeStep_176 : decode cX9_takeStep 176 = .ok (.iastore, 1) := by decide +kernel
theorem dX9_takeStep_177 : decode cX9_takeStep 177 = .ok (.iinc 4 1, 3) := by decide +kernel
theorem dX9_takeStep_180 : decode cX9_takeStep 180 = .ok (.goto (-173), 3) := by decide +kernel
theorem dX9_takeStep_183 : decode cX9_takeStep 183 = .ok (.iload_n 3, 1) := by decide +kernel
theorem dX9_takeStep_184 : decode cX9_takeStep 184 = .ok (.ireturn, 1) := by decide +kernel
theorem dX9_isReached_0 : decode cX9_isReached 0 = .ok (.aload_n 0, 1) := by decide +kernel
theorem dX9_isReached_1 : decode cX9_isReached 1 = .ok (.getfield 21, 3) := by decide +kernel
theorem dX9_isReached_4 : decode cX9_isReached 4 = .ok (.getfield 88, 3) := by decide +kernel
theorem dX9_isReached_7 : decode cX9_isReached 7 = .ok (.iload_n 1, 1) := by decide +kernel
theorem dX9_isReached_8 : decode cX9_isReached 8 = .ok (.invokestatic 46, 3) := by decide +kernel
theorem dX9_isReached_11 : decode cX9_isReached 11 = .ok (.ifCond .ne 20, 3) := by decide +kernel
theorem dX9_isReached_14 : decode cX9_isReached 14 = .ok (.aload_n 0, 1) := by decide +kernel
theorem dX9_isReached_15 : decode cX9_isReached 15 = .ok (.getfield 21, 3) := by decide +kernel
theorem dX9_isReached_18 : decode cX9_isReached 18 = .ok (.getfield 91, 3) := by decide +kernel
theorem dX9_isReached_21 : decode cX9_isReached 21 = .ok (.iload_n 1, 1) := by decide +kernel
theorem dX9_isReached_22 : decode cX9_isReached 22 = .ok (.iaload, 1) := by decide +kernel
theorem dX9_isReached_23 : decode cX9_isReached 23 = .ok (.aload_n 0, 1) := by decide +kernel
theorem dX9_isReached_24 : decode cX9_isReached 24 = .ok (.getfield 29, 3) := by decide +kernel
theorem dX9_isReached_27 : decode cX9_isReached 27 = .ok (.iand, 1) := by decide +kernel
theorem dX9_isReached_28 : decode cX9_isReached 28 = .ok (.ifCond .eq 7, 3) := by decide +kernel
theorem dX9_isReached_31 : decode cX9_isReached 31 = .ok (.iconst 1, 1) := by decide +kernel
theorem dX9_isReached_32 : decode cX9_isReached 32 = .ok (.goto 4, 3) := by decide +kernel
theorem dX9_isReached_35 : decode cX9_isReached 35 = .ok (.iconst 0, 1) := by decide +kernel
theorem dX9_isReached_36 : decode cX9_isReached 36 = .ok (.ireturn, 1) := by decide +kernel
theorem dX9_leastOf_0 : decode cX9_leastOf 0 = .ok (.iconst 0, 1) := by decide +kernel
theorem dX9_leastOf_1 : decode cX9_leastOf 1 = .ok (.istore_n 1, 1) := by decide +kernel
theorem dX9_leastOf_2 : decode cX9_leastOf 2 = .ok (.iload_n 1, 1) := by decide +kernel
theorem dX9_leastOf_3 : decode cX9_leastOf 3 = .ok (.bipush 8, 2) := by decide +kernel
theorem dX9_leastOf_5 : decode cX9_leastOf 5 = .ok (.if_icmp .ge 19, 3) := by decide +kernel
theorem dX9_leastOf_8 : decode cX9_leastOf 8 = .ok (.iload_n 0, 1) := by decide +kernel
theorem dX9_leastOf_9 : decode cX9_leastOf 9 = .ok (.iload_n 1, 1) := by decide +kernel
theorem dX9_leastOf_10 : decode cX9_leastOf 10 = .ok (.invokestatic 46, 3) := by decide +kernel
theorem dX9_leastOf_13 : decode cX9_leastOf 13 = .ok (.ifCond .eq 5, 3) := by decide +kernel
theorem dX9_leastOf_16 : decode cX9_leastOf 16 = .ok (.iload_n 1, 1) := by decide +kernel
theorem dX9_leastOf_17 : decode cX9_leastOf 17 = .ok (.ireturn, 1) := by decide +kernel
theorem dX9_leastOf_18 : decode cX9_leastOf 18 = .ok (.iinc 1 1, 3) := by decide +kernel
theorem dX9_leastOf_21 : decode cX9_leastOf 21 = .ok (.goto (-19), 3) := by decide +kernel
theorem dX9_leastOf_24 : decode cX9_leastOf 24 = .ok (.iconst (-1), 1) := by decide +kernel
theorem dX9_leastOf_25 : decode cX9_leastOf 25 = .ok (.ireturn, 1) := by decide +kernel
theorem dX10_init_0 : decode cX10_init 0 = .ok (.aload_n 0, 1) := by decide +kernel
theorem dX10_init_1 : decode cX10_init 1 = .ok (.iload_n 1, 1) := by decide +kernel
theorem dX10_init_2 : decode cX10_init 2 = .ok (.iload_n 2, 1) := by decide +kernel
theorem dX10_init_3 : decode cX10_init 3 = .ok (.iload_n 3, 1) := by decide +kernel
theorem dX10_init_4 : decode cX10_init 4 = .ok (.invokespecial 1, 3) := by decide +kernel
theorem dX10_init_7 : decode cX10_init 7 = .ok (.return_, 1) := by decide +kernel
theorem dX10_kind_0 : decode cX10_kind 0 = .ok (.iconst 3, 1) := by decide +kernel
theorem dX10_kind_1 : decode cX10_kind 1 = .ok (.ireturn, 1) := by decide +kernel
theorem dX10_stands_0 : decode cX10_stands 0 = .ok (.aload_n 0, 1) := by decide +kernel
theorem dX10_stands_1 : decode cX10_stands 1 = .ok (.iload_n 1, 1) := by decide +kernel
theorem dX10_stands_2 : decode cX10_stands 2 = .ok (.invokevirtual 7, 3) := by decide +kernel
theorem dX10_stands_5 : decode cX10_stands 5 = .ok (.ireturn, 1) := by decide +kernel
theorem dX11_init_0 : decode cX11_init 0 = .ok (.aload_n 0, 1) := by decide +kernel
theorem dX11_init_1 : decode cX11_init 1 = .ok (.invokespecial 3, 3) := by decide +kernel
theorem dX11_init_4 : decode cX11_init 4 = .ok (.aload_n 0, 1) := by decide +kernel
theorem dX11_init_5 : decode cX11_init 5 = .ok (.new 9, 3) := by decide +kernel
theorem dX11_init_8 : decode cX11_init 8 = .ok (.dup, 1) := by decide +kernel
theorem dX11_init_9 : decode cX11_init 9 = .ok (.invokespecial 11, 3) := by decide +kernel
theorem dX11_init_12 : decode cX11_init 12 = .ok (.putfield 12, 3) := by decide +kernel
theorem dX11_init_15 : decode cX11_init 15 = .ok (.aload_n 0, 1) := by decide +kernel
theorem dX11_init_16 : decode cX11_init 16 = .ok (.new 16, 3) := by decide +kernel
theorem dX11_init_19 : decode cX11_init 19 = .ok (.dup, 1) := by decide +kernel
theorem dX11_init_20 : decode cX11_init 20 = .ok (.aload_n 0, 1) := by decide +kernel
theorem dX11_init_21 : decode cX11_init 21 = .ok (.getfield 12, 3) := by decide +kernel
theorem dX11_init_24 : decode cX11_init 24 = .ok (.invokespecial 18, 3) := by decide +kernel
theorem dX11_init_27 : decode cX11_init 27 = .ok (.putfield 21, 3) := by decide +kernel
theorem dX11_init_30 : decode cX11_init 30 = .ok (.aload_n 0, 1) := by decide +kernel
theorem dX11_init_31 : decode cX11_init 31 = .ok (.new 25, 3) := by decide +kernel
theorem dX11_init_34 : decode cX11_init 34 = .ok (.dup, 1) := by decide +kernel
theorem dX11_init_35 : decode cX11_init 35 = .ok (.aload_n 0, 1) := by decide +kernel
theorem dX11_init_36 : decode cX11_init 36 = .ok (.getfield 12, 3) := by decide +kernel
theorem dX11_init_39 : decode cX11_init 39 = .ok (.aload_n 0, 1) := by decide +kernel
theorem dX11_init_40 : decode cX11_init 40 = .ok (.getfield 21, 3) := by decide +kernel
theorem dX11_init_43 : decode cX11_init 43 = .ok (.invokespecial 27, 3) := by decide +kernel
theorem dX11_init_46 : decode cX11_init 46 = .ok (.putfield 30, 3) := by decide +kernel
theorem dX11_init_49 : decode cX11_init 49 = .ok (.aload_n 0, 1) := by decide +kernel
theorem dX11_init_50 : decode cX11_init 50 = .ok (.new 34, 3) := by decide +kernel
theorem dX11_init_53 : decode cX11_init 53 = .ok (.dup, 1) := by decide +kernel
theorem dX11_init_54 : decode cX11_init 54 = .ok (.aload_n 0, 1) := by decide +kernel
theorem dX11_init_55 : decode cX11_init 55 = .ok (.getfield 30, 3) := by decide +kernel
theorem dX11_init_58 : decode cX11_init 58 = .ok (.invokespecial 36, 3) := by decide +kernel
theorem dX11_init_61 : decode cX11_init 61 = .ok (.putfield 39, 3) := by decide +kernel
theorem dX11_init_64 : decode cX11_init 64 = .ok (.return_, 1) := by decide +kernel
theorem dX11_part_0 : decode cX11_part 0 = .ok (.iload_n 1, 1) := by decide +kernel
theorem dX11_part_1 : decode cX11_part 1 = .ok (.invokestatic 43, 3) := by decide +kernel
theorem dX11_part_4 : decode cX11_part 4 = .ok (.ifCond .eq 14, 3) := by decide +kernel
theorem dX11_part_7 : decode cX11_part 7 = .ok (.iload_n 2, 1) := by decide +kernel
theorem dX11_part_8 : decode cX11_part 8 = .ok (.iconst 0, 1) := by decide +kernel
theorem dX11_part_9 : decode cX11_part 9 = .ok (.sipush 1000, 3) := by decide +kernel
theorem dX11_part_12 : decode cX11_part 12 = .ok (.invokestatic 47, 3) := by decide +kernel
theorem dX11_part_15 : decode cX11_part 15 = .ok (.ifCond .ne 5, 3) := by decide +kernel
theorem dX11_part_18 : decode cX11_part 18 = .ok (.iconst (-1), 1) := by decide +kernel
theorem dX11_part_19 : decode cX11_part 19 = .ok (.ireturn, 1) := by decide +kernel
theorem dX11_part_20 : decode cX11_part 20 = .ok (.aload_n 0, 1) := by decide +kernel
theorem dX11_part_21 : decode cX11_part 21 = .ok (.getfield 12, 3) := by decide +kernel
theorem dX11_part_24 : decode cX11_part 24 = .ok (.iload_n 1, 1) := by decide +kernel
theorem dX11_part_25 : decode cX11_part 25 = .ok (.iload_n 2, 1) := by decide +kernel
theorem dX11_part_26 : decode cX11_part 26 = .ok (.iload_n 3, 1) := by decide +kernel
theorem dX11_part_27 : decode cX11_part 27 = .ok (.invokevirtual 51, 3) := by decide +kernel
theorem dX11_part_30 : decode cX11_part 30 = .ok (.ireturn, 1) := by decide +kernel
theorem dX11_link_0 : decode cX11_link 0 = .ok (.aload_n 0, 1) := by decide +kernel
theorem dX11_link_1 : decode cX11_link 1 = .ok (.getfield 12, 3) := by decide +kernel
theorem dX11_link_4 : decode cX11_link 4 = .ok (.iload_n 1, 1) := by decide +kernel
theorem dX11_link_5 : decode cX11_link 5 = .ok (.invokevirtual 55, 3) := by decide +kernel
theorem dX11_link_8 : decode cX11_link 8 = .ok (.ifCond .eq 19, 3) := by decide +kernel
theorem dX11_link_11 : decode cX11_link 11 = .ok (.aload_n 0, 1) := by decide +kernel
theorem dX11_link_12 : decode cX11_link 12 = .ok (.getfield 12, 3) := by decide +kernel
theorem dX11_link_15 : decode cX11_link 15 = .ok (.iload_n 2, 1) := by decide +kernel
theorem dX11_link_16 : decode cX11_link 16 = .ok (.invokevirtual 55, 3) := by decide +kernel
theorem dX11_link_19 : decode cX11_link 19 = .ok (.ifCond .eq 8, 3) := by decide +kernel
theorem dX11_link_22 : decode cX11_link 22 = .ok (.iload_n 1, 1) := by decide +kernel
theorem dX11_link_23 : decode cX11_link 23 = .ok (.iload_n 2, 1) := by decide +kernel
theorem dX11_link_24 : decode cX11_link 24 = .ok (.if_icmp .ne 5, 3) := by decide +kernel
theorem dX11_link_27 : decode cX11_link 27 = .ok (.iconst (-1), 1) := by decide +kernel
theorem dX11_link_28 : decode cX11_link 28 = .ok (.ireturn, 1) := by decide +kernel
theorem dX11_link_29 : decode cX11_link 29 = .ok (.aload_n 0, 1) := by decide +kernel
theorem dX11_link_30 : decode cX11_link 30 = .ok (.getfield 12, 3) := by decide +kernel
theorem dX11_link_33 : decode cX11_link 33 = .ok (.getfield 58, 3) := by decide +kernel
theorem dX11_link_36 : decode cX11_link 36 = .ok (.iload_n 2, 1) := by decide +kernel
theorem dX11_link_37 : decode cX11_link 37 = .ok (.iaload, 1) := by decide +kernel
theorem dX11_link_38 : decode cX11_link 38 = .ok (.istore 4, 2) := by decide +kernel
theorem dX11_link_40 : decode cX11_link 40 = .ok (.aload_n 0, 1) := by decide +kernel
theorem dX11_link_41 : decode cX11_link 41 = .ok (.getfield 12, 3) := by decide +kernel
theorem dX11_link_44 : decode cX11_link 44 = .ok (.getfield 58, 3) := by decide +kernel
theorem dX11_link_47 : decode cX11_link 47 = .ok (.iload_n 2, 1) := by decide +kernel
theorem dX11_link_48 : decode cX11_link 48 = .ok (.iload 4, 2) := by decide +kernel
theorem dX11_link_50 : decode cX11_link 50 = .ok (.iload_n 1, 1) := by decide +kernel
theorem dX11_link_51 : decode cX11_link 51 = .ok (.iload_n 3, 1) := by decide +kernel
theorem dX11_link_52 : decode cX11_link 52 = .ok (.invokestatic 62, 3) := by decide +kernel
theorem dX11_link_55 : decode cX11_link 55 = .ok (.iastore, 1) := by decide +kernel
theorem dX11_link_56 : decode cX11_link 56 = .ok (.iload 4, 2) := by decide +kernel
theorem dX11_link_58 : decode cX11_link 58 = .ok (.iload_n 1, 1) := by decide +kernel
theorem dX11_link_59 : decode cX11_link 59 = .ok (.invokestatic 65, 3) := by decide +kernel
theorem dX11_link_62 : decode cX11_link 62 = .ok (.invokestatic 69, 3) := by decide +kernel
theorem dX11_link_65 : decode cX11_link 65 = .ok (.ireturn, 1) := by decide +kernel
theorem dX11_guard_0 : decode cX11_guard 0 = .ok (.aload_n 0, 1) := by decide +kernel
theorem dX11_guard_1 : decode cX11_guard 1 = .ok (.getfield 12, 3) := by decide +kernel
theorem dX11_guard_4 : decode cX11_guard 4 = .ok (.iload_n 1, 1) := by decide +kernel
theorem dX11_guard_5 : decode cX11_guard 5 = .ok (.invokevirtual 55, 3) := by decide +kernel
theorem dX11_guard_8 : decode cX11_guard 8 = .ok (.ifCond .ne 5, 3) := by decide +kernel
theorem dX11_guard_11 : decode cX11_guard 11 = .ok (.iconst (-1), 1) := by decide +kernel
theorem dX11_guard_12 : decode cX11_guard 12 = .ok (.ireturn, 1) := by decide +kernel
theorem dX11_guard_13 : decode cX11_guard 13 = .ok (.aload_n 0, 1) := by decide +kernel
theorem dX11_guard_14 : decode cX11_guard 14 = .ok (.getfield 12, 3) := by decide +kernel
theorem dX11_guard_17 : decode cX11_guard 17 = .ok (.getfield 73, 3) := by decide +kernel
theorem dX11_guard_20 : decode cX11_guard 20 = .ok (.istore_n 3, 1) := by decide +kernel
theorem dX11_guard_21 : decode cX11_guard 21 = .ok (.aload_n 0, 1) := by decide +kernel
theorem dX11_guard_22 : decode cX11_guard 22 = .ok (.getfield 12, 3) := by decide +kernel
theorem dX11_guard_25 : decode cX11_guard 25 = .ok (.iload_n 3, 1) := by decide +kernel
theorem dX11_guard_26 : decode cX11_guard 26 = .ok (.iload_n 1, 1) := by decide +kernel
theorem dX11_guard_27 : decode cX11_guard 27 = .ok (.iload_n 2, 1) := by decide +kernel
theorem dX11_guard_28 : decode cX11_guard 28 = .ok (.invokestatic 62, 3) := by decide +kernel
theorem dX11_guard_31 : decode cX11_guard 31 = .ok (.putfield 73, 3) := by decide +kernel
theorem dX11_guard_34 : decode cX11_guard 34 = .ok (.iload_n 3, 1) := by decide +kernel
theorem dX11_guard_35 : decode cX11_guard 35 = .ok (.iload_n 1, 1) := by decide +kernel
theorem dX11_guard_36 : decode cX11_guard 36 = .ok (.invokestatic 65, 3) := by decide +kernel
theorem dX11_guard_39 : decode cX11_guard 39 = .ok (.invokestatic 69, 3) := by decide +kernel
theorem dX11_guard_42 : decode cX11_guard 42 = .ok (.ireturn, 1) := by decide +kernel
theorem dX11_version_0 : decode cX11_version 0 = .ok (.aload_n 0, 1) := by decide +kernel
theorem dX11_version_1 : decode cX11_version 1 = .ok (.getfield 12, 3) := by decide +kernel
theorem dX11_version_4 : decode cX11_version 4 = .ok (.iload_n 1, 1) := by decide +kernel
theorem dX11_version_5 : decode cX11_version 5 = .ok (.invokevirtual 55, 3) := by decide +kernel
theorem dX11_version_8 : decode cX11_version 8 = .ok (.ifCond .eq 10, 3) := by decide +kernel
theorem dX11_version_11 : decode cX11_version 11 = .ok (.iload_n 2, 1) := by decide +kernel
theorem dX11_version_12 : decode cX11_version 12 = .ok (.invokestatic 43, 3) := by decide +kernel
theorem dX11_version_15 : decode cX11_version 15 = .ok (.ifCond .ne 5, 3) := by decide +kernel
theorem dX11_version_18 : decode cX11_version 18 = .ok (.iconst (-1), 1) := by decide +kernel
theorem dX11_version_19 : decode cX11_version 19 = .ok (.ireturn, 1) := by decide +kernel
theorem dX11_version_20 : decode cX11_version 20 = .ok (.aload_n 0, 1) := by decide +kernel
theorem dX11_version_21 : decode cX11_version 21 = .ok (.getfield 12, 3) := by decide +kernel
theorem dX11_version_24 : decode cX11_version 24 = .ok (.getfield 77, 3) := by decide +kernel
theorem dX11_version_27 : decode cX11_version 27 = .ok (.iload_n 1, 1) := by decide +kernel
theorem dX11_version_28 : decode cX11_version 28 = .ok (.iaload, 1) := by decide +kernel
theorem dX11_version_29 : decode cX11_version 29 = .ok (.istore_n 3, 1) := by decide +kernel
theorem dX11_version_30 : decode cX11_version 30 = .ok (.aload_n 0, 1) := by decide +kernel
theorem dX11_version_31 : decode cX11_version 31 = .ok (.getfield 12, 3) := by decide +kernel
theorem dX11_version_34 : decode cX11_version 34 = .ok (.getfield 77, 3) := by decide +kernel
theorem dX11_version_37 : decode cX11_version 37 = .ok (.iload_n 1, 1) := by decide +kernel
theorem dX11_version_38 : decode cX11_version 38 = .ok (.iload_n 2, 1) := by decide +kernel
theorem dX11_version_39 : decode cX11_version 39 = .ok (.iastore, 1) := by decide +kernel
theorem dX11_version_40 : decode cX11_version 40 = .ok (.iload_n 3, 1) := by decide +kernel
theorem dX11_version_41 : decode cX11_version 41 = .ok (.ireturn, 1) := by decide +kernel
theorem dX11_hole_0 : decode cX11_hole 0 = .ok (.aload_n 0, 1) := by decide +kernel
theorem dX11_hole_1 : decode cX11_hole 1 = .ok (.getfield 12, 3) := by decide +kernel
theorem dX11_hole_4 : decode cX11_hole 4 = .ok (.iload_n 2, 1) := by decide +kernel
theorem dX11_hole_5 : decode cX11_hole 5 = .ok (.invokevirtual 55, 3) := by decide +kernel
theorem dX11_hole_8 : decode cX11_hole 8 = .ok (.ifCond .eq 12, 3) := by decide +kernel
theorem dX11_hole_11 : decode cX11_hole 11 = .ok (.iload_n 3, 1) := by decide +kernel
theorem dX11_hole_12 : decode cX11_hole 12 = .ok (.iload 4, 2) := by decide +kernel
theorem dX11_hole_14 : decode cX11_hole 14 = .ok (.invokestatic 80, 3) := by decide +kernel
theorem dX11_hole_17 : decode cX11_hole 17 = .ok (.ifCond .ne 5, 3) := by decide +kernel
theorem dX11_hole_20 : decode cX11_hole 20 = .ok (.iconst (-1), 1) := by decide +kernel
theorem dX11_hole_21 : decode cX11_hole 21 = .ok (.ireturn, 1) := by decide +kernel
theorem dX11_hole_22 : decode cX11_hole 22 = .ok (.iload_n 1, 1) := by decide +kernel
theorem dX11_hole_23 : decode cX11_hole 23 = .ok (.iload_n 2, 1) := by decide +kernel
theorem dX11_hole_24 : decode cX11_hole 24 = .ok (.iload_n 3, 1) := by decide +kernel
theorem dX11_hole_25 : decode cX11_hole 25 = .ok (.iload 4, 2) := by decide +kernel
theorem dX11_hole_27 : decode cX11_hole 27 = .ok (.invokestatic 83, 3) := by decide +kernel
theorem dX11_hole_30 : decode cX11_hole 30 = .ok (.astore 5, 2) := by decide +kernel
theorem dX11_hole_32 : decode cX11_hole 32 = .ok (.aload 5, 2) := by decide +kernel
theorem dX11_hole_34 : decode cX11_hole 34 = .ok (.ifnonnull 7, 3) := by decide +kernel
theorem dX11_hole_37 : decode cX11_hole 37 = .ok (.iconst (-1), 1) := by decide +kernel
theorem dX11_hole_38 : decode cX11_hole 38 = .ok (.goto 12, 3) := by decide +kernel
theorem dX11_hole_41 : decode cX11_hole 41 = .ok (.aload_n 0, 1) := by decide +kernel
theorem dX11_hole_42 : decode cX11_hole 42 = .ok (.getfield 12, 3) := by decide +kernel
theorem dX11_hole_45 : decode cX11_hole 45 = .ok (.aload 5, 2) := by decide +kernel
theorem dX11_hole_47 : decode cX11_hole 47 = .ok (.invokevirtual 87, 3) := by decide +kernel
theorem dX11_hole_50 : decode cX11_hole 50 = .ok (.ireturn, 1) := by decide +kernel
theorem dX11_chained_0 : decode cX11_chained 0 = .ok (.aload_n 0, 1) := by decide +kernel
theorem dX11_chained_1 : decode cX11_chained 1 = .ok (.getfield 12, 3) := by decide +kernel
theorem dX11_chained_4 : decode cX11_chained 4 = .ok (.iload 4, 2) := by decide +kernel
theorem dX11_chained_6 : decode cX11_chained 6 = .ok (.invokevirtual 91, 3) := by decide +kernel
theorem dX11_chained_9 : decode cX11_chained 9 = .ok (.astore 5, 2) := by decide +kernel
theorem dX11_chained_11 : decode cX11_chained 11 = .ok (.aload_n 0, 1) := by decide +kernel
theorem dX11_chained_12 : decode cX11_chained 12 = .ok (.getfield 12, 3) := by decide +kernel
theorem dX11_chained_15 : decode cX11_chained 15 = .ok (.iload_n 1, 1) := by decide +kernel
theorem dX11_chained_16 : decode cX11_chained 16 = .ok (.invokevirtual 55, 3) := by decide +kernel
theorem dX11_chained_19 : decode cX11_chained 19 = .ok (.ifCond .eq 16, 3) := by decide +kernel
theorem dX11_chained_22 : decode cX11_chained 22 = .ok (.iload_n 2, 1) := by decide +kernel
theorem dX11_chained_23 : decode cX11_chained 23 = .ok (.iload_n 3, 1) := by decide +kernel
theorem dX11_chained_24 : decode cX11_chained 24 = .ok (.invokestatic 80, 3) := by decide +kernel
theorem dX11_chained_27 : decode cX11_chained 27 = .ok (.ifCond .eq 8, 3) := by decide +kernel
theorem dX11_chained_30 : decode cX11_chained 30 = .ok (.aload 5, 2) := by decide +kernel
theorem dX11_chained_32 : decode cX11_chained 32 = .ok (.ifnonnull 5, 3) := by decide +kernel
theorem dX11_chained_35 : decode cX11_chained 35 = .ok (.iconst (-1), 1) := by decide +kernel
theorem dX11_chained_36 : decode cX11_chained 36 = .ok (.ireturn, 1) := by decide +kernel
theorem dX11_chained_37 : decode cX11_chained 37 = .ok (.aload_n 0, 1) := by decide +kernel
theorem dX11_chained_38 : decode cX11_chained 38 = .ok (.getfield 12, 3) := by decide +kernel
theorem dX11_chained_41 : decode cX11_chained 41 = .ok (.new 95, 3) := by decide +kernel
theorem dX11_chained_44 : decode cX11_chained 44 = .ok (.dup, 1) := by decide +kernel
theorem dX11_chained_45 : decode cX11_chained 45 = .ok (.iload_n 1, 1) := by decide +kernel
theorem dX11_chained_46 : decode cX11_chained 46 = .ok (.iload_n 2, 1) := by decide +kernel
theorem dX11_chained_47 : decode cX11_chained 47 = .ok (.iload_n 3, 1) := by decide +kernel
theorem dX11_chained_48 : decode cX11_chained 48 = .ok (.iload 4, 2) := by decide +kernel
theorem dX11_chained_50 : decode cX11_chained 50 = .ok (.aload 5, 2) := by decide +kernel
theorem dX11_chained_52 : decode cX11_chained 52 = .ok (.getfield 97, 3) := by decide +kernel
theorem dX11_chained_55 : decode cX11_chained 55 = .ok (.invokespecial 102, 3) := by decide +kernel
theorem dX11_chained_58 : decode cX11_chained 58 = .ok (.invokevirtual 87, 3) := by decide +kernel
theorem dX11_chained_61 : decode cX11_chained 61 = .ok (.ireturn, 1) := by decide +kernel
theorem dX11_wake_0 : decode cX11_wake 0 = .ok (.aload_n 0, 1) := by decide +kernel
theorem dX11_wake_1 : decode cX11_wake 1 = .ok (.getfield 12, 3) := by decide +kernel
theorem dX11_wake_4 : decode cX11_wake 4 = .ok (.iload_n 1, 1) := by decide +kernel
theorem dX11_wake_5 : decode cX11_wake 5 = .ok (.invokevirtual 91, 3) := by decide +kernel
theorem dX11_wake_8 : decode cX11_wake 8 = .ok (.astore_n 3, 1) := by decide +kernel
theorem dX11_wake_9 : decode cX11_wake 9 = .ok (.aload_n 3, 1) := by decide +kernel
theorem dX11_wake_10 : decode cX11_wake 10 = .ok (.ifnonnull 5, 3) := by decide +kernel
theorem dX11_wake_13 : decode cX11_wake 13 = .ok (.iconst (-1), 1) := by decide +kernel
theorem dX11_wake_14 : decode cX11_wake 14 = .ok (.ireturn, 1) := by decide +kernel
theorem dX11_wake_15 : decode cX11_wake 15 = .ok (.aload_n 3, 1) := by decide +kernel
theorem dX11_wake_16 : decode cX11_wake 16 = .ok (.instanceof 105, 3) := by decide +kernel
theorem dX11_wake_19 : decode cX11_wake 19 = .ok (.ifCond .eq 28, 3) := by decide +kernel
theorem dX11_wake_22 : decode cX11_wake 22 = .ok (.aload_n 3, 1) := by decide +kernel
theorem dX11_wake_23 : decode cX11_wake 23 = .ok (.checkcast 105, 3) := by decide +kernel
theorem dX11_wake_26 : decode cX11_wake 26 = .ok (.astore 4, 2) := by decide +kernel
theorem dX11_wake_28 : decode cX11_wake 28 = .ok (.aload 4, 2) := by decide +kernel
theorem dX11_wake_30 : decode cX11_wake 30 = .ok (.getfield 107, 3) := by decide +kernel
theorem dX11_wake_33 : decode cX11_wake 33 = .ok (.istore 5, 2) := by decide +kernel
theorem dX11_wake_35 : decode cX11_wake 35 = .ok (.aload 4, 2) := by decide +kernel
theorem dX11_wake_37 : decode cX11_wake 37 = .ok (.iload_n 2, 1) := by decide +kernel
theorem dX11_wake_38 : decode cX11_wake 38 = .ok (.putfield 107, 3) := by decide +kernel
theorem dX11_wake_41 : decode cX11_wake 41 = .ok (.iload 5, 2) := by decide +kernel
theorem dX11_wake_43 : decode cX11_wake 43 = .ok (.invokestatic 69, 3) := by decide +kernel
theorem dX11_wake_46 : decode cX11_wake 46 = .ok (.ireturn, 1) := by decide +kernel
theorem dX11_wake_47 : decode cX11_wake 47 = .ok (.bipush (-13), 2) := by decide +kernel
theorem dX11_wake_49 : decode cX11_wake 49 = .ok (.ireturn, 1) := by decide +kernel
theorem dX11_chain_0 : decode cX11_chain 0 = .ok (.aload_n 0, 1) := by decide +kernel
theorem dX11_chain_1 : decode cX11_chain 1 = .ok (.getfield 12, 3) := by decide +kernel
theorem dX11_chain_4 : decode cX11_chain 4 = .ok (.iload_n 1, 1) := by decide +kernel
theorem dX11_chain_5 : decode cX11_chain 5 = .ok (.invokevirtual 91, 3) := by decide +kernel
theorem dX11_chain_8 : decode cX11_chain 8 = .ok (.astore_n 2, 1) := by decide +kernel
theorem dX11_chain_9 : decode cX11_chain 9 = .ok (.aload_n 2, 1) := by decide +kernel
theorem dX11_chain_10 : decode cX11_chain 10 = .ok (.ifnonnull 5, 3) := by decide +kernel
theorem dX11_chain_13 : decode cX11_chain 13 = .ok (.iconst (-1), 1) := by decide +kernel
theorem dX11_chain_14 : decode cX11_chain 14 = .ok (.ireturn, 1) := by decide +kernel
theorem dX11_chain_15 : decode cX11_chain 15 = .ok (.aload_n 2, 1) := by decide +kernel
theorem dX11_chain_16 : decode cX11_chain 16 = .ok (.instanceof 95, 3) := by decide +kernel
theorem dX11_chain_19 : decode cX11_chain 19 = .ok (.ifCond .eq 13, 3) := by decide +kernel
theorem dX11_chain_22 : decode cX11_chain 22 = .ok (.aload_n 2, 1) := by decide +kernel
theorem dX11_chain_23 : decode cX11_chain 23 = .ok (.checkcast 95, 3) := by decide +kernel
theorem dX11_chain_26 : decode cX11_chain 26 = .ok (.astore_n 3, 1) := by decide +kernel
theorem dX11_chain_27 : decode cX11_chain 27 = .ok (.aload_n 3, 1) := by decide +kernel
theorem dX11_chain_28 : decode cX11_chain 28 = .ok (.getfield 111, 3) := by decide +kernel
theorem dX11_chain_31 : decode cX11_chain 31 = .ok (.ireturn, 1) := by decide +kernel
theorem dX11_chain_32 : decode cX11_chain 32 = .ok (.bipush (-13), 2) := by decide +kernel
theorem dX11_chain_34 : decode cX11_chain 34 = .ok (.ireturn, 1) := by decide +kernel
theorem dX11_told_0 : decode cX11_told 0 = .ok (.aload_n 0, 1) := by decide +kernel
theorem dX11_told_1 : decode cX11_told 1 = .ok (.getfield 12, 3) := by decide +kernel
theorem dX11_told_4 : decode cX11_told 4 = .ok (.iload_n 1, 1) := by decide +kernel
theorem dX11_told_5 : decode cX11_told 5 = .ok (.invokevirtual 91, 3) := by decide +kernel
theorem dX11_told_8 : decode cX11_told 8 = .ok (.astore_n 3, 1) := by decide +kernel
theorem dX11_told_9 : decode cX11_told 9 = .ok (.aload_n 3, 1) := by decide +kernel
theorem dX11_told_10 : decode cX11_told 10 = .ok (.ifnonnull 5, 3) := by decide +kernel
theorem dX11_told_13 : decode cX11_told 13 = .ok (.iconst (-1), 1) := by decide +kernel
theorem dX11_told_14 : decode cX11_told 14 = .ok (.ireturn, 1) := by decide +kernel
theorem dX11_told_15 : decode cX11_told 15 = .ok (.iload_n 2, 1) := by decide +kernel
theorem dX11_told_16 : decode cX11_told 16 = .ok (.tableswitch 68 0 4 #[36, 41, 46, 51, 56], 36) := by decide +kernel
theorem dX11_told_52 : decode cX11_told 52 = .ok (.aload_n 3, 1) := by decide +kernel
theorem dX11_told_53 : decode cX11_told 53 = .ok (.invokevirtual 114, 3) := by decide +kernel
theorem dX11_told_56 : decode cX11_told 56 = .ok (.ireturn, 1) := by decide +kernel
theorem dX11_told_57 : decode cX11_told 57 = .ok (.aload_n 3, 1) := by decide +kernel
theorem dX11_told_58 : decode cX11_told 58 = .ok (.getfield 97, 3) := by decide +kernel
theorem dX11_told_61 : decode cX11_told 61 = .ok (.ireturn, 1) := by decide +kernel
theorem dX11_told_62 : decode cX11_told 62 = .ok (.aload_n 3, 1) := by decide +kernel
theorem dX11_told_63 : decode cX11_told 63 = .ok (.getfield 118, 3) := by decide +kernel
theorem dX11_told_66 : decode cX11_told 66 = .ok (.ireturn, 1) := by decide +kernel
theorem dX11_told_67 : decode cX11_told 67 = .ok (.aload_n 3, 1) := by decide +kernel
theorem dX11_told_68 : decode cX11_told 68 = .ok (.getfield 121, 3) := by decide +kernel
theorem dX11_told_71 : decode cX11_told 71 = .ok (.ireturn, 1) := by decide +kernel
theorem dX11_told_72 : decode cX11_told 72 = .ok (.aload_n 0, 1) := by decide +kernel
theorem dX11_told_73 : decode cX11_told 73 = .ok (.getfield 12, 3) := by decide +kernel
theorem dX11_told_76 : decode cX11_told 76 = .ok (.aload_n 3, 1) := by decide +kernel
theorem dX11_told_77 : decode cX11_told 77 = .ok (.invokevirtual 124, 3) := by decide +kernel
theorem dX11_told_80 : decode cX11_told 80 = .ok (.invokestatic 69, 3) := by decide +kernel
theorem dX11_told_83 : decode cX11_told 83 = .ok (.ireturn, 1) := by decide +kernel
theorem dX11_told_84 : decode cX11_told 84 = .ok (.iconst (-1), 1) := by decide +kernel
theorem dX11_told_85 : decode cX11_told 85 = .ok (.ireturn, 1) := by decide +kernel
theorem dX11_risk_0 : decode cX11_risk 0 = .ok (.aload_n 0, 1) := by decide +kernel
theorem dX11_risk_1 : decode cX11_risk 1 = .ok (.invokevirtual 128, 3) := by decide +kernel
theorem dX11_risk_4 : decode cX11_risk 4 = .ok (.ireturn, 1) := by decide +kernel
theorem dX11_taken_0 : decode cX11_taken 0 = .ok (.aload_n 0, 1) := by decide +kernel
theorem dX11_taken_1 : decode cX11_taken 1 = .ok (.invokevirtual 128, 3) := by decide +kernel
theorem dX11_taken_4 : decode cX11_taken 4 = .ok (.pop, 1) := by decide +kernel
theorem dX11_taken_5 : decode cX11_taken 5 = .ok (.aload_n 0, 1) := by decide +kernel
theorem dX11_taken_6 : decode cX11_taken 6 = .ok (.getfield 21, 3) := by decide +kernel
theorem dX11_taken_9 : decode cX11_taken 9 = .ok (.getfield 131, 3) := by decide +kernel
theorem dX11_taken_12 : decode cX11_taken 12 = .ok (.ireturn, 1) := by decide +kernel
theorem dX11_way_0 : decode cX11_way 0 = .ok (.aload_n 0, 1) := by decide +kernel
theorem dX11_way_1 : decode cX11_way 1 = .ok (.getfield 12, 3) := by decide +kernel
theorem dX11_way_4 : decode cX11_way 4 = .ok (.iload_n 1, 1) := by decide +kernel
theorem dX11_way_5 : decode cX11_way 5 = .ok (.invokevirtual 55, 3) := by decide +kernel
theorem dX11_way_8 : decode cX11_way 8 = .ok (.ifCond .eq 12, 3) := by decide +kernel
theorem dX11_way_11 : decode cX11_way 11 = .ok (.iload_n 2, 1) := by decide +kernel
theorem dX11_way_12 : decode cX11_way 12 = .ok (.iconst 0, 1) := by decide +kernel
theorem dX11_way_13 : decode cX11_way 13 = .ok (.iconst 2, 1) := by decide +kernel
theorem dX11_way_14 : decode cX11_way 14 = .ok (.invokestatic 47, 3) := by decide +kernel
theorem dX11_way_17 : decode cX11_way 17 = .ok (.ifCond .ne 5, 3) := by decide +kernel
theorem dX11_way_20 : decode cX11_way 20 = .ok (.iconst (-1), 1) := by decide +kernel
theorem dX11_way_21 : decode cX11_way 21 = .ok (.ireturn, 1) := by decide +kernel
theorem dX11_way_22 : decode cX11_way 22 = .ok (.aload_n 0, 1) := by decide +kernel
theorem dX11_way_23 : decode cX11_way 23 = .ok (.invokevirtual 128, 3) := by decide +kernel
theorem dX11_way_26 : decode cX11_way 26 = .ok (.pop, 1) := by decide +kernel
theorem dX11_way_27 : decode cX11_way 27 = .ok (.aload_n 0, 1) := by decide +kernel
theorem dX11_way_28 : decode cX11_way 28 = .ok (.getfield 21, 3) := by decide +kernel
theorem dX11_way_31 : decode cX11_way 31 = .ok (.getfield 131, 3) := by decide +kernel
theorem dX11_way_34 : decode cX11_way 34 = .ok (.iload_n 1, 1) := by decide +kernel
theorem dX11_way_35 : decode cX11_way 35 = .ok (.invokestatic 65, 3) := by decide +kernel
theorem dX11_way_38 : decode cX11_way 38 = .ok (.ifCond .ne 6, 3) := by decide +kernel
theorem dX11_way_41 : decode cX11_way 41 = .ok (.bipush (-4), 2) := by decide +kernel
theorem dX11_way_43 : decode cX11_way 43 = .ok (.ireturn, 1) := by decide +kernel
theorem dX11_way_44 : decode cX11_way 44 = .ok (.iload_n 2, 1) := by decide +kernel
theorem dX11_way_45 : decode cX11_way 45 = .ok (.lookupswitch 47 #[(0, 27), (1, 37)], 27) := by decide +kernel
theorem dX11_way_72 : decode cX11_way 72 = .ok (.aload_n 0, 1) := by decide +kernel
theorem dX11_way_73 : decode cX11_way 73 = .ok (.getfield 21, 3) := by decide +kernel
theorem dX11_way_76 : decode cX11_way 76 = .ok (.getfield 134, 3) := by decide +kernel
theorem dX11_way_79 : decode cX11_way 79 = .ok (.iload_n 1, 1) := by decide +kernel
theorem dX11_way_80 : decode cX11_way 80 = .ok (.iaload, 1) := by decide +kernel
theorem dX11_way_81 : decode cX11_way 81 = .ok (.ireturn, 1) := by decide +kernel
theorem dX11_way_82 : decode cX11_way 82 = .ok (.aload_n 0, 1) := by decide +kernel
theorem dX11_way_83 : decode cX11_way 83 = .ok (.getfield 21, 3) := by decide +kernel
theorem dX11_way_86 : decode cX11_way 86 = .ok (.getfield 137, 3) := by decide +kernel
theorem dX11_way_89 : decode cX11_way 89 = .ok (.iload_n 1, 1) := by decide +kernel
theorem dX11_way_90 : decode cX11_way 90 = .ok (.iaload, 1) := by decide +kernel
theorem dX11_way_91 : decode cX11_way 91 = .ok (.ireturn, 1) := by decide +kernel
theorem dX11_way_92 : decode cX11_way 92 = .ok (.aload_n 0, 1) := by decide +kernel
theorem dX11_way_93 : decode cX11_way 93 = .ok (.getfield 21, 3) := by decide +kernel
theorem dX11_way_96 : decode cX11_way 96 = .ok (.getfield 140, 3) := by decide +kernel
theorem dX11_way_99 : decode cX11_way 99 = .ok (.iload_n 1, 1) := by decide +kernel
theorem dX11_way_100 : decode cX11_way 100 = .ok (.iaload, 1) := by decide +kernel
theorem dX11_way_101 : decode cX11_way 101 = .ok (.ireturn, 1) := by decide +kernel
theorem dX11_bestGuard_0 : decode cX11_bestGuard 0 = .ok (.bipush (-4), 2) := by decide +kernel
theorem dX11_bestGuard_2 : decode cX11_bestGuard 2 = .ok (.istore_n 1, 1) := by decide +kernel
theorem dX11_bestGuard_3 : decode cX11_bestGuard 3 = .ok (.aload_n 0, 1) := by decide +kernel
theorem dX11_bestGuard_4 : decode cX11_bestGuard 4 = .ok (.invokevirtual 128, 3) := by decide +kernel
theorem dX11_bestGuard_7 : decode cX11_bestGuard 7 = .ok (.istore_n 2, 1) := by decide +kernel
theorem dX11_bestGuard_8 : decode cX11_bestGuard 8 = .ok (.iconst 0, 1) := by decide +kernel
theorem dX11_bestGuard_9 : decode cX11_bestGuard 9 = .ok (.istore_n 3, 1) := by decide +kernel
theorem dX11_bestGuard_10 : decode cX11_bestGuard 10 = .ok (.iload_n 3, 1) := by decide +kernel
theorem dX11_bestGuard_11 : decode cX11_bestGuard 11 = .ok (.aload_n 0, 1) := by decide +kernel
theorem dX11_bestGuard_12 : decode cX11_bestGuard 12 = .ok (.getfield 12, 3) := by decide +kernel
theorem dX11_bestGuard_15 : decode cX11_bestGuard 15 = .ok (.getfield 143, 3) := by decide +kernel
theorem dX11_bestGuard_18 : decode cX11_bestGuard 18 = .ok (.if_icmp .ge 65, 3) := by decide +kernel
theorem dX11_bestGuard_21 : decode cX11_bestGuard 21 = .ok (.aload_n 0, 1) := by decide +kernel
theorem dX11_bestGuard_22 : decode cX11_bestGuard 22 = .ok (.getfield 12, 3) := by decide +kernel
theorem dX11_bestGuard_25 : decode cX11_bestGuard 25 = .ok (.getfield 73, 3) := by decide +kernel
theorem dX11_bestGuard_28 : decode cX11_bestGuard 28 = .ok (.iload_n 3, 1) := by decide +kernel
theorem dX11_bestGuard_29 : decode cX11_bestGuard 29 = .ok (.invokestatic 65, 3) := by decide +kernel
theorem dX11_bestGuard_32 : decode cX11_bestGuard 32 = .ok (.ifCond .eq 6, 3) := by decide +kernel
theorem dX11_bestGuard_35 : decode cX11_bestGuard 35 = .ok (.goto 42, 3) := by decide +kernel
theorem dX11_bestGuard_38 : decode cX11_bestGuard 38 = .ok (.aload_n 0, 1) := by decide +kernel
theorem dX11_bestGuard_39 : decode cX11_bestGuard 39 = .ok (.getfield 21, 3) := by decide +kernel
theorem dX11_bestGuard_42 : decode cX11_bestGuard 42 = .ok (.aload_n 0, 1) := by decide +kernel
theorem dX11_bestGuard_43 : decode cX11_bestGuard 43 = .ok (.getfield 12, 3) := by decide +kernel
theorem dX11_bestGuard_46 : decode cX11_bestGuard 46 = .ok (.getfield 77, 3) := by decide +kernel
theorem dX11_bestGuard_49 : decode cX11_bestGuard 49 = .ok (.aload_n 0, 1) := by decide +kernel
theorem dX11_bestGuard_50 : decode cX11_bestGuard 50 = .ok (.getfield 12, 3) := by decide +kernel
theorem dX11_bestGuard_53 : decode cX11_bestGuard 53 = .ok (.getfield 73, 3) := by decide +kernel
theorem dX11_bestGuard_56 : decode cX11_bestGuard 56 = .ok (.iload_n 3, 1) := by decide +kernel
theorem dX11_bestGuard_57 : decode cX11_bestGuard 57 = .ok (.invokestatic 146, 3) := by decide +kernel
theorem dX11_bestGuard_60 : decode cX11_bestGuard 60 = .ok (.ior, 1) := by decide +kernel
theorem dX11_bestGuard_61 : decode cX11_bestGuard 61 = .ok (.invokevirtual 150, 3) := by decide +kernel
theorem dX11_bestGuard_64 : decode cX11_bestGuard 64 = .ok (.istore 4, 2) := by decide +kernel
theorem dX11_bestGuard_66 : decode cX11_bestGuard 66 = .ok (.iload 4, 2) := by decide +kernel
theorem dX11_bestGuard_68 : decode cX11_bestGuard 68 = .ok (.iload_n 2, 1) := by decide +kernel
theorem dX11_bestGuard_69 : decode cX11_bestGuard 69 = .ok (.if_icmp .ge 8, 3) := by decide +kernel
end
section
theorem dX11_bestGuard_72 : decode cX11_bestGuard 72 = .ok (.iload 4, 2) := by decide +kernel
theorem dX11_bestGuard_74 : decode cX11_bestGuard 74 = .ok (.istore_n 2, 1) := by decide +kernel
theorem dX11_bestGuard_75 : decode cX11_bestGuard 75 = .ok (.iload_n 3, 1) := by decide +kernel
theorem dX11_bestGuard_76 : decode cX11_bestGuard 76 = .ok (.istore_n 1, 1) := by decide +kernel
theorem dX11_bestGuard_77 : decode cX11_bestGuard 77 = .ok (.iinc 3 1, 3) := by decide +kernel
theorem dX11_bestGuard_80 : decode cX11_bestGuard 80 = .ok (.goto (-70), 3) := by decide +kernel
theorem dX11_bestGuard_83 : decode cX11_bestGuard 83 = .ok (.iload_n 1, 1) := by decide +kernel
theorem dX11_bestGuard_84 : decode cX11_bestGuard 84 = .ok (.ireturn, 1) := by decide +kernel
theorem dX11_mend_0 : decode cX11_mend 0 = .ok (.aload_n 0, 1) := by decide +kernel
theorem dX11_mend_1 : decode cX11_mend 1 = .ok (.getfield 12, 3) := by decide +kernel
theorem dX11_mend_4 : decode cX11_mend 4 = .ok (.iload_n 1, 1) := by decide +kernel
theorem dX11_mend_5 : decode cX11_mend 5 = .ok (.invokevirtual 55, 3) := by decide +kernel
theorem dX11_mend_8 : decode cX11_mend 8 = .ok (.ifCond .eq 20, 3) := by decide +kernel
theorem dX11_mend_11 : decode cX11_mend 11 = .ok (.iload_n 2, 1) := by decide +kernel
theorem dX11_mend_12 : decode cX11_mend 12 = .ok (.invokestatic 43, 3) := by decide +kernel
theorem dX11_mend_15 : decode cX11_mend 15 = .ok (.ifCond .eq 13, 3) := by decide +kernel
theorem dX11_mend_18 : decode cX11_mend 18 = .ok (.iload_n 3, 1) := by decide +kernel
theorem dX11_mend_19 : decode cX11_mend 19 = .ok (.iconst 1, 1) := by decide +kernel
theorem dX11_mend_20 : decode cX11_mend 20 = .ok (.bipush 9, 2) := by decide +kernel
theorem dX11_mend_22 : decode cX11_mend 22 = .ok (.invokestatic 47, 3) := by decide +kernel
theorem dX11_mend_25 : decode cX11_mend 25 = .ok (.ifCond .ne 5, 3) := by decide +kernel
theorem dX11_mend_28 : decode cX11_mend 28 = .ok (.iconst (-1), 1) := by decide +kernel
theorem dX11_mend_29 : decode cX11_mend 29 = .ok (.ireturn, 1) := by decide +kernel
theorem dX11_mend_30 : decode cX11_mend 30 = .ok (.iload 4, 2) := by decide +kernel
theorem dX11_mend_32 : decode cX11_mend 32 = .ok (.iconst (-1), 1) := by decide +kernel
theorem dX11_mend_33 : decode cX11_mend 33 = .ok (.if_icmp .eq 17, 3) := by decide +kernel
theorem dX11_mend_36 : decode cX11_mend 36 = .ok (.aload_n 0, 1) := by decide +kernel
theorem dX11_mend_37 : decode cX11_mend 37 = .ok (.getfield 30, 3) := by decide +kernel
theorem dX11_mend_40 : decode cX11_mend 40 = .ok (.iload 4, 2) := by decide +kernel
theorem dX11_mend_42 : decode cX11_mend 42 = .ok (.invokevirtual 154, 3) := by decide +kernel
theorem dX11_mend_45 : decode cX11_mend 45 = .ok (.ifnonnull 5, 3) := by decide +kernel
theorem dX11_mend_48 : decode cX11_mend 48 = .ok (.iconst (-1), 1) := by decide +kernel
theorem dX11_mend_49 : decode cX11_mend 49 = .ok (.ireturn, 1) := by decide +kernel
theorem dX11_mend_50 : decode cX11_mend 50 = .ok (.iload 5, 2) := by decide +kernel
theorem dX11_mend_52 : decode cX11_mend 52 = .ok (.iconst 0, 1) := by decide +kernel
theorem dX11_mend_53 : decode cX11_mend 53 = .ok (.iconst 5, 1) := by decide +kernel
theorem dX11_mend_54 : decode cX11_mend 54 = .ok (.invokestatic 47, 3) := by decide +kernel
theorem dX11_mend_57 : decode cX11_mend 57 = .ok (.ifCond .eq 14, 3) := by decide +kernel
theorem dX11_mend_60 : decode cX11_mend 60 = .ok (.iload 6, 2) := by decide +kernel
theorem dX11_mend_62 : decode cX11_mend 62 = .ok (.iload 5, 2) := by decide +kernel
theorem dX11_mend_64 : decode cX11_mend 64 = .ok (.iconst 5, 1) := by decide +kernel
theorem dX11_mend_65 : decode cX11_mend 65 = .ok (.invokestatic 47, 3) := by decide +kernel
theorem dX11_mend_68 : decode cX11_mend 68 = .ok (.ifCond .ne 5, 3) := by decide +kernel
theorem dX11_mend_71 : decode cX11_mend 71 = .ok (.iconst (-1), 1) := by decide +kernel
theorem dX11_mend_72 : decode cX11_mend 72 = .ok (.ireturn, 1) := by decide +kernel
theorem dX11_mend_73 : decode cX11_mend 73 = .ok (.aload_n 0, 1) := by decide +kernel
theorem dX11_mend_74 : decode cX11_mend 74 = .ok (.getfield 30, 3) := by decide +kernel
theorem dX11_mend_77 : decode cX11_mend 77 = .ok (.new 158, 3) := by decide +kernel
theorem dX11_mend_80 : decode cX11_mend 80 = .ok (.dup, 1) := by decide +kernel
theorem dX11_mend_81 : decode cX11_mend 81 = .ok (.iload_n 1, 1) := by decide +kernel
theorem dX11_mend_82 : decode cX11_mend 82 = .ok (.iload_n 2, 1) := by decide +kernel
theorem dX11_mend_83 : decode cX11_mend 83 = .ok (.iload_n 3, 1) := by decide +kernel
theorem dX11_mend_84 : decode cX11_mend 84 = .ok (.iload 4, 2) := by decide +kernel
theorem dX11_mend_86 : decode cX11_mend 86 = .ok (.iload 5, 2) := by decide +kernel
theorem dX11_mend_88 : decode cX11_mend 88 = .ok (.iload 6, 2) := by decide +kernel
theorem dX11_mend_90 : decode cX11_mend 90 = .ok (.invokespecial 160, 3) := by decide +kernel
theorem dX11_mend_93 : decode cX11_mend 93 = .ok (.invokevirtual 163, 3) := by decide +kernel
theorem dX11_mend_96 : decode cX11_mend 96 = .ok (.ireturn, 1) := by decide +kernel
theorem dX11_quarrel_0 : decode cX11_quarrel 0 = .ok (.aload_n 0, 1) := by decide +kernel
theorem dX11_quarrel_1 : decode cX11_quarrel 1 = .ok (.getfield 12, 3) := by decide +kernel
theorem dX11_quarrel_4 : decode cX11_quarrel 4 = .ok (.iload_n 1, 1) := by decide +kernel
theorem dX11_quarrel_5 : decode cX11_quarrel 5 = .ok (.invokevirtual 55, 3) := by decide +kernel
theorem dX11_quarrel_8 : decode cX11_quarrel 8 = .ok (.ifCond .eq 19, 3) := by decide +kernel
theorem dX11_quarrel_11 : decode cX11_quarrel 11 = .ok (.aload_n 0, 1) := by decide +kernel
theorem dX11_quarrel_12 : decode cX11_quarrel 12 = .ok (.getfield 12, 3) := by decide +kernel
theorem dX11_quarrel_15 : decode cX11_quarrel 15 = .ok (.iload_n 3, 1) := by decide +kernel
theorem dX11_quarrel_16 : decode cX11_quarrel 16 = .ok (.invokevirtual 55, 3) := by decide +kernel
theorem dX11_quarrel_19 : decode cX11_quarrel 19 = .ok (.ifCond .eq 8, 3) := by decide +kernel
theorem dX11_quarrel_22 : decode cX11_quarrel 22 = .ok (.iload_n 1, 1) := by decide +kernel
theorem dX11_quarrel_23 : decode cX11_quarrel 23 = .ok (.iload_n 3, 1) := by decide +kernel
theorem dX11_quarrel_24 : decode cX11_quarrel 24 = .ok (.if_icmp .ne 5, 3) := by decide +kernel
theorem dX11_quarrel_27 : decode cX11_quarrel 27 = .ok (.iconst (-1), 1) := by decide +kernel
theorem dX11_quarrel_28 : decode cX11_quarrel 28 = .ok (.ireturn, 1) := by decide +kernel
theorem dX11_quarrel_29 : decode cX11_quarrel 29 = .ok (.iload_n 2, 1) := by decide +kernel
theorem dX11_quarrel_30 : decode cX11_quarrel 30 = .ok (.invokestatic 43, 3) := by decide +kernel
theorem dX11_quarrel_33 : decode cX11_quarrel 33 = .ok (.ifCond .eq 11, 3) := by decide +kernel
theorem dX11_quarrel_36 : decode cX11_quarrel 36 = .ok (.iload 4, 2) := by decide +kernel
theorem dX11_quarrel_38 : decode cX11_quarrel 38 = .ok (.invokestatic 43, 3) := by decide +kernel
theorem dX11_quarrel_41 : decode cX11_quarrel 41 = .ok (.ifCond .ne 5, 3) := by decide +kernel
theorem dX11_quarrel_44 : decode cX11_quarrel 44 = .ok (.iconst (-1), 1) := by decide +kernel
theorem dX11_quarrel_45 : decode cX11_quarrel 45 = .ok (.ireturn, 1) := by decide +kernel
theorem dX11_quarrel_46 : decode cX11_quarrel 46 = .ok (.aload_n 0, 1) := by decide +kernel
theorem dX11_quarrel_47 : decode cX11_quarrel 47 = .ok (.getfield 30, 3) := by decide +kernel
theorem dX11_quarrel_50 : decode cX11_quarrel 50 = .ok (.new 167, 3) := by decide +kernel
theorem dX11_quarrel_53 : decode cX11_quarrel 53 = .ok (.dup, 1) := by decide +kernel
theorem dX11_quarrel_54 : decode cX11_quarrel 54 = .ok (.iload_n 1, 1) := by decide +kernel
theorem dX11_quarrel_55 : decode cX11_quarrel 55 = .ok (.iload_n 2, 1) := by decide +kernel
theorem dX11_quarrel_56 : decode cX11_quarrel 56 = .ok (.iload_n 3, 1) := by decide +kernel
theorem dX11_quarrel_57 : decode cX11_quarrel 57 = .ok (.iload 4, 2) := by decide +kernel
theorem dX11_quarrel_59 : decode cX11_quarrel 59 = .ok (.invokespecial 169, 3) := by decide +kernel
theorem dX11_quarrel_62 : decode cX11_quarrel 62 = .ok (.invokevirtual 172, 3) := by decide +kernel
theorem dX11_quarrel_65 : decode cX11_quarrel 65 = .ok (.ireturn, 1) := by decide +kernel
theorem dX11_riskWith_0 : decode cX11_riskWith 0 = .ok (.aload_n 0, 1) := by decide +kernel
theorem dX11_riskWith_1 : decode cX11_riskWith 1 = .ok (.getfield 30, 3) := by decide +kernel
theorem dX11_riskWith_4 : decode cX11_riskWith 4 = .ok (.iload_n 1, 1) := by decide +kernel
theorem dX11_riskWith_5 : decode cX11_riskWith 5 = .ok (.invokevirtual 176, 3) := by decide +kernel
theorem dX11_riskWith_8 : decode cX11_riskWith 8 = .ok (.ifCond .ne 5, 3) := by decide +kernel
theorem dX11_riskWith_11 : decode cX11_riskWith 11 = .ok (.iconst (-1), 1) := by decide +kernel
theorem dX11_riskWith_12 : decode cX11_riskWith 12 = .ok (.ireturn, 1) := by decide +kernel
theorem dX11_riskWith_13 : decode cX11_riskWith 13 = .ok (.aload_n 0, 1) := by decide +kernel
theorem dX11_riskWith_14 : decode cX11_riskWith 14 = .ok (.getfield 30, 3) := by decide +kernel
theorem dX11_riskWith_17 : decode cX11_riskWith 17 = .ok (.iload_n 1, 1) := by decide +kernel
theorem dX11_riskWith_18 : decode cX11_riskWith 18 = .ok (.invokevirtual 179, 3) := by decide +kernel
theorem dX11_riskWith_21 : decode cX11_riskWith 21 = .ok (.ireturn, 1) := by decide +kernel
theorem dX11_sound_0 : decode cX11_sound 0 = .ok (.aload_n 0, 1) := by decide +kernel
theorem dX11_sound_1 : decode cX11_sound 1 = .ok (.getfield 30, 3) := by decide +kernel
theorem dX11_sound_4 : decode cX11_sound 4 = .ok (.iload_n 1, 1) := by decide +kernel
theorem dX11_sound_5 : decode cX11_sound 5 = .ok (.invokevirtual 176, 3) := by decide +kernel
theorem dX11_sound_8 : decode cX11_sound 8 = .ok (.ifCond .ne 5, 3) := by decide +kernel
theorem dX11_sound_11 : decode cX11_sound 11 = .ok (.iconst (-1), 1) := by decide +kernel
theorem dX11_sound_12 : decode cX11_sound 12 = .ok (.ireturn, 1) := by decide +kernel
theorem dX11_sound_13 : decode cX11_sound 13 = .ok (.aload_n 0, 1) := by decide +kernel
theorem dX11_sound_14 : decode cX11_sound 14 = .ok (.getfield 30, 3) := by decide +kernel
theorem dX11_sound_17 : decode cX11_sound 17 = .ok (.iload_n 1, 1) := by decide +kernel
theorem dX11_sound_18 : decode cX11_sound 18 = .ok (.invokevirtual 182, 3) := by decide +kernel
theorem dX11_sound_21 : decode cX11_sound 21 = .ok (.invokestatic 69, 3) := by decide +kernel
theorem dX11_sound_24 : decode cX11_sound 24 = .ok (.ireturn, 1) := by decide +kernel
theorem dX11_gain_0 : decode cX11_gain 0 = .ok (.aload_n 0, 1) := by decide +kernel
theorem dX11_gain_1 : decode cX11_gain 1 = .ok (.getfield 30, 3) := by decide +kernel
theorem dX11_gain_4 : decode cX11_gain 4 = .ok (.iload_n 1, 1) := by decide +kernel
theorem dX11_gain_5 : decode cX11_gain 5 = .ok (.invokevirtual 154, 3) := by decide +kernel
theorem dX11_gain_8 : decode cX11_gain 8 = .ok (.ifnull 22, 3) := by decide +kernel
theorem dX11_gain_11 : decode cX11_gain 11 = .ok (.aload_n 0, 1) := by decide +kernel
theorem dX11_gain_12 : decode cX11_gain 12 = .ok (.getfield 30, 3) := by decide +kernel
theorem dX11_gain_15 : decode cX11_gain 15 = .ok (.iload_n 2, 1) := by decide +kernel
theorem dX11_gain_16 : decode cX11_gain 16 = .ok (.invokevirtual 176, 3) := by decide +kernel
theorem dX11_gain_19 : decode cX11_gain 19 = .ok (.ifCond .eq 11, 3) := by decide +kernel
theorem dX11_gain_22 : decode cX11_gain 22 = .ok (.iload_n 2, 1) := by decide +kernel
theorem dX11_gain_23 : decode cX11_gain 23 = .ok (.iload_n 1, 1) := by decide +kernel
theorem dX11_gain_24 : decode cX11_gain 24 = .ok (.invokestatic 65, 3) := by decide +kernel
theorem dX11_gain_27 : decode cX11_gain 27 = .ok (.ifCond .eq 6, 3) := by decide +kernel
theorem dX11_gain_30 : decode cX11_gain 30 = .ok (.ldc 185, 2) := by decide +kernel
theorem dX11_gain_32 : decode cX11_gain 32 = .ok (.ireturn, 1) := by decide +kernel
theorem dX11_gain_33 : decode cX11_gain 33 = .ok (.aload_n 0, 1) := by decide +kernel
theorem dX11_gain_34 : decode cX11_gain 34 = .ok (.getfield 30, 3) := by decide +kernel
theorem dX11_gain_37 : decode cX11_gain 37 = .ok (.iload_n 2, 1) := by decide +kernel
theorem dX11_gain_38 : decode cX11_gain 38 = .ok (.invokevirtual 179, 3) := by decide +kernel
theorem dX11_gain_41 : decode cX11_gain 41 = .ok (.aload_n 0, 1) := by decide +kernel
theorem dX11_gain_42 : decode cX11_gain 42 = .ok (.getfield 30, 3) := by decide +kernel
theorem dX11_gain_45 : decode cX11_gain 45 = .ok (.iload_n 2, 1) := by decide +kernel
theorem dX11_gain_46 : decode cX11_gain 46 = .ok (.iload_n 1, 1) := by decide +kernel
theorem dX11_gain_47 : decode cX11_gain 47 = .ok (.invokestatic 146, 3) := by decide +kernel
theorem dX11_gain_50 : decode cX11_gain 50 = .ok (.ior, 1) := by decide +kernel
theorem dX11_gain_51 : decode cX11_gain 51 = .ok (.invokevirtual 179, 3) := by decide +kernel
theorem dX11_gain_54 : decode cX11_gain 54 = .ok (.isub, 1) := by decide +kernel
theorem dX11_gain_55 : decode cX11_gain 55 = .ok (.ireturn, 1) := by decide +kernel
theorem dX11_next_0 : decode cX11_next 0 = .ok (.aload_n 0, 1) := by decide +kernel
theorem dX11_next_1 : decode cX11_next 1 = .ok (.getfield 30, 3) := by decide +kernel
theorem dX11_next_4 : decode cX11_next 4 = .ok (.iload_n 1, 1) := by decide +kernel
theorem dX11_next_5 : decode cX11_next 5 = .ok (.invokevirtual 176, 3) := by decide +kernel
theorem dX11_next_8 : decode cX11_next 8 = .ok (.ifCond .ne 5, 3) := by decide +kernel
theorem dX11_next_11 : decode cX11_next 11 = .ok (.iconst (-1), 1) := by decide +kernel
theorem dX11_next_12 : decode cX11_next 12 = .ok (.ireturn, 1) := by decide +kernel
theorem dX11_next_13 : decode cX11_next 13 = .ok (.aload_n 0, 1) := by decide +kernel
theorem dX11_next_14 : decode cX11_next 14 = .ok (.getfield 30, 3) := by decide +kernel
theorem dX11_next_17 : decode cX11_next 17 = .ok (.iload_n 1, 1) := by decide +kernel
theorem dX11_next_18 : decode cX11_next 18 = .ok (.invokevirtual 179, 3) := by decide +kernel
theorem dX11_next_21 : decode cX11_next 21 = .ok (.istore_n 2, 1) := by decide +kernel
theorem dX11_next_22 : decode cX11_next 22 = .ok (.bipush (-4), 2) := by decide +kernel
theorem dX11_next_24 : decode cX11_next 24 = .ok (.istore_n 3, 1) := by decide +kernel
theorem dX11_next_25 : decode cX11_next 25 = .ok (.iconst 0, 1) := by decide +kernel
theorem dX11_next_26 : decode cX11_next 26 = .ok (.istore 4, 2) := by decide +kernel
theorem dX11_next_28 : decode cX11_next 28 = .ok (.iconst 1, 1) := by decide +kernel
theorem dX11_next_29 : decode cX11_next 29 = .ok (.istore 5, 2) := by decide +kernel
theorem dX11_next_31 : decode cX11_next 31 = .ok (.iconst 0, 1) := by decide +kernel
theorem dX11_next_32 : decode cX11_next 32 = .ok (.istore 6, 2) := by decide +kernel
theorem dX11_next_34 : decode cX11_next 34 = .ok (.iload 6, 2) := by decide +kernel
theorem dX11_next_36 : decode cX11_next 36 = .ok (.aload_n 0, 1) := by decide +kernel
theorem dX11_next_37 : decode cX11_next 37 = .ok (.getfield 30, 3) := by decide +kernel
theorem dX11_next_40 : decode cX11_next 40 = .ok (.getfield 186, 3) := by decide +kernel
theorem dX11_next_43 : decode cX11_next 43 = .ok (.if_icmp .ge 102, 3) := by decide +kernel
theorem dX11_next_46 : decode cX11_next 46 = .ok (.aload_n 0, 1) := by decide +kernel
theorem dX11_next_47 : decode cX11_next 47 = .ok (.getfield 30, 3) := by decide +kernel
theorem dX11_next_50 : decode cX11_next 50 = .ok (.iload 6, 2) := by decide +kernel
theorem dX11_next_52 : decode cX11_next 52 = .ok (.invokevirtual 154, 3) := by decide +kernel
theorem dX11_next_55 : decode cX11_next 55 = .ok (.astore 7, 2) := by decide +kernel
theorem dX11_next_57 : decode cX11_next 57 = .ok (.aload 7, 2) := by decide +kernel
theorem dX11_next_59 : decode cX11_next 59 = .ok (.ifnull 80, 3) := by decide +kernel
theorem dX11_next_62 : decode cX11_next 62 = .ok (.iload_n 1, 1) := by decide +kernel
theorem dX11_next_63 : decode cX11_next 63 = .ok (.iload 6, 2) := by decide +kernel
theorem dX11_next_65 : decode cX11_next 65 = .ok (.invokestatic 65, 3) := by decide +kernel
theorem dX11_next_68 : decode cX11_next 68 = .ok (.ifCond .ne 71, 3) := by decide +kernel
theorem dX11_next_71 : decode cX11_next 71 = .ok (.aload_n 0, 1) := by decide +kernel
theorem dX11_next_72 : decode cX11_next 72 = .ok (.getfield 30, 3) := by decide +kernel
theorem dX11_next_75 : decode cX11_next 75 = .ok (.iload_n 1, 1) := by decide +kernel
theorem dX11_next_76 : decode cX11_next 76 = .ok (.iload 6, 2) := by decide +kernel
theorem dX11_next_78 : decode cX11_next 78 = .ok (.invokestatic 146, 3) := by decide +kernel
theorem dX11_next_81 : decode cX11_next 81 = .ok (.ior, 1) := by decide +kernel
theorem dX11_next_82 : decode cX11_next 82 = .ok (.invokevirtual 182, 3) := by decide +kernel
theorem dX11_next_85 : decode cX11_next 85 = .ok (.ifCond .ne 6, 3) := by decide +kernel
theorem dX11_next_88 : decode cX11_next 88 = .ok (.goto 51, 3) := by decide +kernel
theorem dX11_next_91 : decode cX11_next 91 = .ok (.iload_n 2, 1) := by decide +kernel
theorem dX11_next_92 : decode cX11_next 92 = .ok (.aload_n 0, 1) := by decide +kernel
theorem dX11_next_93 : decode cX11_next 93 = .ok (.getfield 30, 3) := by decide +kernel
theorem dX11_next_96 : decode cX11_next 96 = .ok (.iload_n 1, 1) := by decide +kernel
theorem dX11_next_97 : decode cX11_next 97 = .ok (.iload 6, 2) := by decide +kernel
theorem dX11_next_99 : decode cX11_next 99 = .ok (.invokestatic 146, 3) := by decide +kernel
theorem dX11_next_102 : decode cX11_next 102 = .ok (.ior, 1) := by decide +kernel
theorem dX11_next_103 : decode cX11_next 103 = .ok (.invokevirtual 179, 3) := by decide +kernel
theorem dX11_next_106 : decode cX11_next 106 = .ok (.isub, 1) := by decide +kernel
theorem dX11_next_107 : decode cX11_next 107 = .ok (.istore 8, 2) := by decide +kernel
theorem dX11_next_109 : decode cX11_next 109 = .ok (.iload 8, 2) := by decide +kernel
theorem dX11_next_111 : decode cX11_next 111 = .ok (.iload 5, 2) := by decide +kernel
theorem dX11_next_113 : decode cX11_next 113 = .ok (.imul, 1) := by decide +kernel
theorem dX11_next_114 : decode cX11_next 114 = .ok (.iload 4, 2) := by decide +kernel
theorem dX11_next_116 : decode cX11_next 116 = .ok (.aload 7, 2) := by decide +kernel
theorem dX11_next_118 : decode cX11_next 118 = .ok (.getfield 189, 3) := by decide +kernel
theorem dX11_next_121 : decode cX11_next 121 = .ok (.imul, 1) := by decide +kernel
theorem dX11_next_122 : decode cX11_next 122 = .ok (.if_icmp .le 17, 3) := by decide +kernel
theorem dX11_next_125 : decode cX11_next 125 = .ok (.iload 6, 2) := by decide +kernel
theorem dX11_next_127 : decode cX11_next 127 = .ok (.istore_n 3, 1) := by decide +kernel
theorem dX11_next_128 : decode cX11_next 128 = .ok (.iload 8, 2) := by decide +kernel
theorem dX11_next_130 : decode cX11_next 130 = .ok (.istore 4, 2) := by decide +kernel
theorem dX11_next_132 : decode cX11_next 132 = .ok (.aload 7, 2) := by decide +kernel
theorem dX11_next_134 : decode cX11_next 134 = .ok (.getfield 189, 3) := by decide +kernel
theorem dX11_next_137 : decode cX11_next 137 = .ok (.istore 5, 2) := by decide +kernel
theorem dX11_next_139 : decode cX11_next 139 = .ok (.iinc 6 1, 3) := by decide +kernel
theorem dX11_next_142 : decode cX11_next 142 = .ok (.goto (-108), 3) := by decide +kernel
theorem dX11_next_145 : decode cX11_next 145 = .ok (.iload_n 3, 1) := by decide +kernel
theorem dX11_next_146 : decode cX11_next 146 = .ok (.ireturn, 1) := by decide +kernel
theorem dX11_plan_0 : decode cX11_plan 0 = .ok (.iload_n 1, 1) := by decide +kernel
theorem dX11_plan_1 : decode cX11_plan 1 = .ok (.iconst 1, 1) := by decide +kernel
theorem dX11_plan_2 : decode cX11_plan 2 = .ok (.bipush 6, 2) := by decide +kernel
theorem dX11_plan_4 : decode cX11_plan 4 = .ok (.invokestatic 47, 3) := by decide +kernel
theorem dX11_plan_7 : decode cX11_plan 7 = .ok (.ifCond .eq 13, 3) := by decide +kernel
theorem dX11_plan_10 : decode cX11_plan 10 = .ok (.iload_n 2, 1) := by decide +kernel
theorem dX11_plan_11 : decode cX11_plan 11 = .ok (.iconst 0, 1) := by decide +kernel
theorem dX11_plan_12 : decode cX11_plan 12 = .ok (.bipush 99, 2) := by decide +kernel
theorem dX11_plan_14 : decode cX11_plan 14 = .ok (.invokestatic 47, 3) := by decide +kernel
theorem dX11_plan_17 : decode cX11_plan 17 = .ok (.ifCond .ne 5, 3) := by decide +kernel
theorem dX11_plan_20 : decode cX11_plan 20 = .ok (.iconst (-1), 1) := by decide +kernel
theorem dX11_plan_21 : decode cX11_plan 21 = .ok (.ireturn, 1) := by decide +kernel
theorem dX11_plan_22 : decode cX11_plan 22 = .ok (.aload_n 0, 1) := by decide +kernel
theorem dX11_plan_23 : decode cX11_plan 23 = .ok (.getfield 30, 3) := by decide +kernel
theorem dX11_plan_26 : decode cX11_plan 26 = .ok (.iconst 0, 1) := by decide +kernel
theorem dX11_plan_27 : decode cX11_plan 27 = .ok (.invokevirtual 182, 3) := by decide +kernel
theorem dX11_plan_30 : decode cX11_plan 30 = .ok (.ifCond .ne 6, 3) := by decide +kernel
theorem dX11_plan_33 : decode cX11_plan 33 = .ok (.bipush (-2), 2) := by decide +kernel
theorem dX11_plan_35 : decode cX11_plan 35 = .ok (.ireturn, 1) := by decide +kernel
theorem dX11_plan_36 : decode cX11_plan 36 = .ok (.aload_n 0, 1) := by decide +kernel
theorem dX11_plan_37 : decode cX11_plan 37 = .ok (.getfield 39, 3) := by decide +kernel
theorem dX11_plan_40 : decode cX11_plan 40 = .ok (.iload_n 1, 1) := by decide +kernel
theorem dX11_plan_41 : decode cX11_plan 41 = .ok (.iload_n 2, 1) := by decide +kernel
theorem dX11_plan_42 : decode cX11_plan 42 = .ok (.invokevirtual 192, 3) := by decide +kernel
theorem dX11_plan_45 : decode cX11_plan 45 = .ok (.aload_n 0, 1) := by decide +kernel
theorem dX11_plan_46 : decode cX11_plan 46 = .ok (.getfield 39, 3) := by decide +kernel
theorem dX11_plan_49 : decode cX11_plan 49 = .ok (.iload_n 1, 1) := by decide +kernel
theorem dX11_plan_50 : decode cX11_plan 50 = .ok (.invokevirtual 196, 3) := by decide +kernel
theorem dX11_plan_53 : decode cX11_plan 53 = .ok (.aload_n 0, 1) := by decide +kernel
theorem dX11_plan_54 : decode cX11_plan 54 = .ok (.getfield 39, 3) := by decide +kernel
theorem dX11_plan_57 : decode cX11_plan 57 = .ok (.iload_n 1, 1) := by decide +kernel
theorem dX11_plan_58 : decode cX11_plan 58 = .ok (.invokevirtual 200, 3) := by decide +kernel
theorem dX11_plan_61 : decode cX11_plan 61 = .ok (.aload_n 0, 1) := by decide +kernel
theorem dX11_plan_62 : decode cX11_plan 62 = .ok (.getfield 39, 3) := by decide +kernel
theorem dX11_plan_65 : decode cX11_plan 65 = .ok (.invokevirtual 203, 3) := by decide +kernel
theorem dX11_plan_68 : decode cX11_plan 68 = .ok (.ireturn, 1) := by decide +kernel
theorem dX11_week_0 : decode cX11_week 0 = .ok (.aload_n 0, 1) := by decide +kernel
theorem dX11_week_1 : decode cX11_week 1 = .ok (.getfield 30, 3) := by decide +kernel
theorem dX11_week_4 : decode cX11_week 4 = .ok (.iload_n 1, 1) := by decide +kernel
theorem dX11_week_5 : decode cX11_week 5 = .ok (.invokevirtual 154, 3) := by decide +kernel
theorem dX11_week_8 : decode cX11_week 8 = .ok (.ifnonnull 5, 3) := by decide +kernel
theorem dX11_week_11 : decode cX11_week 11 = .ok (.iconst (-1), 1) := by decide +kernel
theorem dX11_week_12 : decode cX11_week 12 = .ok (.ireturn, 1) := by decide +kernel
theorem dX11_week_13 : decode cX11_week 13 = .ok (.aload_n 0, 1) := by decide +kernel
theorem dX11_week_14 : decode cX11_week 14 = .ok (.getfield 39, 3) := by decide +kernel
theorem dX11_week_17 : decode cX11_week 17 = .ok (.getfield 206, 3) := by decide +kernel
theorem dX11_week_20 : decode cX11_week 20 = .ok (.iload_n 1, 1) := by decide +kernel
theorem dX11_week_21 : decode cX11_week 21 = .ok (.iaload, 1) := by decide +kernel
theorem dX11_week_22 : decode cX11_week 22 = .ok (.ireturn, 1) := by decide +kernel
theorem dX11_moved_0 : decode cX11_moved 0 = .ok (.aload_n 0, 1) := by decide +kernel
theorem dX11_moved_1 : decode cX11_moved 1 = .ok (.getfield 39, 3) := by decide +kernel
theorem dX11_moved_4 : decode cX11_moved 4 = .ok (.getfield 209, 3) := by decide +kernel
theorem dX11_moved_7 : decode cX11_moved 7 = .ok (.iconst 2, 1) := by decide +kernel
theorem dX11_moved_8 : decode cX11_moved 8 = .ok (.if_icmp .ge 8, 3) := by decide +kernel
theorem dX11_moved_11 : decode cX11_moved 11 = .ok (.bipush (-4), 2) := by decide +kernel
theorem dX11_moved_13 : decode cX11_moved 13 = .ok (.goto 10, 3) := by decide +kernel
theorem dX11_moved_16 : decode cX11_moved 16 = .ok (.aload_n 0, 1) := by decide +kernel
theorem dX11_moved_17 : decode cX11_moved 17 = .ok (.getfield 39, 3) := by decide +kernel
theorem dX11_moved_20 : decode cX11_moved 20 = .ok (.getfield 212, 3) := by decide +kernel
theorem dX11_moved_23 : decode cX11_moved 23 = .ok (.ireturn, 1) := by decide +kernel
theorem dX11_make_0 : decode cX11_make 0 = .ok (.aload_n 0, 1) := by decide +kernel
theorem dX11_make_1 : decode cX11_make 1 = .ok (.getfield 30, 3) := by decide +kernel
theorem dX11_make_4 : decode cX11_make 4 = .ok (.iload_n 1, 1) := by decide +kernel
theorem dX11_make_5 : decode cX11_make 5 = .ok (.invokevirtual 154, 3) := by decide +kernel
theorem dX11_make_8 : decode cX11_make 8 = .ok (.astore_n 2, 1) := by decide +kernel
theorem dX11_make_9 : decode cX11_make 9 = .ok (.aload_n 2, 1) := by decide +kernel
theorem dX11_make_10 : decode cX11_make 10 = .ok (.ifnonnull 5, 3) := by decide +kernel
theorem dX11_make_13 : decode cX11_make 13 = .ok (.iconst (-1), 1) := by decide +kernel
theorem dX11_make_14 : decode cX11_make 14 = .ok (.ireturn, 1) := by decide +kernel
theorem dX11_make_15 : decode cX11_make 15 = .ok (.aload_n 0, 1) := by decide +kernel
theorem dX11_make_16 : decode cX11_make 16 = .ok (.getfield 30, 3) := by decide +kernel
theorem dX11_make_19 : decode cX11_make 19 = .ok (.aload_n 2, 1) := by decide +kernel
theorem dX11_make_20 : decode cX11_make 20 = .ok (.invokevirtual 215, 3) := by decide +kernel
theorem dX11_make_23 : decode cX11_make 23 = .ok (.ifCond .eq 17, 3) := by decide +kernel
theorem dX11_make_26 : decode cX11_make 26 = .ok (.aload_n 0, 1) := by decide +kernel
theorem dX11_make_27 : decode cX11_make 27 = .ok (.getfield 30, 3) := by decide +kernel
theorem dX11_make_30 : decode cX11_make 30 = .ok (.iload_n 1, 1) := by decide +kernel
theorem dX11_make_31 : decode cX11_make 31 = .ok (.invokestatic 146, 3) := by decide +kernel
theorem dX11_make_34 : decode cX11_make 34 = .ok (.invokevirtual 219, 3) := by decide +kernel
theorem dX11_make_37 : decode cX11_make 37 = .ok (.ifCond .eq 6, 3) := by decide +kernel
theorem dX11_make_40 : decode cX11_make 40 = .ok (.bipush (-2), 2) := by decide +kernel
theorem dX11_make_42 : decode cX11_make 42 = .ok (.ireturn, 1) := by decide +kernel
theorem dX11_make_43 : decode cX11_make 43 = .ok (.aload_n 0, 1) := by decide +kernel
theorem dX11_make_44 : decode cX11_make 44 = .ok (.invokevirtual 128, 3) := by decide +kernel
theorem dX11_make_47 : decode cX11_make 47 = .ok (.istore_n 3, 1) := by decide +kernel
theorem dX11_make_48 : decode cX11_make 48 = .ok (.aload_n 0, 1) := by decide +kernel
theorem dX11_make_49 : decode cX11_make 49 = .ok (.getfield 12, 3) := by decide +kernel
theorem dX11_make_52 : decode cX11_make 52 = .ok (.getfield 77, 3) := by decide +kernel
theorem dX11_make_55 : decode cX11_make 55 = .ok (.aload_n 2, 1) := by decide +kernel
theorem dX11_make_56 : decode cX11_make 56 = .ok (.getfield 222, 3) := by decide +kernel
theorem dX11_make_59 : decode cX11_make 59 = .ok (.aload_n 0, 1) := by decide +kernel
theorem dX11_make_60 : decode cX11_make 60 = .ok (.getfield 12, 3) := by decide +kernel
theorem dX11_make_63 : decode cX11_make 63 = .ok (.getfield 77, 3) := by decide +kernel
theorem dX11_make_66 : decode cX11_make 66 = .ok (.aload_n 2, 1) := by decide +kernel
theorem dX11_make_67 : decode cX11_make 67 = .ok (.getfield 222, 3) := by decide +kernel
theorem dX11_make_70 : decode cX11_make 70 = .ok (.iaload, 1) := by decide +kernel
theorem dX11_make_71 : decode cX11_make 71 = .ok (.aload_n 2, 1) := by decide +kernel
theorem dX11_make_72 : decode cX11_make 72 = .ok (.getfield 223, 3) := by decide +kernel
theorem dX11_make_75 : decode cX11_make 75 = .ok (.invokestatic 226, 3) := by decide +kernel
theorem dX11_make_78 : decode cX11_make 78 = .ok (.iastore, 1) := by decide +kernel
theorem dX11_make_79 : decode cX11_make 79 = .ok (.iload_n 3, 1) := by decide +kernel
theorem dX11_make_80 : decode cX11_make 80 = .ok (.aload_n 0, 1) := by decide +kernel
theorem dX11_make_81 : decode cX11_make 81 = .ok (.invokevirtual 128, 3) := by decide +kernel
theorem dX11_make_84 : decode cX11_make 84 = .ok (.isub, 1) := by decide +kernel
theorem dX11_make_85 : decode cX11_make 85 = .ok (.ldc 232, 2) := by decide +kernel
theorem dX11_make_87 : decode cX11_make 87 = .ok (.iadd, 1) := by decide +kernel
theorem dX11_make_88 : decode cX11_make 88 = .ok (.ireturn, 1) := by decide +kernel
theorem dX11_count_0 : decode cX11_count 0 = .ok (.iload_n 1, 1) := by decide +kernel
theorem dX11_count_1 : decode cX11_count 1 = .ok (.tableswitch 103 0 5 #[39, 47, 55, 63, 71, 87], 39) := by decide +kernel
theorem dX11_count_40 : decode cX11_count 40 = .ok (.aload_n 0, 1) := by decide +kernel
theorem dX11_count_41 : decode cX11_count 41 = .ok (.getfield 12, 3) := by decide +kernel
theorem dX11_count_44 : decode cX11_count 44 = .ok (.getfield 143, 3) := by decide +kernel
theorem dX11_count_47 : decode cX11_count 47 = .ok (.ireturn, 1) := by decide +kernel
theorem dX11_count_48 : decode cX11_count 48 = .ok (.aload_n 0, 1) := by decide +kernel
theorem dX11_count_49 : decode cX11_count 49 = .ok (.getfield 12, 3) := by decide +kernel
theorem dX11_count_52 : decode cX11_count 52 = .ok (.getfield 233, 3) := by decide +kernel
theorem dX11_count_55 : decode cX11_count 55 = .ok (.ireturn, 1) := by decide +kernel
theorem dX11_count_56 : decode cX11_count 56 = .ok (.aload_n 0, 1) := by decide +kernel
theorem dX11_count_57 : decode cX11_count 57 = .ok (.getfield 30, 3) := by decide +kernel
theorem dX11_count_60 : decode cX11_count 60 = .ok (.getfield 186, 3) := by decide +kernel
theorem dX11_count_63 : decode cX11_count 63 = .ok (.ireturn, 1) := by decide +kernel
theorem dX11_count_64 : decode cX11_count 64 = .ok (.aload_n 0, 1) := by decide +kernel
theorem dX11_count_65 : decode cX11_count 65 = .ok (.getfield 30, 3) := by decide +kernel
theorem dX11_count_68 : decode cX11_count 68 = .ok (.getfield 236, 3) := by decide +kernel
theorem dX11_count_71 : decode cX11_count 71 = .ok (.ireturn, 1) := by decide +kernel
theorem dX11_count_72 : decode cX11_count 72 = .ok (.aload_n 0, 1) := by decide +kernel
theorem dX11_count_73 : decode cX11_count 73 = .ok (.invokevirtual 128, 3) := by decide +kernel
theorem dX11_count_76 : decode cX11_count 76 = .ok (.pop, 1) := by decide +kernel
theorem dX11_count_77 : decode cX11_count 77 = .ok (.aload_n 0, 1) := by decide +kernel
theorem dX11_count_78 : decode cX11_count 78 = .ok (.getfield 21, 3) := by decide +kernel
theorem dX11_count_81 : decode cX11_count 81 = .ok (.getfield 239, 3) := by decide +kernel
theorem dX11_count_84 : decode cX11_count 84 = .ok (.invokestatic 242, 3) := by decide +kernel
theorem dX11_count_87 : decode cX11_count 87 = .ok (.ireturn, 1) := by decide +kernel
theorem dX11_count_88 : decode cX11_count 88 = .ok (.aload_n 0, 1) := by decide +kernel
theorem dX11_count_89 : decode cX11_count 89 = .ok (.invokevirtual 128, 3) := by decide +kernel
theorem dX11_count_92 : decode cX11_count 92 = .ok (.pop, 1) := by decide +kernel
theorem dX11_count_93 : decode cX11_count 93 = .ok (.aload_n 0, 1) := by decide +kernel
theorem dX11_count_94 : decode cX11_count 94 = .ok (.getfield 21, 3) := by decide +kernel
theorem dX11_count_97 : decode cX11_count 97 = .ok (.getfield 131, 3) := by decide +kernel
theorem dX11_count_100 : decode cX11_count 100 = .ok (.invokestatic 242, 3) := by decide +kernel
theorem dX11_count_103 : decode cX11_count 103 = .ok (.ireturn, 1) := by decide +kernel
theorem dX11_count_104 : decode cX11_count 104 = .ok (.iconst (-1), 1) := by decide +kernel
theorem dX11_count_105 : decode cX11_count 105 = .ok (.ireturn, 1) := by decide +kernel
theorem dX11_spreadNow_0 : decode cX11_spreadNow 0 = .ok (.aload_n 0, 1) := by decide +kernel
theorem dX11_spreadNow_1 : decode cX11_spreadNow 1 = .ok (.getfield 21, 3) := by decide +kernel
theorem dX11_spreadNow_4 : decode cX11_spreadNow 4 = .ok (.aload_n 0, 1) := by decide +kernel
theorem dX11_spreadNow_5 : decode cX11_spreadNow 5 = .ok (.getfield 12, 3) := by decide +kernel
theorem dX11_spreadNow_8 : decode cX11_spreadNow 8 = .ok (.getfield 77, 3) := by decide +kernel
theorem dX11_spreadNow_11 : decode cX11_spreadNow 11 = .ok (.aload_n 0, 1) := by decide +kernel
theorem dX11_spreadNow_12 : decode cX11_spreadNow 12 = .ok (.getfield 12, 3) := by decide +kernel
theorem dX11_spreadNow_15 : decode cX11_spreadNow 15 = .ok (.getfield 73, 3) := by decide +kernel
theorem dX11_spreadNow_18 : decode cX11_spreadNow 18 = .ok (.invokevirtual 150, 3) := by decide +kernel
theorem dX11_spreadNow_21 : decode cX11_spreadNow 21 = .ok (.ireturn, 1) := by decide +kernel
theorem dX11_isBetween_0 : decode cX11_isBetween 0 = .ok (.iload_n 1, 1) := by decide +kernel
theorem dX11_isBetween_1 : decode cX11_isBetween 1 = .ok (.iload_n 0, 1) := by decide +kernel
theorem dX11_isBetween_2 : decode cX11_isBetween 2 = .ok (.if_icmp .gt 12, 3) := by decide +kernel
theorem dX11_isBetween_5 : decode cX11_isBetween 5 = .ok (.iload_n 0, 1) := by decide +kernel
theorem dX11_isBetween_6 : decode cX11_isBetween 6 = .ok (.iload_n 2, 1) := by decide +kernel
theorem dX11_isBetween_7 : decode cX11_isBetween 7 = .ok (.if_icmp .gt 7, 3) := by decide +kernel
theorem dX11_isBetween_10 : decode cX11_isBetween 10 = .ok (.iconst 1, 1) := by decide +kernel
theorem dX11_isBetween_11 : decode cX11_isBetween 11 = .ok (.goto 4, 3) := by decide +kernel
theorem dX11_isBetween_14 : decode cX11_isBetween 14 = .ok (.iconst 0, 1) := by decide +kernel
theorem dX11_isBetween_15 : decode cX11_isBetween 15 = .ok (.ireturn, 1) := by decide +kernel
theorem dX11_isVersion_0 : decode cX11_isVersion 0 = .ok (.iload_n 0, 1) := by decide +kernel
theorem dX11_isVersion_1 : decode cX11_isVersion 1 = .ok (.iconst 1, 1) := by decide +kernel
theorem dX11_isVersion_2 : decode cX11_isVersion 2 = .ok (.bipush 9, 2) := by decide +kernel
theorem dX11_isVersion_4 : decode cX11_isVersion 4 = .ok (.invokestatic 47, 3) := by decide +kernel
theorem dX11_isVersion_7 : decode cX11_isVersion 7 = .ok (.ireturn, 1) := by decide +kernel
theorem dX11_isSpan_0 : decode cX11_isSpan 0 = .ok (.iload_n 0, 1) := by decide +kernel
theorem dX11_isSpan_1 : decode cX11_isSpan 1 = .ok (.invokestatic 43, 3) := by decide +kernel
theorem dX11_isSpan_4 : decode cX11_isSpan 4 = .ok (.ifCond .eq 19, 3) := by decide +kernel
theorem dX11_isSpan_7 : decode cX11_isSpan 7 = .ok (.iload_n 1, 1) := by decide +kernel
theorem dX11_isSpan_8 : decode cX11_isSpan 8 = .ok (.invokestatic 43, 3) := by decide +kernel
theorem dX11_isSpan_11 : decode cX11_isSpan 11 = .ok (.ifCond .eq 12, 3) := by decide +kernel
theorem dX11_isSpan_14 : decode cX11_isSpan 14 = .ok (.iload_n 0, 1) := by decide +kernel
theorem dX11_isSpan_15 : decode cX11_isSpan 15 = .ok (.iload_n 1, 1) := by decide +kernel
theorem dX11_isSpan_16 : decode cX11_isSpan 16 = .ok (.if_icmp .gt 7, 3) := by decide +kernel
theorem dX11_isSpan_19 : decode cX11_isSpan 19 = .ok (.iconst 1, 1) := by decide +kernel
theorem dX11_isSpan_20 : decode cX11_isSpan 20 = .ok (.goto 4, 3) := by decide +kernel
theorem dX11_isSpan_23 : decode cX11_isSpan 23 = .ok (.iconst 0, 1) := by decide +kernel
theorem dX11_isSpan_24 : decode cX11_isSpan 24 = .ok (.ireturn, 1) := by decide +kernel
theorem dX11_asNumber_0 : decode cX11_asNumber 0 = .ok (.iload_n 0, 1) := by decide +kernel
theorem dX11_asNumber_1 : decode cX11_asNumber 1 = .ok (.ifCond .eq 7, 3) := by decide +kernel
theorem dX11_asNumber_4 : decode cX11_asNumber 4 = .ok (.iconst 1, 1) := by decide +kernel
theorem dX11_asNumber_5 : decode cX11_asNumber 5 = .ok (.goto 4, 3) := by decide +kernel
theorem dX11_asNumber_8 : decode cX11_asNumber 8 = .ok (.iconst 0, 1) := by decide +kernel
theorem dX11_asNumber_9 : decode cX11_asNumber 9 = .ok (.ireturn, 1) := by decide +kernel
theorem dX11_bit_0 : decode cX11_bit 0 = .ok (.iconst 1, 1) := by decide +kernel
theorem dX11_bit_1 : decode cX11_bit 1 = .ok (.iload_n 0, 1) := by decide +kernel
theorem dX11_bit_2 : decode cX11_bit 2 = .ok (.ishl, 1) := by decide +kernel
theorem dX11_bit_3 : decode cX11_bit 3 = .ok (.ireturn, 1) := by decide +kernel
theorem dX11_isIn_0 : decode cX11_isIn 0 = .ok (.iload_n 0, 1) := by decide +kernel
theorem dX11_isIn_1 : decode cX11_isIn 1 = .ok (.iconst 1, 1) := by decide +kernel
theorem dX11_isIn_2 : decode cX11_isIn 2 = .ok (.iload_n 1, 1) := by decide +kernel
theorem dX11_isIn_3 : decode cX11_isIn 3 = .ok (.ishl, 1) := by decide +kernel
theorem dX11_isIn_4 : decode cX11_isIn 4 = .ok (.iand, 1) := by decide +kernel
theorem dX11_isIn_5 : decode cX11_isIn 5 = .ok (.ifCond .eq 7, 3) := by decide +kernel
theorem dX11_isIn_8 : decode cX11_isIn 8 = .ok (.iconst 1, 1) := by decide +kernel
theorem dX11_isIn_9 : decode cX11_isIn 9 = .ok (.goto 4, 3) := by decide +kernel
theorem dX11_isIn_12 : decode cX11_isIn 12 = .ok (.iconst 0, 1) := by decide +kernel
theorem dX11_isIn_13 : decode cX11_isIn 13 = .ok (.ireturn, 1) := by decide +kernel
theorem dX11_withMember_0 : decode cX11_withMember 0 = .ok (.iload_n 2, 1) := by decide +kernel
theorem dX11_withMember_1 : decode cX11_withMember 1 = .ok (.ifCond .eq 12, 3) := by decide +kernel
theorem dX11_withMember_4 : decode cX11_withMember 4 = .ok (.iload_n 0, 1) := by decide +kernel
theorem dX11_withMember_5 : decode cX11_withMember 5 = .ok (.iload_n 1, 1) := by decide +kernel
theorem dX11_withMember_6 : decode cX11_withMember 6 = .ok (.invokestatic 146, 3) := by decide +kernel
theorem dX11_withMember_9 : decode cX11_withMember 9 = .ok (.ior, 1) := by decide +kernel
theorem dX11_withMember_10 : decode cX11_withMember 10 = .ok (.goto 11, 3) := by decide +kernel
theorem dX11_withMember_13 : decode cX11_withMember 13 = .ok (.iload_n 0, 1) := by decide +kernel
theorem dX11_withMember_14 : decode cX11_withMember 14 = .ok (.iload_n 1, 1) := by decide +kernel
theorem dX11_withMember_15 : decode cX11_withMember 15 = .ok (.invokestatic 146, 3) := by decide +kernel
theorem dX11_withMember_18 : decode cX11_withMember 18 = .ok (.iconst (-1), 1) := by decide +kernel
theorem dX11_withMember_19 : decode cX11_withMember 19 = .ok (.ixor, 1) := by decide +kernel
theorem dX11_withMember_20 : decode cX11_withMember 20 = .ok (.iand, 1) := by decide +kernel
theorem dX11_withMember_21 : decode cX11_withMember 21 = .ok (.ireturn, 1) := by decide +kernel
theorem dX11_newHole_0 : decode cX11_newHole 0 = .ok (.iload_n 0, 1) := by decide +kernel
theorem dX11_newHole_1 : decode cX11_newHole 1 = .ok (.tableswitch 79 0 4 #[35, 79, 46, 57, 68], 35) := by decide +kernel
theorem dX11_newHole_36 : decode cX11_newHole 36 = .ok (.new 98, 3) := by decide +kernel
theorem dX11_newHole_39 : decode cX11_newHole 39 = .ok (.dup, 1) := by decide +kernel
theorem dX11_newHole_40 : decode cX11_newHole 40 = .ok (.iload_n 1, 1) := by decide +kernel
theorem dX11_newHole_41 : decode cX11_newHole 41 = .ok (.iload_n 2, 1) := by decide +kernel
theorem dX11_newHole_42 : decode cX11_newHole 42 = .ok (.iload_n 3, 1) := by decide +kernel
theorem dX11_newHole_43 : decode cX11_newHole 43 = .ok (.invokespecial 247, 3) := by decide +kernel
theorem dX11_newHole_46 : decode cX11_newHole 46 = .ok (.areturn, 1) := by decide +kernel
theorem dX11_newHole_47 : decode cX11_newHole 47 = .ok (.new 250, 3) := by decide +kernel
theorem dX11_newHole_50 : decode cX11_newHole 50 = .ok (.dup, 1) := by decide +kernel
theorem dX11_newHole_51 : decode cX11_newHole 51 = .ok (.iload_n 1, 1) := by decide +kernel
theorem dX11_newHole_52 : decode cX11_newHole 52 = .ok (.iload_n 2, 1) := by decide +kernel
theorem dX11_newHole_53 : decode cX11_newHole 53 = .ok (.iload_n 3, 1) := by decide +kernel
theorem dX11_newHole_54 : decode cX11_newHole 54 = .ok (.invokespecial 252, 3) := by decide +kernel
theorem dX11_newHole_57 : decode cX11_newHole 57 = .ok (.areturn, 1) := by decide +kernel
theorem dX11_newHole_58 : decode cX11_newHole 58 = .ok (.new 253, 3) := by decide +kernel
theorem dX11_newHole_61 : decode cX11_newHole 61 = .ok (.dup, 1) := by decide +kernel
theorem dX11_newHole_62 : decode cX11_newHole 62 = .ok (.iload_n 1, 1) := by decide +kernel
theorem dX11_newHole_63 : decode cX11_newHole 63 = .ok (.iload_n 2, 1) := by decide +kernel
theorem dX11_newHole_64 : decode cX11_newHole 64 = .ok (.iload_n 3, 1) := by decide +kernel
theorem dX11_newHole_65 : decode cX11_newHole 65 = .ok (.invokespecial 255, 3) := by decide +kernel
theorem dX11_newHole_68 : decode cX11_newHole 68 = .ok (.areturn, 1) := by decide +kernel
theorem dX11_newHole_69 : decode cX11_newHole 69 = .ok (.new 105, 3) := by decide +kernel
theorem dX11_newHole_72 : decode cX11_newHole 72 = .ok (.dup, 1) := by decide +kernel
theorem dX11_newHole_73 : decode cX11_newHole 73 = .ok (.iload_n 1, 1) := by decide +kernel
theorem dX11_newHole_74 : decode cX11_newHole 74 = .ok (.iload_n 2, 1) := by decide +kernel
theorem dX11_newHole_75 : decode cX11_newHole 75 = .ok (.iload_n 3, 1) := by decide +kernel
theorem dX11_newHole_76 : decode cX11_newHole 76 = .ok (.invokespecial 256, 3) := by decide +kernel
theorem dX11_newHole_79 : decode cX11_newHole 79 = .ok (.areturn, 1) := by decide +kernel
theorem dX11_newHole_80 : decode cX11_newHole 80 = .ok (.aconst_null, 1) := by decide +kernel
theorem dX11_newHole_81 : decode cX11_newHole 81 = .ok (.areturn, 1) := by decide +kernel
theorem dX12_init_0 : decode cX12_init 0 = .ok (.aload_n 0, 1) := by decide +kernel
theorem dX12_init_1 : decode cX12_init 1 = .ok (.invokespecial 1, 3) := by decide +kernel
theorem dX12_init_4 : decode cX12_init 4 = .ok (.aload_n 0, 1) := by decide +kernel
theorem dX12_init_5 : decode cX12_init 5 = .ok (.bipush 8, 2) := by decide +kernel
theorem dX12_init_7 : decode cX12_init 7 = .ok (.newarray .int, 2) := by decide +kernel
theorem dX12_init_9 : decode cX12_init 9 = .ok (.putfield 7, 3) := by decide +kernel
theorem dX12_init_12 : decode cX12_init 12 = .ok (.aload_n 0, 1) := by decide +kernel
theorem dX12_init_13 : decode cX12_init 13 = .ok (.bipush 8, 2) := by decide +kernel
theorem dX12_init_15 : decode cX12_init 15 = .ok (.newarray .int, 2) := by decide +kernel
theorem dX12_init_17 : decode cX12_init 17 = .ok (.putfield 13, 3) := by decide +kernel
theorem dX12_init_20 : decode cX12_init 20 = .ok (.aload_n 0, 1) := by decide +kernel
theorem dX12_init_21 : decode cX12_init 21 = .ok (.bipush 8, 2) := by decide +kernel
theorem dX12_init_23 : decode cX12_init 23 = .ok (.newarray .boolean, 2) := by decide +kernel
theorem dX12_init_25 : decode cX12_init 25 = .ok (.putfield 16, 3) := by decide +kernel
theorem dX12_init_28 : decode cX12_init 28 = .ok (.aload_n 0, 1) := by decide +kernel
theorem dX12_init_29 : decode cX12_init 29 = .ok (.bipush 8, 2) := by decide +kernel
theorem dX12_init_31 : decode cX12_init 31 = .ok (.newarray .boolean, 2) := by decide +kernel
theorem dX12_init_33 : decode cX12_init 33 = .ok (.putfield 20, 3) := by decide +kernel
theorem dX12_init_36 : decode cX12_init 36 = .ok (.aload_n 0, 1) := by decide +kernel
theorem dX12_init_37 : decode cX12_init 37 = .ok (.bipush 64, 2) := by decide +kernel
theorem dX12_init_39 : decode cX12_init 39 = .ok (.newarray .boolean, 2) := by decide +kernel
theorem dX12_init_41 : decode cX12_init 41 = .ok (.putfield 23, 3) := by decide +kernel
theorem dX12_init_44 : decode cX12_init 44 = .ok (.aload_n 0, 1) := by decide +kernel
theorem dX12_init_45 : decode cX12_init 45 = .ok (.bipush 12, 2) := by decide +kernel
theorem dX12_init_47 : decode cX12_init 47 = .ok (.newarray .int, 2) := by decide +kernel
theorem dX12_init_49 : decode cX12_init 49 = .ok (.putfield 26, 3) := by decide +kernel
theorem dX12_init_52 : decode cX12_init 52 = .ok (.aload_n 0, 1) := by decide +kernel
theorem dX12_init_53 : decode cX12_init 53 = .ok (.bipush 12, 2) := by decide +kernel
theorem dX12_init_55 : decode cX12_init 55 = .ok (.newarray .int, 2) := by decide +kernel
theorem dX12_init_57 : decode cX12_init 57 = .ok (.putfield 29, 3) := by decide +kernel
theorem dX12_init_60 : decode cX12_init 60 = .ok (.aload_n 0, 1) := by decide +kernel
theorem dX12_init_61 : decode cX12_init 61 = .ok (.bipush 12, 2) := by decide +kernel
theorem dX12_init_63 : decode cX12_init 63 = .ok (.newarray .int, 2) := by decide +kernel
theorem dX12_init_65 : decode cX12_init 65 = .ok (.putfield 32, 3) := by decide +kernel
theorem dX12_init_68 : decode cX12_init 68 = .ok (.aload_n 0, 1) := by decide +kernel
theorem dX12_init_69 : decode cX12_init 69 = .ok (.bipush 12, 2) := by decide +kernel
theorem dX12_init_71 : decode cX12_init 71 = .ok (.newarray .int, 2) := by decide +kernel
theorem dX12_init_73 : decode cX12_init 73 = .ok (.putfield 35, 3) := by decide +kernel
theorem dX12_init_76 : decode cX12_init 76 = .ok (.aload_n 0, 1) := by decide +kernel
theorem dX12_init_77 : decode cX12_init 77 = .ok (.bipush 12, 2) := by decide +kernel
theorem dX12_init_79 : decode cX12_init 79 = .ok (.newarray .int, 2) := by decide +kernel
theorem dX12_init_81 : decode cX12_init 81 = .ok (.putfield 38, 3) := by decide +kernel
theorem dX12_init_84 : decode cX12_init 84 = .ok (.aload_n 0, 1) := by decide +kernel
theorem dX12_init_85 : decode cX12_init 85 = .ok (.bipush 12, 2) := by decide +kernel
theorem dX12_init_87 : decode cX12_init 87 = .ok (.newarray .boolean, 2) := by decide +kernel
theorem dX12_init_89 : decode cX12_init 89 = .ok (.putfield 41, 3) := by decide +kernel
theorem dX12_init_92 : decode cX12_init 92 = .ok (.aload_n 0, 1) := by decide +kernel
theorem dX12_init_93 : decode cX12_init 93 = .ok (.bipush 8, 2) := by decide +kernel
theorem dX12_init_95 : decode cX12_init 95 = .ok (.newarray .int, 2) := by decide +kernel
theorem dX12_init_97 : decode cX12_init 97 = .ok (.putfield 44, 3) := by decide +kernel
theorem dX12_init_100 : decode cX12_init 100 = .ok (.aload_n 0, 1) := by decide +kernel
theorem dX12_init_101 : decode cX12_init 101 = .ok (.bipush 8, 2) := by decide +kernel
theorem dX12_init_103 : decode cX12_init 103 = .ok (.newarray .int, 2) := by decide +kernel
theorem dX12_init_105 : decode cX12_init 105 = .ok (.putfield 47, 3) := by decide +kernel
theorem dX12_init_108 : decode cX12_init 108 = .ok (.aload_n 0, 1) := by decide +kernel
theorem dX12_init_109 : decode cX12_init 109 = .ok (.bipush 8, 2) := by decide +kernel
theorem dX12_init_111 : decode cX12_init 111 = .ok (.newarray .int, 2) := by decide +kernel
theorem dX12_init_113 : decode cX12_init 113 = .ok (.putfield 50, 3) := by decide +kernel
theorem dX12_init_116 : decode cX12_init 116 = .ok (.aload_n 0, 1) := by decide +kernel
theorem dX12_init_117 : decode cX12_init 117 = .ok (.bipush 8, 2) := by decide +kernel
theorem dX12_init_119 : decode cX12_init 119 = .ok (.newarray .int, 2) := by decide +kernel
theorem dX12_init_121 : decode cX12_init 121 = .ok (.putfield 53, 3) := by decide +kernel
theorem dX12_init_124 : decode cX12_init 124 = .ok (.aload_n 0, 1) := by decide +kernel
theorem dX12_init_125 : decode cX12_init 125 = .ok (.bipush 8, 2) := by decide +kernel
theorem dX12_init_127 : decode cX12_init 127 = .ok (.newarray .int, 2) := by decide +kernel
theorem dX12_init_129 : decode cX12_init 129 = .ok (.putfield 56, 3) := by decide +kernel
theorem dX12_init_132 : decode cX12_init 132 = .ok (.aload_n 0, 1) := by decide +kernel
theorem dX12_init_133 : decode cX12_init 133 = .ok (.bipush 8, 2) := by decide +kernel
theorem dX12_init_135 : decode cX12_init 135 = .ok (.newarray .int, 2) := by decide +kernel
theorem dX12_init_137 : decode cX12_init 137 = .ok (.putfield 59, 3) := by decide +kernel
theorem dX12_init_140 : decode cX12_init 140 = .ok (.aload_n 0, 1) := by decide +kernel
theorem dX12_init_141 : decode cX12_init 141 = .ok (.bipush 8, 2) := by decide +kernel
theorem dX12_init_143 : decode cX12_init 143 = .ok (.newarray .int, 2) := by decide +kernel
theorem dX12_init_145 : decode cX12_init 145 = .ok (.putfield 62, 3) := by decide +kernel
theorem dX12_init_148 : decode cX12_init 148 = .ok (.aload_n 0, 1) := by decide +kernel
theorem dX12_init_149 : decode cX12_init 149 = .ok (.bipush 8, 2) := by decide +kernel
theorem dX12_init_151 : decode cX12_init 151 = .ok (.newarray .int, 2) := by decide +kernel
theorem dX12_init_153 : decode cX12_init 153 = .ok (.putfield 65, 3) := by decide +kernel
theorem dX12_init_156 : decode cX12_init 156 = .ok (.aload_n 0, 1) := by decide +kernel
theorem dX12_init_157 : decode cX12_init 157 = .ok (.bipush 8, 2) := by decide +kernel
theorem dX12_init_159 : decode cX12_init 159 = .ok (.newarray .int, 2) := by decide +kernel
theorem dX12_init_161 : decode cX12_init 161 = .ok (.putfield 68, 3) := by decide +kernel
theorem dX12_init_164 : decode cX12_init 164 = .ok (.aload_n 0, 1) := by decide +kernel
theorem dX12_init_165 : decode cX12_init 165 = .ok (.bipush 8, 2) := by decide +kernel
theorem dX12_init_167 : decode cX12_init 167 = .ok (.newarray .int, 2) := by decide +kernel
theorem dX12_init_169 : decode cX12_init 169 = .ok (.putfield 71, 3) := by decide +kernel
theorem dX12_init_172 : decode cX12_init 172 = .ok (.aload_n 0, 1) := by decide +kernel
theorem dX12_init_173 : decode cX12_init 173 = .ok (.bipush 32, 2) := by decide +kernel
theorem dX12_init_175 : decode cX12_init 175 = .ok (.newarray .int, 2) := by decide +kernel
theorem dX12_init_177 : decode cX12_init 177 = .ok (.putfield 74, 3) := by decide +kernel
theorem dX12_init_180 : decode cX12_init 180 = .ok (.aload_n 0, 1) := by decide +kernel
theorem dX12_init_181 : decode cX12_init 181 = .ok (.sipush 256, 3) := by decide +kernel
theorem dX12_init_184 : decode cX12_init 184 = .ok (.newarray .int, 2) := by decide +kernel
theorem dX12_init_186 : decode cX12_init 186 = .ok (.putfield 77, 3) := by decide +kernel
theorem dX12_init_189 : decode cX12_init 189 = .ok (.aload_n 0, 1) := by decide +kernel
theorem dX12_init_190 : decode cX12_init 190 = .ok (.sipush 256, 3) := by decide +kernel
theorem dX12_init_193 : decode cX12_init 193 = .ok (.newarray .boolean, 2) := by decide +kernel
theorem dX12_init_195 : decode cX12_init 195 = .ok (.putfield 80, 3) := by decide +kernel
theorem dX12_init_198 : decode cX12_init 198 = .ok (.aload_n 0, 1) := by decide +kernel
theorem dX12_init_199 : decode cX12_init 199 = .ok (.sipush 1792, 3) := by decide +kernel
theorem dX12_init_202 : decode cX12_init 202 = .ok (.newarray .int, 2) := by decide +kernel
theorem dX12_init_204 : decode cX12_init 204 = .ok (.putfield 83, 3) := by decide +kernel
theorem dX12_init_207 : decode cX12_init 207 = .ok (.aload_n 0, 1) := by decide +kernel
theorem dX12_init_208 : decode cX12_init 208 = .ok (.sipush 1792, 3) := by decide +kernel
theorem dX12_init_211 : decode cX12_init 211 = .ok (.newarray .int, 2) := by decide +kernel
theorem dX12_init_213 : decode cX12_init 213 = .ok (.putfield 86, 3) := by decide +kernel
theorem dX12_init_216 : decode cX12_init 216 = .ok (.aload_n 0, 1) := by decide +kernel
theorem dX12_init_217 : decode cX12_init 217 = .ok (.bipush 8, 2) := by decide +kernel
theorem dX12_init_219 : decode cX12_init 219 = .ok (.newarray .int, 2) := by decide +kernel
theorem dX12_init_221 : decode cX12_init 221 = .ok (.dup, 1) := by decide +kernel
theorem dX12_init_222 : decode cX12_init 222 = .ok (.iconst 0, 1) := by decide +kernel
theorem dX12_init_223 : decode cX12_init 223 = .ok (.bipush (-4), 2) := by decide +kernel
theorem dX12_init_225 : decode cX12_init 225 = .ok (.iastore, 1) := by decide +kernel
theorem dX12_init_226 : decode cX12_init 226 = .ok (.dup, 1) := by decide +kernel
theorem dX12_init_227 : decode cX12_init 227 = .ok (.iconst 1, 1) := by decide +kernel
theorem dX12_init_228 : decode cX12_init 228 = .ok (.bipush (-4), 2) := by decide +kernel
theorem dX12_init_230 : decode cX12_init 230 = .ok (.iastore, 1) := by decide +kernel
theorem dX12_init_231 : decode cX12_init 231 = .ok (.dup, 1) := by decide +kernel
theorem dX12_init_232 : decode cX12_init 232 = .ok (.iconst 2, 1) := by decide +kernel
theorem dX12_init_233 : decode cX12_init 233 = .ok (.bipush (-4), 2) := by decide +kernel
theorem dX12_init_235 : decode cX12_init 235 = .ok (.iastore, 1) := by decide +kernel
theorem dX12_init_236 : decode cX12_init 236 = .ok (.dup, 1) := by decide +kernel
theorem dX12_init_237 : decode cX12_init 237 = .ok (.iconst 3, 1) := by decide +kernel
theorem dX12_init_238 : decode cX12_init 238 = .ok (.bipush (-4), 2) := by decide +kernel
theorem dX12_init_240 : decode cX12_init 240 = .ok (.iastore, 1) := by decide +kernel
theorem dX12_init_241 : decode cX12_init 241 = .ok (.dup, 1) := by decide +kernel
theorem dX12_init_242 : decode cX12_init 242 = .ok (.iconst 4, 1) := by decide +kernel
theorem dX12_init_243 : decode cX12_init 243 = .ok (.bipush (-4), 2) := by decide +kernel
theorem dX12_init_245 : decode cX12_init 245 = .ok (.iastore, 1) := by decide +kernel
theorem dX12_init_246 : decode cX12_init 246 = .ok (.dup, 1) := by decide +kernel
theorem dX12_init_247 : decode cX12_init 247 = .ok (.iconst 5, 1) := by decide +kernel
theorem dX12_init_248 : decode cX12_init 248 = .ok (.bipush (-4), 2) := by decide +kernel
theorem dX12_init_250 : decode cX12_init 250 = .ok (.iastore, 1) := by decide +kernel
theorem dX12_init_251 : decode cX12_init 251 = .ok (.dup, 1) := by decide +kernel
theorem dX12_init_252 : decode cX12_init 252 = .ok (.bipush 6, 2) := by decide +kernel
theorem dX12_init_254 : decode cX12_init 254 = .ok (.bipush (-4), 2) := by decide +kernel
theorem dX12_init_256 : decode cX12_init 256 = .ok (.iastore, 1) := by decide +kernel
theorem dX12_init_257 : decode cX12_init 257 = .ok (.dup, 1) := by decide +kernel
theorem dX12_init_258 : decode cX12_init 258 = .ok (.bipush 7, 2) := by decide +kernel
theorem dX12_init_260 : decode cX12_init 260 = .ok (.bipush (-4), 2) := by decide +kernel
theorem dX12_init_262 : decode cX12_init 262 = .ok (.iastore, 1) := by decide +kernel
theorem dX12_init_263 : decode cX12_init 263 = .ok (.putfield 89, 3) := by decide +kernel
theorem dX12_init_266 : decode cX12_init 266 = .ok (.aload_n 0, 1) := by decide +kernel
theorem dX12_init_267 : decode cX12_init 267 = .ok (.bipush 8, 2) := by decide +kernel
theorem dX12_init_269 : decode cX12_init 269 = .ok (.newarray .int, 2) := by decide +kernel
theorem dX12_init_271 : decode cX12_init 271 = .ok (.putfield 92, 3) := by decide +kernel
theorem dX12_init_274 : decode cX12_init 274 = .ok (.return_, 1) := by decide +kernel
theorem dX12_in_0 : decode cX12_in 0 = .ok (.iload_n 0, 1) := by decide +kernel
theorem dX12_in_1 : decode cX12_in 1 = .ok (.iload_n 1, 1) := by decide +kernel
theorem dX12_in_2 : decode cX12_in 2 = .ok (.if_icmp .lt 12, 3) := by decide +kernel
theorem dX12_in_5 : decode cX12_in 5 = .ok (.iload_n 0, 1) := by decide +kernel
theorem dX12_in_6 : decode cX12_in 6 = .ok (.iload_n 2, 1) := by decide +kernel
theorem dX12_in_7 : decode cX12_in 7 = .ok (.if_icmp .gt 7, 3) := by decide +kernel
theorem dX12_in_10 : decode cX12_in 10 = .ok (.iconst 1, 1) := by decide +kernel
theorem dX12_in_11 : decode cX12_in 11 = .ok (.goto 4, 3) := by decide +kernel
theorem dX12_in_14 : decode cX12_in 14 = .ok (.iconst 0, 1) := by decide +kernel
theorem dX12_in_15 : decode cX12_in 15 = .ok (.ireturn, 1) := by decide +kernel
theorem dX12_isPart_0 : decode cX12_isPart 0 = .ok (.iload_n 1, 1) := by decide +kernel
theorem dX12_isPart_1 : decode cX12_isPart 1 = .ok (.iconst 0, 1) := by decide +kernel
theorem dX12_isPart_2 : decode cX12_isPart 2 = .ok (.aload_n 0, 1) := by decide +kernel
theorem dX12_isPart_3 : decode cX12_isPart 3 = .ok (.getfield 95, 3) := by decide +kernel
theorem dX12_isPart_6 : decode cX12_isPart 6 = .ok (.iconst 1, 1) := by decide +kernel
theorem dX12_isPart_7 : decode cX12_isPart 7 = .ok (.isub, 1) := by decide +kernel
theorem dX12_isPart_8 : decode cX12_isPart 8 = .ok (.invokestatic 99, 3) := by decide +kernel
theorem dX12_isPart_11 : decode cX12_isPart 11 = .ok (.ireturn, 1) := by decide +kernel
theorem dX12_isVersion_0 : decode cX12_isVersion 0 = .ok (.iload_n 0, 1) := by decide +kernel
theorem dX12_isVersion_1 : decode cX12_isVersion 1 = .ok (.iconst 1, 1) := by decide +kernel
theorem dX12_isVersion_2 : decode cX12_isVersion 2 = .ok (.bipush 9, 2) := by decide +kernel
theorem dX12_isVersion_4 : decode cX12_isVersion 4 = .ok (.invokestatic 99, 3) := by decide +kernel
theorem dX12_isVersion_7 : decode cX12_isVersion 7 = .ok (.ireturn, 1) := by decide +kernel
theorem dX12_part_0 : decode cX12_part 0 = .ok (.iload_n 1, 1) := by decide +kernel
theorem dX12_part_1 : decode cX12_part 1 = .ok (.invokestatic 103, 3) := by decide +kernel
theorem dX12_part_4 : decode cX12_part 4 = .ok (.ifCond .eq 14, 3) := by decide +kernel
theorem dX12_part_7 : decode cX12_part 7 = .ok (.iload_n 2, 1) := by decide +kernel
theorem dX12_part_8 : decode cX12_part 8 = .ok (.iconst 0, 1) := by decide +kernel
theorem dX12_part_9 : decode cX12_part 9 = .ok (.sipush 1000, 3) := by decide +kernel
theorem dX12_part_12 : decode cX12_part 12 = .ok (.invokestatic 99, 3) := by decide +kernel
theorem dX12_part_15 : decode cX12_part 15 = .ok (.ifCond .ne 5, 3) := by decide +kernel
theorem dX12_part_18 : decode cX12_part 18 = .ok (.iconst (-1), 1) := by decide +kernel
theorem dX12_part_19 : decode cX12_part 19 = .ok (.ireturn, 1) := by decide +kernel
theorem dX12_part_20 : decode cX12_part 20 = .ok (.aload_n 0, 1) := by decide +kernel
theorem dX12_part_21 : decode cX12_part 21 = .ok (.getfield 95, 3) := by decide +kernel
theorem dX12_part_24 : decode cX12_part 24 = .ok (.bipush 8, 2) := by decide +kernel
theorem dX12_part_26 : decode cX12_part 26 = .ok (.if_icmp .ne 6, 3) := by decide +kernel
theorem dX12_part_29 : decode cX12_part 29 = .ok (.bipush (-3), 2) := by decide +kernel
theorem dX12_part_31 : decode cX12_part 31 = .ok (.ireturn, 1) := by decide +kernel
theorem dX12_part_32 : decode cX12_part 32 = .ok (.aload_n 0, 1) := by decide +kernel
theorem dX12_part_33 : decode cX12_part 33 = .ok (.getfield 7, 3) := by decide +kernel
theorem dX12_part_36 : decode cX12_part 36 = .ok (.aload_n 0, 1) := by decide +kernel
theorem dX12_part_37 : decode cX12_part 37 = .ok (.getfield 95, 3) := by decide +kernel
theorem dX12_part_40 : decode cX12_part 40 = .ok (.iload_n 1, 1) := by decide +kernel
theorem dX12_part_41 : decode cX12_part 41 = .ok (.iastore, 1) := by decide +kernel
theorem dX12_part_42 : decode cX12_part 42 = .ok (.aload_n 0, 1) := by decide +kernel
theorem dX12_part_43 : decode cX12_part 43 = .ok (.getfield 13, 3) := by decide +kernel
theorem dX12_part_46 : decode cX12_part 46 = .ok (.aload_n 0, 1) := by decide +kernel
theorem dX12_part_47 : decode cX12_part 47 = .ok (.getfield 95, 3) := by decide +kernel
theorem dX12_part_50 : decode cX12_part 50 = .ok (.iload_n 2, 1) := by decide +kernel
theorem dX12_part_51 : decode cX12_part 51 = .ok (.iastore, 1) := by decide +kernel
theorem dX12_part_52 : decode cX12_part 52 = .ok (.aload_n 0, 1) := by decide +kernel
theorem dX12_part_53 : decode cX12_part 53 = .ok (.getfield 16, 3) := by decide +kernel
theorem dX12_part_56 : decode cX12_part 56 = .ok (.aload_n 0, 1) := by decide +kernel
theorem dX12_part_57 : decode cX12_part 57 = .ok (.getfield 95, 3) := by decide +kernel
theorem dX12_part_60 : decode cX12_part 60 = .ok (.iload_n 3, 1) := by decide +kernel
theorem dX12_part_61 : decode cX12_part 61 = .ok (.bastore, 1) := by decide +kernel
theorem dX12_part_62 : decode cX12_part 62 = .ok (.aload_n 0, 1) := by decide +kernel
theorem dX12_part_63 : decode cX12_part 63 = .ok (.dup, 1) := by decide +kernel
theorem dX12_part_64 : decode cX12_part 64 = .ok (.getfield 95, 3) := by decide +kernel
theorem dX12_part_67 : decode cX12_part 67 = .ok (.iconst 1, 1) := by decide +kernel
theorem dX12_part_68 : decode cX12_part 68 = .ok (.iadd, 1) := by decide +kernel
theorem dX12_part_69 : decode cX12_part 69 = .ok (.putfield 95, 3) := by decide +kernel
theorem dX12_part_72 : decode cX12_part 72 = .ok (.aload_n 0, 1) := by decide +kernel
theorem dX12_part_73 : decode cX12_part 73 = .ok (.getfield 95, 3) := by decide +kernel
theorem dX12_part_76 : decode cX12_part 76 = .ok (.iconst 1, 1) := by decide +kernel
theorem dX12_part_77 : decode cX12_part 77 = .ok (.isub, 1) := by decide +kernel
theorem dX12_part_78 : decode cX12_part 78 = .ok (.ireturn, 1) := by decide +kernel
theorem dX12_link_0 : decode cX12_link 0 = .ok (.aload_n 0, 1) := by decide +kernel
theorem dX12_link_1 : decode cX12_link 1 = .ok (.iload_n 1, 1) := by decide +kernel
theorem dX12_link_2 : decode cX12_link 2 = .ok (.invokevirtual 107, 3) := by decide +kernel
theorem dX12_link_5 : decode cX12_link 5 = .ok (.ifCond .eq 16, 3) := by decide +kernel
theorem dX12_link_8 : decode cX12_link 8 = .ok (.aload_n 0, 1) := by decide +kernel
theorem dX12_link_9 : decode cX12_link 9 = .ok (.iload_n 2, 1) := by decide +kernel
theorem dX12_link_10 : decode cX12_link 10 = .ok (.invokevirtual 107, 3) := by decide +kernel
theorem dX12_link_13 : decode cX12_link 13 = .ok (.ifCond .eq 8, 3) := by decide +kernel
theorem dX12_link_16 : decode cX12_link 16 = .ok (.iload_n 1, 1) := by decide +kernel
theorem dX12_link_17 : decode cX12_link 17 = .ok (.iload_n 2, 1) := by decide +kernel
theorem dX12_link_18 : decode cX12_link 18 = .ok (.if_icmp .ne 5, 3) := by decide +kernel
theorem dX12_link_21 : decode cX12_link 21 = .ok (.iconst (-1), 1) := by decide +kernel
theorem dX12_link_22 : decode cX12_link 22 = .ok (.ireturn, 1) := by decide +kernel
theorem dX12_link_23 : decode cX12_link 23 = .ok (.aload_n 0, 1) := by decide +kernel
theorem dX12_link_24 : decode cX12_link 24 = .ok (.getfield 23, 3) := by decide +kernel
theorem dX12_link_27 : decode cX12_link 27 = .ok (.bipush 8, 2) := by decide +kernel
theorem dX12_link_29 : decode cX12_link 29 = .ok (.iload_n 1, 1) := by decide +kernel
theorem dX12_link_30 : decode cX12_link 30 = .ok (.imul, 1) := by decide +kernel
theorem dX12_link_31 : decode cX12_link 31 = .ok (.iload_n 2, 1) := by decide +kernel
theorem dX12_link_32 : decode cX12_link 32 = .ok (.iadd, 1) := by decide +kernel
theorem dX12_link_33 : decode cX12_link 33 = .ok (.baload, 1) := by decide +kernel
theorem dX12_link_34 : decode cX12_link 34 = .ok (.ifCond .eq 7, 3) := by decide +kernel
theorem dX12_link_37 : decode cX12_link 37 = .ok (.iconst 1, 1) := by decide +kernel
theorem dX12_link_38 : decode cX12_link 38 = .ok (.goto 4, 3) := by decide +kernel
theorem dX12_link_41 : decode cX12_link 41 = .ok (.iconst 0, 1) := by decide +kernel
theorem dX12_link_42 : decode cX12_link 42 = .ok (.istore 4, 2) := by decide +kernel
theorem dX12_link_44 : decode cX12_link 44 = .ok (.aload_n 0, 1) := by decide +kernel
theorem dX12_link_45 : decode cX12_link 45 = .ok (.getfield 23, 3) := by decide +kernel
theorem dX12_link_48 : decode cX12_link 48 = .ok (.bipush 8, 2) := by decide +kernel
theorem dX12_link_50 : decode cX12_link 50 = .ok (.iload_n 1, 1) := by decide +kernel
theorem dX12_link_51 : decode cX12_link 51 = .ok (.imul, 1) := by decide +kernel
theorem dX12_link_52 : decode cX12_link 52 = .ok (.iload_n 2, 1) := by decide +kernel
theorem dX12_link_53 : decode cX12_link 53 = .ok (.iadd, 1) := by decide +kernel
theorem dX12_link_54 : decode cX12_link 54 = .ok (.iload_n 3, 1) := by decide +kernel
theorem dX12_link_55 : decode cX12_link 55 = .ok (.bastore, 1) := by decide +kernel
theorem dX12_link_56 : decode cX12_link 56 = .ok (.iload 4, 2) := by decide +kernel
theorem dX12_link_58 : decode cX12_link 58 = .ok (.ireturn, 1) := by decide +kernel
theorem dX12_guard_0 : decode cX12_guard 0 = .ok (.aload_n 0, 1) := by decide +kernel
theorem dX12_guard_1 : decode cX12_guard 1 = .ok (.iload_n 1, 1) := by decide +kernel
theorem dX12_guard_2 : decode cX12_guard 2 = .ok (.invokevirtual 107, 3) := by decide +kernel
theorem dX12_guard_5 : decode cX12_guard 5 = .ok (.ifCond .ne 5, 3) := by decide +kernel
theorem dX12_guard_8 : decode cX12_guard 8 = .ok (.iconst (-1), 1) := by decide +kernel
theorem dX12_guard_9 : decode cX12_guard 9 = .ok (.ireturn, 1) := by decide +kernel
theorem dX12_guard_10 : decode cX12_guard 10 = .ok (.aload_n 0, 1) := by decide +kernel
theorem dX12_guard_11 : decode cX12_guard 11 = .ok (.getfield 20, 3) := by decide +kernel
theorem dX12_guard_14 : decode cX12_guard 14 = .ok (.iload_n 1, 1) := by decide +kernel
theorem dX12_guard_15 : decode cX12_guard 15 = .ok (.baload, 1) := by decide +kernel
theorem dX12_guard_16 : decode cX12_guard 16 = .ok (.ifCond .eq 7, 3) := by decide +kernel
theorem dX12_guard_19 : decode cX12_guard 19 = .ok (.iconst 1, 1) := by decide +kernel
theorem dX12_guard_20 : decode cX12_guard 20 = .ok (.goto 4, 3) := by decide +kernel
theorem dX12_guard_23 : decode cX12_guard 23 = .ok (.iconst 0, 1) := by decide +kernel
theorem dX12_guard_24 : decode cX12_guard 24 = .ok (.istore_n 3, 1) := by decide +kernel
theorem dX12_guard_25 : decode cX12_guard 25 = .ok (.aload_n 0, 1) := by decide +kernel
theorem dX12_guard_26 : decode cX12_guard 26 = .ok (.getfield 20, 3) := by decide +kernel
theorem dX12_guard_29 : decode cX12_guard 29 = .ok (.iload_n 1, 1) := by decide +kernel
theorem dX12_guard_30 : decode cX12_guard 30 = .ok (.iload_n 2, 1) := by decide +kernel
theorem dX12_guard_31 : decode cX12_guard 31 = .ok (.bastore, 1) := by decide +kernel
theorem dX12_guard_32 : decode cX12_guard 32 = .ok (.iload_n 3, 1) := by decide +kernel
theorem dX12_guard_33 : decode cX12_guard 33 = .ok (.ireturn, 1) := by decide +kernel
theorem dX12_version_0 : decode cX12_version 0 = .ok (.aload_n 0, 1) := by decide +kernel
theorem dX12_version_1 : decode cX12_version 1 = .ok (.iload_n 1, 1) := by decide +kernel
theorem dX12_version_2 : decode cX12_version 2 = .ok (.invokevirtual 107, 3) := by decide +kernel
theorem dX12_version_5 : decode cX12_version 5 = .ok (.ifCond .eq 10, 3) := by decide +kernel
theorem dX12_version_8 : decode cX12_version 8 = .ok (.iload_n 2, 1) := by decide +kernel
theorem dX12_version_9 : decode cX12_version 9 = .ok (.invokestatic 103, 3) := by decide +kernel
theorem dX12_version_12 : decode cX12_version 12 = .ok (.ifCond .ne 5, 3) := by decide +kernel
theorem dX12_version_15 : decode cX12_version 15 = .ok (.iconst (-1), 1) := by decide +kernel
theorem dX12_version_16 : decode cX12_version 16 = .ok (.ireturn, 1) := by decide +kernel
theorem dX12_version_17 : decode cX12_version 17 = .ok (.aload_n 0, 1) := by decide +kernel
theorem dX12_version_18 : decode cX12_version 18 = .ok (.getfield 7, 3) := by decide +kernel
theorem dX12_version_21 : decode cX12_version 21 = .ok (.iload_n 1, 1) := by decide +kernel
theorem dX12_version_22 : decode cX12_version 22 = .ok (.iaload, 1) := by decide +kernel
theorem dX12_version_23 : decode cX12_version 23 = .ok (.istore_n 3, 1) := by decide +kernel
theorem dX12_version_24 : decode cX12_version 24 = .ok (.aload_n 0, 1) := by decide +kernel
theorem dX12_version_25 : decode cX12_version 25 = .ok (.getfield 7, 3) := by decide +kernel
theorem dX12_version_28 : decode cX12_version 28 = .ok (.iload_n 1, 1) := by decide +kernel
theorem dX12_version_29 : decode cX12_version 29 = .ok (.iload_n 2, 1) := by decide +kernel
theorem dX12_version_30 : decode cX12_version 30 = .ok (.iastore, 1) := by decide +kernel
theorem dX12_version_31 : decode cX12_version 31 = .ok (.iload_n 3, 1) := by decide +kernel
theorem dX12_version_32 : decode cX12_version 32 = .ok (.ireturn, 1) := by decide +kernel
theorem dX12_add_0 : decode cX12_add 0 = .ok (.aload_n 0, 1) := by decide +kernel
theorem dX12_add_1 : decode cX12_add 1 = .ok (.getfield 110, 3) := by decide +kernel
theorem dX12_add_4 : decode cX12_add 4 = .ok (.bipush 12, 2) := by decide +kernel
theorem dX12_add_6 : decode cX12_add 6 = .ok (.if_icmp .ne 6, 3) := by decide +kernel
theorem dX12_add_9 : decode cX12_add 9 = .ok (.bipush (-3), 2) := by decide +kernel
theorem dX12_add_11 : decode cX12_add 11 = .ok (.ireturn, 1) := by decide +kernel
theorem dX12_add_12 : decode cX12_add 12 = .ok (.aload_n 0, 1) := by decide +kernel
theorem dX12_add_13 : decode cX12_add 13 = .ok (.getfield 26, 3) := by decide +kernel
theorem dX12_add_16 : decode cX12_add 16 = .ok (.aload_n 0, 1) := by decide +kernel
theorem dX12_add_17 : decode cX12_add 17 = .ok (.getfield 110, 3) := by decide +kernel
theorem dX12_add_20 : decode cX12_add 20 = .ok (.iload_n 1, 1) := by decide +kernel
theorem dX12_add_21 : decode cX12_add 21 = .ok (.iastore, 1) := by decide +kernel
theorem dX12_add_22 : decode cX12_add 22 = .ok (.aload_n 0, 1) := by decide +kernel
theorem dX12_add_23 : decode cX12_add 23 = .ok (.getfield 29, 3) := by decide +kernel
theorem dX12_add_26 : decode cX12_add 26 = .ok (.aload_n 0, 1) := by decide +kernel
theorem dX12_add_27 : decode cX12_add 27 = .ok (.getfield 110, 3) := by decide +kernel
theorem dX12_add_30 : decode cX12_add 30 = .ok (.iload_n 2, 1) := by decide +kernel
theorem dX12_add_31 : decode cX12_add 31 = .ok (.iastore, 1) := by decide +kernel
theorem dX12_add_32 : decode cX12_add 32 = .ok (.aload_n 0, 1) := by decide +kernel
theorem dX12_add_33 : decode cX12_add 33 = .ok (.getfield 32, 3) := by decide +kernel
theorem dX12_add_36 : decode cX12_add 36 = .ok (.aload_n 0, 1) := by decide +kernel
theorem dX12_add_37 : decode cX12_add 37 = .ok (.getfield 110, 3) := by decide +kernel
theorem dX12_add_40 : decode cX12_add 40 = .ok (.iload_n 3, 1) := by decide +kernel
theorem dX12_add_41 : decode cX12_add 41 = .ok (.iastore, 1) := by decide +kernel
theorem dX12_add_42 : decode cX12_add 42 = .ok (.aload_n 0, 1) := by decide +kernel
theorem dX12_add_43 : decode cX12_add 43 = .ok (.getfield 35, 3) := by decide +kernel
theorem dX12_add_46 : decode cX12_add 46 = .ok (.aload_n 0, 1) := by decide +kernel
theorem dX12_add_47 : decode cX12_add 47 = .ok (.getfield 110, 3) := by decide +kernel
theorem dX12_add_50 : decode cX12_add 50 = .ok (.iload 4, 2) := by decide +kernel
theorem dX12_add_52 : decode cX12_add 52 = .ok (.iastore, 1) := by decide +kernel
theorem dX12_add_53 : decode cX12_add 53 = .ok (.aload_n 0, 1) := by decide +kernel
theorem dX12_add_54 : decode cX12_add 54 = .ok (.getfield 38, 3) := by decide +kernel
theorem dX12_add_57 : decode cX12_add 57 = .ok (.aload_n 0, 1) := by decide +kernel
theorem dX12_add_58 : decode cX12_add 58 = .ok (.getfield 110, 3) := by decide +kernel
theorem dX12_add_61 : decode cX12_add 61 = .ok (.iload 5, 2) := by decide +kernel
theorem dX12_add_63 : decode cX12_add 63 = .ok (.iastore, 1) := by decide +kernel
theorem dX12_add_64 : decode cX12_add 64 = .ok (.aload_n 0, 1) := by decide +kernel
theorem dX12_add_65 : decode cX12_add 65 = .ok (.getfield 41, 3) := by decide +kernel
theorem dX12_add_68 : decode cX12_add 68 = .ok (.aload_n 0, 1) := by decide +kernel
theorem dX12_add_69 : decode cX12_add 69 = .ok (.getfield 110, 3) := by decide +kernel
theorem dX12_add_72 : decode cX12_add 72 = .ok (.iconst 0, 1) := by decide +kernel
theorem dX12_add_73 : decode cX12_add 73 = .ok (.bastore, 1) := by decide +kernel
theorem dX12_add_74 : decode cX12_add 74 = .ok (.aload_n 0, 1) := by decide +kernel
theorem dX12_add_75 : decode cX12_add 75 = .ok (.dup, 1) := by decide +kernel
theorem dX12_add_76 : decode cX12_add 76 = .ok (.getfield 110, 3) := by decide +kernel
theorem dX12_add_79 : decode cX12_add 79 = .ok (.iconst 1, 1) := by decide +kernel
theorem dX12_add_80 : decode cX12_add 80 = .ok (.iadd, 1) := by decide +kernel
theorem dX12_add_81 : decode cX12_add 81 = .ok (.putfield 110, 3) := by decide +kernel
theorem dX12_add_84 : decode cX12_add 84 = .ok (.aload_n 0, 1) := by decide +kernel
theorem dX12_add_85 : decode cX12_add 85 = .ok (.getfield 110, 3) := by decide +kernel
theorem dX12_add_88 : decode cX12_add 88 = .ok (.iconst 1, 1) := by decide +kernel
theorem dX12_add_89 : decode cX12_add 89 = .ok (.isub, 1) := by decide +kernel
theorem dX12_add_90 : decode cX12_add 90 = .ok (.ireturn, 1) := by decide +kernel
theorem dX12_isSpan_0 : decode cX12_isSpan 0 = .ok (.aload_n 0, 1) := by decide +kernel
theorem dX12_isSpan_1 : decode cX12_isSpan 1 = .ok (.iload_n 1, 1) := by decide +kernel
theorem dX12_isSpan_2 : decode cX12_isSpan 2 = .ok (.invokevirtual 107, 3) := by decide +kernel
theorem dX12_isSpan_5 : decode cX12_isSpan 5 = .ok (.ifCond .eq 26, 3) := by decide +kernel
theorem dX12_isSpan_8 : decode cX12_isSpan 8 = .ok (.iload_n 2, 1) := by decide +kernel
theorem dX12_isSpan_9 : decode cX12_isSpan 9 = .ok (.invokestatic 103, 3) := by decide +kernel
theorem dX12_isSpan_12 : decode cX12_isSpan 12 = .ok (.ifCond .eq 19, 3) := by decide +kernel
theorem dX12_isSpan_15 : decode cX12_isSpan 15 = .ok (.iload_n 3, 1) := by decide +kernel
theorem dX12_isSpan_16 : decode cX12_isSpan 16 = .ok (.invokestatic 103, 3) := by decide +kernel
theorem dX12_isSpan_19 : decode cX12_isSpan 19 = .ok (.ifCond .eq 12, 3) := by decide +kernel
theorem dX12_isSpan_22 : decode cX12_isSpan 22 = .ok (.iload_n 2, 1) := by decide +kernel
theorem dX12_isSpan_23 : decode cX12_isSpan 23 = .ok (.iload_n 3, 1) := by decide +kernel
theorem dX12_isSpan_24 : decode cX12_isSpan 24 = .ok (.if_icmp .gt 7, 3) := by decide +kernel
theorem dX12_isSpan_27 : decode cX12_isSpan 27 = .ok (.iconst 1, 1) := by decide +kernel
theorem dX12_isSpan_28 : decode cX12_isSpan 28 = .ok (.goto 4, 3) := by decide +kernel
theorem dX12_isSpan_31 : decode cX12_isSpan 31 = .ok (.iconst 0, 1) := by decide +kernel
theorem dX12_isSpan_32 : decode cX12_isSpan 32 = .ok (.ireturn, 1) := by decide +kernel
theorem dX12_isHole_0 : decode cX12_isHole 0 = .ok (.iload_n 1, 1) := by decide +kernel
theorem dX12_isHole_1 : decode cX12_isHole 1 = .ok (.iconst 0, 1) := by decide +kernel
theorem dX12_isHole_2 : decode cX12_isHole 2 = .ok (.aload_n 0, 1) := by decide +kernel
theorem dX12_isHole_3 : decode cX12_isHole 3 = .ok (.getfield 110, 3) := by decide +kernel
theorem dX12_isHole_6 : decode cX12_isHole 6 = .ok (.iconst 1, 1) := by decide +kernel
theorem dX12_isHole_7 : decode cX12_isHole 7 = .ok (.isub, 1) := by decide +kernel
theorem dX12_isHole_8 : decode cX12_isHole 8 = .ok (.invokestatic 99, 3) := by decide +kernel
theorem dX12_isHole_11 : decode cX12_isHole 11 = .ok (.ireturn, 1) := by decide +kernel
theorem dX12_hole_0 : decode cX12_hole 0 = .ok (.iload_n 1, 1) := by decide +kernel
theorem dX12_hole_1 : decode cX12_hole 1 = .ok (.iconst 0, 1) := by decide +kernel
theorem dX12_hole_2 : decode cX12_hole 2 = .ok (.iconst 4, 1) := by decide +kernel
theorem dX12_hole_3 : decode cX12_hole 3 = .ok (.invokestatic 99, 3) := by decide +kernel
theorem dX12_hole_6 : decode cX12_hole 6 = .ok (.ifCond .eq 19, 3) := by decide +kernel
theorem dX12_hole_9 : decode cX12_hole 9 = .ok (.iload_n 1, 1) := by decide +kernel
theorem dX12_hole_10 : decode cX12_hole 10 = .ok (.iconst 1, 1) := by decide +kernel
theorem dX12_hole_11 : decode cX12_hole 11 = .ok (.if_icmp .eq 14, 3) := by decide +kernel
theorem dX12_hole_14 : decode cX12_hole 14 = .ok (.aload_n 0, 1) := by decide +kernel
theorem dX12_hole_15 : decode cX12_hole 15 = .ok (.iload_n 2, 1) := by decide +kernel
theorem dX12_hole_16 : decode cX12_hole 16 = .ok (.iload_n 3, 1) := by decide +kernel
theorem dX12_hole_17 : decode cX12_hole 17 = .ok (.iload 4, 2) := by decide +kernel
theorem dX12_hole_19 : decode cX12_hole 19 = .ok (.invokevirtual 113, 3) := by decide +kernel
theorem dX12_hole_22 : decode cX12_hole 22 = .ok (.ifCond .ne 7, 3) := by decide +kernel
theorem dX12_hole_25 : decode cX12_hole 25 = .ok (.iconst (-1), 1) := by decide +kernel
theorem dX12_hole_26 : decode cX12_hole 26 = .ok (.goto 13, 3) := by decide +kernel
theorem dX12_hole_29 : decode cX12_hole 29 = .ok (.aload_n 0, 1) := by decide +kernel
theorem dX12_hole_30 : decode cX12_hole 30 = .ok (.iload_n 1, 1) := by decide +kernel
theorem dX12_hole_31 : decode cX12_hole 31 = .ok (.iload_n 2, 1) := by decide +kernel
theorem dX12_hole_32 : decode cX12_hole 32 = .ok (.iload_n 3, 1) := by decide +kernel
theorem dX12_hole_33 : decode cX12_hole 33 = .ok (.iload 4, 2) := by decide +kernel
theorem dX12_hole_35 : decode cX12_hole 35 = .ok (.iconst (-1), 1) := by decide +kernel
theorem dX12_hole_36 : decode cX12_hole 36 = .ok (.invokevirtual 116, 3) := by decide +kernel
theorem dX12_hole_39 : decode cX12_hole 39 = .ok (.ireturn, 1) := by decide +kernel
theorem dX12_chained_0 : decode cX12_chained 0 = .ok (.aload_n 0, 1) := by decide +kernel
theorem dX12_chained_1 : decode cX12_chained 1 = .ok (.iload_n 1, 1) := by decide +kernel
theorem dX12_chained_2 : decode cX12_chained 2 = .ok (.iload_n 2, 1) := by decide +kernel
theorem dX12_chained_3 : decode cX12_chained 3 = .ok (.iload_n 3, 1) := by decide +kernel
theorem dX12_chained_4 : decode cX12_chained 4 = .ok (.invokevirtual 113, 3) := by decide +kernel
theorem dX12_chained_7 : decode cX12_chained 7 = .ok (.ifCond .eq 12, 3) := by decide +kernel
theorem dX12_chained_10 : decode cX12_chained 10 = .ok (.aload_n 0, 1) := by decide +kernel
theorem dX12_chained_11 : decode cX12_chained 11 = .ok (.iload 4, 2) := by decide +kernel
theorem dX12_chained_13 : decode cX12_chained 13 = .ok (.invokevirtual 120, 3) := by decide +kernel
theorem dX12_chained_16 : decode cX12_chained 16 = .ok (.ifCond .ne 7, 3) := by decide +kernel
theorem dX12_chained_19 : decode cX12_chained 19 = .ok (.iconst (-1), 1) := by decide +kernel
theorem dX12_chained_20 : decode cX12_chained 20 = .ok (.goto 13, 3) := by decide +kernel
theorem dX12_chained_23 : decode cX12_chained 23 = .ok (.aload_n 0, 1) := by decide +kernel
theorem dX12_chained_24 : decode cX12_chained 24 = .ok (.iconst 1, 1) := by decide +kernel
theorem dX12_chained_25 : decode cX12_chained 25 = .ok (.iload_n 1, 1) := by decide +kernel
theorem dX12_chained_26 : decode cX12_chained 26 = .ok (.iload_n 2, 1) := by decide +kernel
theorem dX12_chained_27 : decode cX12_chained 27 = .ok (.iload_n 3, 1) := by decide +kernel
theorem dX12_chained_28 : decode cX12_chained 28 = .ok (.iload 4, 2) := by decide +kernel
theorem dX12_chained_30 : decode cX12_chained 30 = .ok (.invokevirtual 116, 3) := by decide +kernel
theorem dX12_chained_33 : decode cX12_chained 33 = .ok (.ireturn, 1) := by decide +kernel
theorem dX12_wake_0 : decode cX12_wake 0 = .ok (.aload_n 0, 1) := by decide +kernel
theorem dX12_wake_1 : decode cX12_wake 1 = .ok (.iload_n 1, 1) := by decide +kernel
theorem dX12_wake_2 : decode cX12_wake 2 = .ok (.invokevirtual 120, 3) := by decide +kernel
theorem dX12_wake_5 : decode cX12_wake 5 = .ok (.ifCond .ne 5, 3) := by decide +kernel
theorem dX12_wake_8 : decode cX12_wake 8 = .ok (.iconst (-1), 1) := by decide +kernel
theorem dX12_wake_9 : decode cX12_wake 9 = .ok (.ireturn, 1) := by decide +kernel
theorem dX12_wake_10 : decode cX12_wake 10 = .ok (.aload_n 0, 1) := by decide +kernel
theorem dX12_wake_11 : decode cX12_wake 11 = .ok (.getfield 26, 3) := by decide +kernel
theorem dX12_wake_14 : decode cX12_wake 14 = .ok (.iload_n 1, 1) := by decide +kernel
theorem dX12_wake_15 : decode cX12_wake 15 = .ok (.iaload, 1) := by decide +kernel
theorem dX12_wake_16 : decode cX12_wake 16 = .ok (.iconst 4, 1) := by decide +kernel
theorem dX12_wake_17 : decode cX12_wake 17 = .ok (.if_icmp .eq 6, 3) := by decide +kernel
theorem dX12_wake_20 : decode cX12_wake 20 = .ok (.bipush (-13), 2) := by decide +kernel
theorem dX12_wake_22 : decode cX12_wake 22 = .ok (.ireturn, 1) := by decide +kernel
theorem dX12_wake_23 : decode cX12_wake 23 = .ok (.aload_n 0, 1) := by decide +kernel
theorem dX12_wake_24 : decode cX12_wake 24 = .ok (.getfield 41, 3) := by decide +kernel
theorem dX12_wake_27 : decode cX12_wake 27 = .ok (.iload_n 1, 1) := by decide +kernel
theorem dX12_wake_28 : decode cX12_wake 28 = .ok (.baload, 1) := by decide +kernel
theorem dX12_wake_29 : decode cX12_wake 29 = .ok (.ifCond .eq 7, 3) := by decide +kernel
theorem dX12_wake_32 : decode cX12_wake 32 = .ok (.iconst 1, 1) := by decide +kernel
theorem dX12_wake_33 : decode cX12_wake 33 = .ok (.goto 4, 3) := by decide +kernel
theorem dX12_wake_36 : decode cX12_wake 36 = .ok (.iconst 0, 1) := by decide +kernel
theorem dX12_wake_37 : decode cX12_wake 37 = .ok (.istore_n 3, 1) := by decide +kernel
theorem dX12_wake_38 : decode cX12_wake 38 = .ok (.aload_n 0, 1) := by decide +kernel
theorem dX12_wake_39 : decode cX12_wake 39 = .ok (.getfield 41, 3) := by decide +kernel
theorem dX12_wake_42 : decode cX12_wake 42 = .ok (.iload_n 1, 1) := by decide +kernel
theorem dX12_wake_43 : decode cX12_wake 43 = .ok (.iload_n 2, 1) := by decide +kernel
theorem dX12_wake_44 : decode cX12_wake 44 = .ok (.bastore, 1) := by decide +kernel
theorem dX12_wake_45 : decode cX12_wake 45 = .ok (.iload_n 3, 1) := by decide +kernel
theorem dX12_wake_46 : decode cX12_wake 46 = .ok (.ireturn, 1) := by decide +kernel
theorem dX12_chain_0 : decode cX12_chain 0 = .ok (.aload_n 0, 1) := by decide +kernel
theorem dX12_chain_1 : decode cX12_chain 1 = .ok (.iload_n 1, 1) := by decide +kernel
theorem dX12_chain_2 : decode cX12_chain 2 = .ok (.invokevirtual 120, 3) := by decide +kernel
theorem dX12_chain_5 : decode cX12_chain 5 = .ok (.ifCond .ne 7, 3) := by decide +kernel
theorem dX12_chain_8 : decode cX12_chain 8 = .ok (.iconst (-1), 1) := by decide +kernel
theorem dX12_chain_9 : decode cX12_chain 9 = .ok (.goto 24, 3) := by decide +kernel
theorem dX12_chain_12 : decode cX12_chain 12 = .ok (.aload_n 0, 1) := by decide +kernel
theorem dX12_chain_13 : decode cX12_chain 13 = .ok (.getfield 26, 3) := by decide +kernel
theorem dX12_chain_16 : decode cX12_chain 16 = .ok (.iload_n 1, 1) := by decide +kernel
theorem dX12_chain_17 : decode cX12_chain 17 = .ok (.iaload, 1) := by decide +kernel
theorem dX12_chain_18 : decode cX12_chain 18 = .ok (.iconst 1, 1) := by decide +kernel
theorem dX12_chain_19 : decode cX12_chain 19 = .ok (.if_icmp .eq 8, 3) := by decide +kernel
theorem dX12_chain_22 : decode cX12_chain 22 = .ok (.bipush (-13), 2) := by decide +kernel
theorem dX12_chain_24 : decode cX12_chain 24 = .ok (.goto 9, 3) := by decide +kernel
theorem dX12_chain_27 : decode cX12_chain 27 = .ok (.aload_n 0, 1) := by decide +kernel
theorem dX12_chain_28 : decode cX12_chain 28 = .ok (.getfield 38, 3) := by decide +kernel
theorem dX12_chain_31 : decode cX12_chain 31 = .ok (.iload_n 1, 1) := by decide +kernel
theorem dX12_chain_32 : decode cX12_chain 32 = .ok (.iaload, 1) := by decide +kernel
theorem dX12_chain_33 : decode cX12_chain 33 = .ok (.ireturn, 1) := by decide +kernel
theorem dX12_takeVersions_0 : decode cX12_takeVersions 0 = .ok (.iconst 0, 1) := by decide +kernel
theorem dX12_takeVersions_1 : decode cX12_takeVersions 1 = .ok (.istore_n 2, 1) := by decide +kernel
theorem dX12_takeVersions_2 : decode cX12_takeVersions 2 = .ok (.iload_n 2, 1) := by decide +kernel
theorem dX12_takeVersions_3 : decode cX12_takeVersions 3 = .ok (.aload_n 0, 1) := by decide +kernel
theorem dX12_takeVersions_4 : decode cX12_takeVersions 4 = .ok (.getfield 95, 3) := by decide +kernel
theorem dX12_takeVersions_7 : decode cX12_takeVersions 7 = .ok (.if_icmp .ge 21, 3) := by decide +kernel
theorem dX12_takeVersions_10 : decode cX12_takeVersions 10 = .ok (.aload_n 0, 1) := by decide +kernel
theorem dX12_takeVersions_11 : decode cX12_takeVersions 11 = .ok (.getfield 44, 3) := by decide +kernel
theorem dX12_takeVersions_14 : decode cX12_takeVersions 14 = .ok (.iload_n 2, 1) := by decide +kernel
theorem dX12_takeVersions_15 : decode cX12_takeVersions 15 = .ok (.aload_n 0, 1) := by decide +kernel
theorem dX12_takeVersions_16 : decode cX12_takeVersions 16 = .ok (.getfield 7, 3) := by decide +kernel
theorem dX12_takeVersions_19 : decode cX12_takeVersions 19 = .ok (.iload_n 2, 1) := by decide +kernel
theorem dX12_takeVersions_20 : decode cX12_takeVersions 20 = .ok (.iaload, 1) := by decide +kernel
theorem dX12_takeVersions_21 : decode cX12_takeVersions 21 = .ok (.iastore, 1) := by decide +kernel
theorem dX12_takeVersions_22 : decode cX12_takeVersions 22 = .ok (.iinc 2 1, 3) := by decide +kernel
theorem dX12_takeVersions_25 : decode cX12_takeVersions 25 = .ok (.goto (-23), 3) := by decide +kernel
theorem dX12_takeVersions_28 : decode cX12_takeVersions 28 = .ok (.iconst 0, 1) := by decide +kernel
theorem dX12_takeVersions_29 : decode cX12_takeVersions 29 = .ok (.istore_n 2, 1) := by decide +kernel
theorem dX12_takeVersions_30 : decode cX12_takeVersions 30 = .ok (.iload_n 2, 1) := by decide +kernel
theorem dX12_takeVersions_31 : decode cX12_takeVersions 31 = .ok (.aload_n 0, 1) := by decide +kernel
theorem dX12_takeVersions_32 : decode cX12_takeVersions 32 = .ok (.getfield 123, 3) := by decide +kernel
theorem dX12_takeVersions_35 : decode cX12_takeVersions 35 = .ok (.if_icmp .ge 55, 3) := by decide +kernel
theorem dX12_takeVersions_38 : decode cX12_takeVersions 38 = .ok (.iload_n 1, 1) := by decide +kernel
theorem dX12_takeVersions_39 : decode cX12_takeVersions 39 = .ok (.iload_n 2, 1) := by decide +kernel
theorem dX12_takeVersions_40 : decode cX12_takeVersions 40 = .ok (.ishr, 1) := by decide +kernel
theorem dX12_takeVersions_41 : decode cX12_takeVersions 41 = .ok (.iconst 1, 1) := by decide +kernel
theorem dX12_takeVersions_42 : decode cX12_takeVersions 42 = .ok (.iand, 1) := by decide +kernel
theorem dX12_takeVersions_43 : decode cX12_takeVersions 43 = .ok (.iconst 1, 1) := by decide +kernel
theorem dX12_takeVersions_44 : decode cX12_takeVersions 44 = .ok (.if_icmp .ne 40, 3) := by decide +kernel
theorem dX12_takeVersions_47 : decode cX12_takeVersions 47 = .ok (.aload_n 0, 1) := by decide +kernel
theorem dX12_takeVersions_48 : decode cX12_takeVersions 48 = .ok (.getfield 59, 3) := by decide +kernel
theorem dX12_takeVersions_51 : decode cX12_takeVersions 51 = .ok (.iload_n 2, 1) := by decide +kernel
theorem dX12_takeVersions_52 : decode cX12_takeVersions 52 = .ok (.iaload, 1) := by decide +kernel
theorem dX12_takeVersions_53 : decode cX12_takeVersions 53 = .ok (.aload_n 0, 1) := by decide +kernel
theorem dX12_takeVersions_54 : decode cX12_takeVersions 54 = .ok (.getfield 44, 3) := by decide +kernel
theorem dX12_takeVersions_57 : decode cX12_takeVersions 57 = .ok (.aload_n 0, 1) := by decide +kernel
theorem dX12_takeVersions_58 : decode cX12_takeVersions 58 = .ok (.getfield 56, 3) := by decide +kernel
theorem dX12_takeVersions_61 : decode cX12_takeVersions 61 = .ok (.iload_n 2, 1) := by decide +kernel
theorem dX12_takeVersions_62 : decode cX12_takeVersions 62 = .ok (.iaload, 1) := by decide +kernel
theorem dX12_takeVersions_63 : decode cX12_takeVersions 63 = .ok (.iaload, 1) := by decide +kernel
theorem dX12_takeVersions_64 : decode cX12_takeVersions 64 = .ok (.if_icmp .le 20, 3) := by decide +kernel
theorem dX12_takeVersions_67 : decode cX12_takeVersions 67 = .ok (.aload_n 0, 1) := by decide +kernel
theorem dX12_takeVersions_68 : decode cX12_takeVersions 68 = .ok (.getfield 44, 3) := by decide +kernel
theorem dX12_takeVersions_71 : decode cX12_takeVersions 71 = .ok (.aload_n 0, 1) := by decide +kernel
theorem dX12_takeVersions_72 : decode cX12_takeVersions 72 = .ok (.getfield 56, 3) := by decide +kernel
theorem dX12_takeVersions_75 : decode cX12_takeVersions 75 = .ok (.iload_n 2, 1) := by decide +kernel
theorem dX12_takeVersions_76 : decode cX12_takeVersions 76 = .ok (.iaload, 1) := by decide +kernel
theorem dX12_takeVersions_77 : decode cX12_takeVersions 77 = .ok (.aload_n 0, 1) := by decide +kernel
theorem dX12_takeVersions_78 : decode cX12_takeVersions 78 = .ok (.getfield 59, 3) := by decide +kernel
theorem dX12_takeVersions_81 : decode cX12_takeVersions 81 = .ok (.iload_n 2, 1) := by decide +kernel
theorem dX12_takeVersions_82 : decode cX12_takeVersions 82 = .ok (.iaload, 1) := by decide +kernel
theorem dX12_takeVersions_83 : decode cX12_takeVersions 83 = .ok (.iastore, 1) := by decide +kernel
theorem dX12_takeVersions_84 : decode cX12_takeVersions 84 = .ok (.iinc 2 1, 3) := by decide +kernel
theorem dX12_takeVersions_87 : decode cX12_takeVersions 87 = .ok (.goto (-57), 3) := by decide +kernel
theorem dX12_takeVersions_90 : decode cX12_takeVersions 90 = .ok (.return_, 1) := by decide +kernel
theorem dX12_stands_0 : decode cX12_stands 0 = .ok (.aload_n 0, 1) := by decide +kernel
theorem dX12_stands_1 : decode cX12_stands 1 = .ok (.getfield 29, 3) := by decide +kernel
theorem dX12_stands_4 : decode cX12_stands 4 = .ok (.iload_n 1, 1) := by decide +kernel
theorem dX12_stands_5 : decode cX12_stands 5 = .ok (.iaload, 1) := by decide +kernel
theorem dX12_stands_6 : decode cX12_stands 6 = .ok (.istore_n 2, 1) := by decide +kernel
theorem dX12_stands_7 : decode cX12_stands 7 = .ok (.aload_n 0, 1) := by decide +kernel
theorem dX12_stands_8 : decode cX12_stands 8 = .ok (.getfield 44, 3) := by decide +kernel
theorem dX12_stands_11 : decode cX12_stands 11 = .ok (.iload_n 2, 1) := by decide +kernel
theorem dX12_stands_12 : decode cX12_stands 12 = .ok (.iaload, 1) := by decide +kernel
theorem dX12_stands_13 : decode cX12_stands 13 = .ok (.aload_n 0, 1) := by decide +kernel
theorem dX12_stands_14 : decode cX12_stands 14 = .ok (.getfield 32, 3) := by decide +kernel
theorem dX12_stands_17 : decode cX12_stands 17 = .ok (.iload_n 1, 1) := by decide +kernel
theorem dX12_stands_18 : decode cX12_stands 18 = .ok (.iaload, 1) := by decide +kernel
theorem dX12_stands_19 : decode cX12_stands 19 = .ok (.aload_n 0, 1) := by decide +kernel
theorem dX12_stands_20 : decode cX12_stands 20 = .ok (.getfield 35, 3) := by decide +kernel
theorem dX12_stands_23 : decode cX12_stands 23 = .ok (.iload_n 1, 1) := by decide +kernel
theorem dX12_stands_24 : decode cX12_stands 24 = .ok (.iaload, 1) := by decide +kernel
theorem dX12_stands_25 : decode cX12_stands 25 = .ok (.invokestatic 99, 3) := by decide +kernel
theorem dX12_stands_28 : decode cX12_stands 28 = .ok (.istore_n 3, 1) := by decide +kernel
theorem dX12_stands_29 : decode cX12_stands 29 = .ok (.iload_n 3, 1) := by decide +kernel
theorem dX12_stands_30 : decode cX12_stands 30 = .ok (.ifCond .eq 45, 3) := by decide +kernel
theorem dX12_stands_33 : decode cX12_stands 33 = .ok (.aload_n 0, 1) := by decide +kernel
theorem dX12_stands_34 : decode cX12_stands 34 = .ok (.getfield 26, 3) := by decide +kernel
theorem dX12_stands_37 : decode cX12_stands 37 = .ok (.iload_n 1, 1) := by decide +kernel
theorem dX12_stands_38 : decode cX12_stands 38 = .ok (.iaload, 1) := by decide +kernel
theorem dX12_stands_39 : decode cX12_stands 39 = .ok (.iconst 2, 1) := by decide +kernel
theorem dX12_stands_40 : decode cX12_stands 40 = .ok (.if_icmp .ne 12, 3) := by decide +kernel
theorem dX12_stands_43 : decode cX12_stands 43 = .ok (.aload_n 0, 1) := by decide +kernel
theorem dX12_stands_44 : decode cX12_stands 44 = .ok (.getfield 20, 3) := by decide +kernel
theorem dX12_stands_47 : decode cX12_stands 47 = .ok (.iload_n 2, 1) := by decide +kernel
theorem dX12_stands_48 : decode cX12_stands 48 = .ok (.baload, 1) := by decide +kernel
theorem dX12_stands_49 : decode cX12_stands 49 = .ok (.ifCond .ne 26, 3) := by decide +kernel
theorem dX12_stands_52 : decode cX12_stands 52 = .ok (.aload_n 0, 1) := by decide +kernel
theorem dX12_stands_53 : decode cX12_stands 53 = .ok (.getfield 26, 3) := by decide +kernel
theorem dX12_stands_56 : decode cX12_stands 56 = .ok (.iload_n 1, 1) := by decide +kernel
theorem dX12_stands_57 : decode cX12_stands 57 = .ok (.iaload, 1) := by decide +kernel
theorem dX12_stands_58 : decode cX12_stands 58 = .ok (.iconst 4, 1) := by decide +kernel
theorem dX12_stands_59 : decode cX12_stands 59 = .ok (.if_icmp .ne 12, 3) := by decide +kernel
theorem dX12_stands_62 : decode cX12_stands 62 = .ok (.aload_n 0, 1) := by decide +kernel
theorem dX12_stands_63 : decode cX12_stands 63 = .ok (.getfield 41, 3) := by decide +kernel
theorem dX12_stands_66 : decode cX12_stands 66 = .ok (.iload_n 1, 1) := by decide +kernel
theorem dX12_stands_67 : decode cX12_stands 67 = .ok (.baload, 1) := by decide +kernel
theorem dX12_stands_68 : decode cX12_stands 68 = .ok (.ifCond .eq 7, 3) := by decide +kernel
theorem dX12_stands_71 : decode cX12_stands 71 = .ok (.iconst 1, 1) := by decide +kernel
theorem dX12_stands_72 : decode cX12_stands 72 = .ok (.goto 4, 3) := by decide +kernel
theorem dX12_stands_75 : decode cX12_stands 75 = .ok (.iconst 0, 1) := by decide +kernel
theorem dX12_stands_76 : decode cX12_stands 76 = .ok (.ireturn, 1) := by decide +kernel
theorem dX12_opens_0 : decode cX12_opens 0 = .ok (.iload_n 1, 1) := by decide +kernel
theorem dX12_opens_1 : decode cX12_opens 1 = .ok (.istore_n 3, 1) := by decide +kernel
theorem dX12_opens_2 : decode cX12_opens 2 = .ok (.aload_n 0, 1) := by decide +kernel
theorem dX12_opens_3 : decode cX12_opens 3 = .ok (.iload_n 3, 1) := by decide +kernel
theorem dX12_opens_4 : decode cX12_opens 4 = .ok (.invokevirtual 126, 3) := by decide +kernel
theorem dX12_opens_7 : decode cX12_opens 7 = .ok (.ifCond .eq 91, 3) := by decide +kernel
theorem dX12_opens_10 : decode cX12_opens 10 = .ok (.aload_n 0, 1) := by decide +kernel
theorem dX12_opens_11 : decode cX12_opens 11 = .ok (.getfield 26, 3) := by decide +kernel
theorem dX12_opens_14 : decode cX12_opens 14 = .ok (.iload_n 3, 1) := by decide +kernel
theorem dX12_opens_15 : decode cX12_opens 15 = .ok (.iaload, 1) := by decide +kernel
theorem dX12_opens_16 : decode cX12_opens 16 = .ok (.iconst 1, 1) := by decide +kernel
theorem dX12_opens_17 : decode cX12_opens 17 = .ok (.if_icmp .eq 5, 3) := by decide +kernel
theorem dX12_opens_20 : decode cX12_opens 20 = .ok (.iconst 1, 1) := by decide +kernel
theorem dX12_opens_21 : decode cX12_opens 21 = .ok (.ireturn, 1) := by decide +kernel
theorem dX12_opens_22 : decode cX12_opens 22 = .ok (.aload_n 0, 1) := by decide +kernel
theorem dX12_opens_23 : decode cX12_opens 23 = .ok (.getfield 38, 3) := by decide +kernel
theorem dX12_opens_26 : decode cX12_opens 26 = .ok (.iload_n 3, 1) := by decide +kernel
theorem dX12_opens_27 : decode cX12_opens 27 = .ok (.iaload, 1) := by decide +kernel
theorem dX12_opens_28 : decode cX12_opens 28 = .ok (.istore 4, 2) := by decide +kernel
theorem dX12_opens_30 : decode cX12_opens 30 = .ok (.aload_n 0, 1) := by decide +kernel
theorem dX12_opens_31 : decode cX12_opens 31 = .ok (.getfield 29, 3) := by decide +kernel
theorem dX12_opens_34 : decode cX12_opens 34 = .ok (.iload 4, 2) := by decide +kernel
theorem dX12_opens_36 : decode cX12_opens 36 = .ok (.iaload, 1) := by decide +kernel
theorem dX12_opens_37 : decode cX12_opens 37 = .ok (.aload_n 0, 1) := by decide +kernel
theorem dX12_opens_38 : decode cX12_opens 38 = .ok (.getfield 29, 3) := by decide +kernel
theorem dX12_opens_41 : decode cX12_opens 41 = .ok (.iload_n 1, 1) := by decide +kernel
theorem dX12_opens_42 : decode cX12_opens 42 = .ok (.iaload, 1) := by decide +kernel
theorem dX12_opens_43 : decode cX12_opens 43 = .ok (.if_icmp .eq 49, 3) := by decide +kernel
theorem dX12_opens_46 : decode cX12_opens 46 = .ok (.aload_n 0, 1) := by decide +kernel
theorem dX12_opens_47 : decode cX12_opens 47 = .ok (.iload 4, 2) := by decide +kernel
theorem dX12_opens_49 : decode cX12_opens 49 = .ok (.invokevirtual 126, 3) := by decide +kernel
theorem dX12_opens_52 : decode cX12_opens 52 = .ok (.ifCond .eq 38, 3) := by decide +kernel
theorem dX12_opens_55 : decode cX12_opens 55 = .ok (.aload_n 0, 1) := by decide +kernel
theorem dX12_opens_56 : decode cX12_opens 56 = .ok (.getfield 47, 3) := by decide +kernel
theorem dX12_opens_59 : decode cX12_opens 59 = .ok (.aload_n 0, 1) := by decide +kernel
theorem dX12_opens_60 : decode cX12_opens 60 = .ok (.getfield 29, 3) := by decide +kernel
theorem dX12_opens_63 : decode cX12_opens 63 = .ok (.iload 4, 2) := by decide +kernel
theorem dX12_opens_65 : decode cX12_opens 65 = .ok (.iaload, 1) := by decide +kernel
theorem dX12_opens_66 : decode cX12_opens 66 = .ok (.iaload, 1) := by decide +kernel
theorem dX12_opens_67 : decode cX12_opens 67 = .ok (.ifCond .le 23, 3) := by decide +kernel
theorem dX12_opens_70 : decode cX12_opens 70 = .ok (.aload_n 0, 1) := by decide +kernel
theorem dX12_opens_71 : decode cX12_opens 71 = .ok (.getfield 47, 3) := by decide +kernel
theorem dX12_opens_74 : decode cX12_opens 74 = .ok (.aload_n 0, 1) := by decide +kernel
theorem dX12_opens_75 : decode cX12_opens 75 = .ok (.getfield 29, 3) := by decide +kernel
theorem dX12_opens_78 : decode cX12_opens 78 = .ok (.iload 4, 2) := by decide +kernel
theorem dX12_opens_80 : decode cX12_opens 80 = .ok (.iaload, 1) := by decide +kernel
theorem dX12_opens_81 : decode cX12_opens 81 = .ok (.iaload, 1) := by decide +kernel
theorem dX12_opens_82 : decode cX12_opens 82 = .ok (.iload_n 2, 1) := by decide +kernel
theorem dX12_opens_83 : decode cX12_opens 83 = .ok (.if_icmp .ge 7, 3) := by decide +kernel
theorem dX12_opens_86 : decode cX12_opens 86 = .ok (.iconst 1, 1) := by decide +kernel
theorem dX12_opens_87 : decode cX12_opens 87 = .ok (.goto 4, 3) := by decide +kernel
theorem dX12_opens_90 : decode cX12_opens 90 = .ok (.iconst 0, 1) := by decide +kernel
theorem dX12_opens_91 : decode cX12_opens 91 = .ok (.ireturn, 1) := by decide +kernel
theorem dX12_opens_92 : decode cX12_opens 92 = .ok (.iload 4, 2) := by decide +kernel
theorem dX12_opens_94 : decode cX12_opens 94 = .ok (.istore_n 3, 1) := by decide +kernel
theorem dX12_opens_95 : decode cX12_opens 95 = .ok (.goto (-93), 3) := by decide +kernel
theorem dX12_opens_98 : decode cX12_opens 98 = .ok (.iconst 0, 1) := by decide +kernel
theorem dX12_opens_99 : decode cX12_opens 99 = .ok (.ireturn, 1) := by decide +kernel
theorem dX12_fromFor_0 : decode cX12_fromFor 0 = .ok (.iconst 0, 1) := by decide +kernel
theorem dX12_fromFor_1 : decode cX12_fromFor 1 = .ok (.istore_n 3, 1) := by decide +kernel
theorem dX12_fromFor_2 : decode cX12_fromFor 2 = .ok (.iload_n 3, 1) := by decide +kernel
theorem dX12_fromFor_3 : decode cX12_fromFor 3 = .ok (.aload_n 0, 1) := by decide +kernel
theorem dX12_fromFor_4 : decode cX12_fromFor 4 = .ok (.getfield 95, 3) := by decide +kernel
theorem dX12_fromFor_7 : decode cX12_fromFor 7 = .ok (.if_icmp .ge 44, 3) := by decide +kernel
theorem dX12_fromFor_10 : decode cX12_fromFor 10 = .ok (.aload_n 0, 1) := by decide +kernel
theorem dX12_fromFor_11 : decode cX12_fromFor 11 = .ok (.getfield 23, 3) := by decide +kernel
theorem dX12_fromFor_14 : decode cX12_fromFor 14 = .ok (.bipush 8, 2) := by decide +kernel
theorem dX12_fromFor_16 : decode cX12_fromFor 16 = .ok (.iload_n 3, 1) := by decide +kernel
theorem dX12_fromFor_17 : decode cX12_fromFor 17 = .ok (.imul, 1) := by decide +kernel
theorem dX12_fromFor_18 : decode cX12_fromFor 18 = .ok (.iload_n 1, 1) := by decide +kernel
theorem dX12_fromFor_19 : decode cX12_fromFor 19 = .ok (.iadd, 1) := by decide +kernel
theorem dX12_fromFor_20 : decode cX12_fromFor 20 = .ok (.baload, 1) := by decide +kernel
theorem dX12_fromFor_21 : decode cX12_fromFor 21 = .ok (.ifCond .eq 24, 3) := by decide +kernel
theorem dX12_fromFor_24 : decode cX12_fromFor 24 = .ok (.aload_n 0, 1) := by decide +kernel
theorem dX12_fromFor_25 : decode cX12_fromFor 25 = .ok (.getfield 47, 3) := by decide +kernel
theorem dX12_fromFor_28 : decode cX12_fromFor 28 = .ok (.iload_n 3, 1) := by decide +kernel
theorem dX12_fromFor_29 : decode cX12_fromFor 29 = .ok (.iaload, 1) := by decide +kernel
theorem dX12_fromFor_30 : decode cX12_fromFor 30 = .ok (.ifCond .le 15, 3) := by decide +kernel
theorem dX12_fromFor_33 : decode cX12_fromFor 33 = .ok (.aload_n 0, 1) := by decide +kernel
theorem dX12_fromFor_34 : decode cX12_fromFor 34 = .ok (.getfield 47, 3) := by decide +kernel
theorem dX12_fromFor_37 : decode cX12_fromFor 37 = .ok (.iload_n 3, 1) := by decide +kernel
theorem dX12_fromFor_38 : decode cX12_fromFor 38 = .ok (.iaload, 1) := by decide +kernel
theorem dX12_fromFor_39 : decode cX12_fromFor 39 = .ok (.iload_n 2, 1) := by decide +kernel
theorem dX12_fromFor_40 : decode cX12_fromFor 40 = .ok (.if_icmp .ge 5, 3) := by decide +kernel
theorem dX12_fromFor_43 : decode cX12_fromFor 43 = .ok (.iload_n 3, 1) := by decide +kernel
theorem dX12_fromFor_44 : decode cX12_fromFor 44 = .ok (.ireturn, 1) := by decide +kernel
theorem dX12_fromFor_45 : decode cX12_fromFor 45 = .ok (.iinc 3 1, 3) := by decide +kernel
theorem dX12_fromFor_48 : decode cX12_fromFor 48 = .ok (.goto (-46), 3) := by decide +kernel
theorem dX12_fromFor_51 : decode cX12_fromFor 51 = .ok (.bipush (-4), 2) := by decide +kernel
theorem dX12_fromFor_53 : decode cX12_fromFor 53 = .ok (.ireturn, 1) := by decide +kernel
theorem dX12_take_0 : decode cX12_take 0 = .ok (.iconst 0, 1) := by decide +kernel
theorem dX12_take_1 : decode cX12_take 1 = .ok (.istore_n 1, 1) := by decide +kernel
theorem dX12_take_2 : decode cX12_take 2 = .ok (.iload_n 1, 1) := by decide +kernel
theorem dX12_take_3 : decode cX12_take 3 = .ok (.aload_n 0, 1) := by decide +kernel
theorem dX12_take_4 : decode cX12_take 4 = .ok (.getfield 95, 3) := by decide +kernel
theorem dX12_take_7 : decode cX12_take 7 = .ok (.if_icmp .ge 16, 3) := by decide +kernel
theorem dX12_take_10 : decode cX12_take 10 = .ok (.aload_n 0, 1) := by decide +kernel
theorem dX12_take_11 : decode cX12_take 11 = .ok (.getfield 47, 3) := by decide +kernel
theorem dX12_take_14 : decode cX12_take 14 = .ok (.iload_n 1, 1) := by decide +kernel
theorem dX12_take_15 : decode cX12_take 15 = .ok (.iconst 0, 1) := by decide +kernel
theorem dX12_take_16 : decode cX12_take 16 = .ok (.iastore, 1) := by decide +kernel
theorem dX12_take_17 : decode cX12_take 17 = .ok (.iinc 1 1, 3) := by decide +kernel
theorem dX12_take_20 : decode cX12_take 20 = .ok (.goto (-18), 3) := by decide +kernel
theorem dX12_take_23 : decode cX12_take 23 = .ok (.iconst 1, 1) := by decide +kernel
theorem dX12_take_24 : decode cX12_take 24 = .ok (.istore_n 1, 1) := by decide +kernel
theorem dX12_take_25 : decode cX12_take 25 = .ok (.iconst 1, 1) := by decide +kernel
theorem dX12_take_26 : decode cX12_take 26 = .ok (.istore_n 2, 1) := by decide +kernel
theorem dX12_take_27 : decode cX12_take 27 = .ok (.iload_n 1, 1) := by decide +kernel
theorem dX12_take_28 : decode cX12_take 28 = .ok (.ifCond .eq 137, 3) := by decide +kernel
theorem dX12_take_31 : decode cX12_take 31 = .ok (.iconst 0, 1) := by decide +kernel
theorem dX12_take_32 : decode cX12_take 32 = .ok (.istore_n 1, 1) := by decide +kernel
theorem dX12_take_33 : decode cX12_take 33 = .ok (.iconst 0, 1) := by decide +kernel
theorem dX12_take_34 : decode cX12_take 34 = .ok (.istore_n 3, 1) := by decide +kernel
theorem dX12_take_35 : decode cX12_take 35 = .ok (.iload_n 3, 1) := by decide +kernel
theorem dX12_take_36 : decode cX12_take 36 = .ok (.aload_n 0, 1) := by decide +kernel
theorem dX12_take_37 : decode cX12_take 37 = .ok (.getfield 95, 3) := by decide +kernel
theorem dX12_take_40 : decode cX12_take 40 = .ok (.if_icmp .ge 119, 3) := by decide +kernel
theorem dX12_take_43 : decode cX12_take 43 = .ok (.aload_n 0, 1) := by decide +kernel
theorem dX12_take_44 : decode cX12_take 44 = .ok (.getfield 16, 3) := by decide +kernel
theorem dX12_take_47 : decode cX12_take 47 = .ok (.iload_n 3, 1) := by decide +kernel
theorem dX12_take_48 : decode cX12_take 48 = .ok (.baload, 1) := by decide +kernel
theorem dX12_take_49 : decode cX12_take 49 = .ok (.ifCond .eq 7, 3) := by decide +kernel
theorem dX12_take_52 : decode cX12_take 52 = .ok (.iconst (-1), 1) := by decide +kernel
theorem dX12_take_53 : decode cX12_take 53 = .ok (.goto 9, 3) := by decide +kernel
theorem dX12_take_56 : decode cX12_take 56 = .ok (.aload_n 0, 1) := by decide +kernel
theorem dX12_take_57 : decode cX12_take 57 = .ok (.iload_n 3, 1) := by decide +kernel
theorem dX12_take_58 : decode cX12_take 58 = .ok (.iload_n 2, 1) := by decide +kernel
theorem dX12_take_59 : decode cX12_take 59 = .ok (.invokevirtual 129, 3) := by decide +kernel
theorem dX12_take_62 : decode cX12_take 62 = .ok (.istore 4, 2) := by decide +kernel
theorem dX12_take_64 : decode cX12_take 64 = .ok (.aload_n 0, 1) := by decide +kernel
theorem dX12_take_65 : decode cX12_take 65 = .ok (.getfield 47, 3) := by decide +kernel
theorem dX12_take_68 : decode cX12_take 68 = .ok (.iload_n 3, 1) := by decide +kernel
theorem dX12_take_69 : decode cX12_take 69 = .ok (.iaload, 1) := by decide +kernel
theorem dX12_take_70 : decode cX12_take 70 = .ok (.ifCond .ne 83, 3) := by decide +kernel
theorem dX12_take_73 : decode cX12_take 73 = .ok (.iload 4, 2) := by decide +kernel
theorem dX12_take_75 : decode cX12_take 75 = .ok (.bipush (-4), 2) := by decide +kernel
theorem dX12_take_77 : decode cX12_take 77 = .ok (.if_icmp .eq 76, 3) := by decide +kernel
theorem dX12_take_80 : decode cX12_take 80 = .ok (.iconst 0, 1) := by decide +kernel
theorem dX12_take_81 : decode cX12_take 81 = .ok (.istore 5, 2) := by decide +kernel
theorem dX12_take_83 : decode cX12_take 83 = .ok (.iload 5, 2) := by decide +kernel
theorem dX12_take_85 : decode cX12_take 85 = .ok (.aload_n 0, 1) := by decide +kernel
theorem dX12_take_86 : decode cX12_take 86 = .ok (.getfield 110, 3) := by decide +kernel
theorem dX12_take_89 : decode cX12_take 89 = .ok (.if_icmp .ge 64, 3) := by decide +kernel
theorem dX12_take_92 : decode cX12_take 92 = .ok (.aload_n 0, 1) := by decide +kernel
theorem dX12_take_93 : decode cX12_take 93 = .ok (.getfield 47, 3) := by decide +kernel
theorem dX12_take_96 : decode cX12_take 96 = .ok (.iload_n 3, 1) := by decide +kernel
theorem dX12_take_97 : decode cX12_take 97 = .ok (.iaload, 1) := by decide +kernel
theorem dX12_take_98 : decode cX12_take 98 = .ok (.ifCond .ne 55, 3) := by decide +kernel
theorem dX12_take_101 : decode cX12_take 101 = .ok (.aload_n 0, 1) := by decide +kernel
theorem dX12_take_102 : decode cX12_take 102 = .ok (.getfield 29, 3) := by decide +kernel
theorem dX12_take_105 : decode cX12_take 105 = .ok (.iload 5, 2) := by decide +kernel
theorem dX12_take_107 : decode cX12_take 107 = .ok (.iaload, 1) := by decide +kernel
theorem dX12_take_108 : decode cX12_take 108 = .ok (.iload_n 3, 1) := by decide +kernel
theorem dX12_take_109 : decode cX12_take 109 = .ok (.if_icmp .ne 38, 3) := by decide +kernel
theorem dX12_take_112 : decode cX12_take 112 = .ok (.aload_n 0, 1) := by decide +kernel
theorem dX12_take_113 : decode cX12_take 113 = .ok (.iload 5, 2) := by decide +kernel
theorem dX12_take_115 : decode cX12_take 115 = .ok (.iload_n 2, 1) := by decide +kernel
theorem dX12_take_116 : decode cX12_take 116 = .ok (.invokevirtual 133, 3) := by decide +kernel
theorem dX12_take_119 : decode cX12_take 119 = .ok (.ifCond .eq 28, 3) := by decide +kernel
theorem dX12_take_122 : decode cX12_take 122 = .ok (.aload_n 0, 1) := by decide +kernel
theorem dX12_take_123 : decode cX12_take 123 = .ok (.getfield 47, 3) := by decide +kernel
theorem dX12_take_126 : decode cX12_take 126 = .ok (.iload_n 3, 1) := by decide +kernel
theorem dX12_take_127 : decode cX12_take 127 = .ok (.iload_n 2, 1) := by decide +kernel
theorem dX12_take_128 : decode cX12_take 128 = .ok (.iastore, 1) := by decide +kernel
theorem dX12_take_129 : decode cX12_take 129 = .ok (.aload_n 0, 1) := by decide +kernel
theorem dX12_take_130 : decode cX12_take 130 = .ok (.getfield 50, 3) := by decide +kernel
theorem dX12_take_133 : decode cX12_take 133 = .ok (.iload_n 3, 1) := by decide +kernel
theorem dX12_take_134 : decode cX12_take 134 = .ok (.iload 5, 2) := by decide +kernel
theorem dX12_take_136 : decode cX12_take 136 = .ok (.iastore, 1) := by decide +kernel
theorem dX12_take_137 : decode cX12_take 137 = .ok (.aload_n 0, 1) := by decide +kernel
theorem dX12_take_138 : decode cX12_take 138 = .ok (.getfield 53, 3) := by decide +kernel
theorem dX12_take_141 : decode cX12_take 141 = .ok (.iload_n 3, 1) := by decide +kernel
theorem dX12_take_142 : decode cX12_take 142 = .ok (.iload 4, 2) := by decide +kernel
theorem dX12_take_144 : decode cX12_take 144 = .ok (.iastore, 1) := by decide +kernel
theorem dX12_take_145 : decode cX12_take 145 = .ok (.iconst 1, 1) := by decide +kernel
theorem dX12_take_146 : decode cX12_take 146 = .ok (.istore_n 1, 1) := by decide +kernel
theorem dX12_take_147 : decode cX12_take 147 = .ok (.iinc 5 1, 3) := by decide +kernel
theorem dX12_take_150 : decode cX12_take 150 = .ok (.goto (-67), 3) := by decide +kernel
theorem dX12_take_153 : decode cX12_take 153 = .ok (.iinc 3 1, 3) := by decide +kernel
theorem dX12_take_156 : decode cX12_take 156 = .ok (.goto (-121), 3) := by decide +kernel
theorem dX12_take_159 : decode cX12_take 159 = .ok (.iinc 2 1, 3) := by decide +kernel
theorem dX12_take_162 : decode cX12_take 162 = .ok (.goto (-135), 3) := by decide +kernel
theorem dX12_take_165 : decode cX12_take 165 = .ok (.return_, 1) := by decide +kernel
theorem dX12_riskNow_0 : decode cX12_riskNow 0 = .ok (.aload_n 0, 1) := by decide +kernel
theorem dX12_riskNow_1 : decode cX12_riskNow 1 = .ok (.invokevirtual 137, 3) := by decide +kernel
theorem dX12_riskNow_4 : decode cX12_riskNow 4 = .ok (.iconst 0, 1) := by decide +kernel
theorem dX12_riskNow_5 : decode cX12_riskNow 5 = .ok (.istore_n 1, 1) := by decide +kernel
theorem dX12_riskNow_6 : decode cX12_riskNow 6 = .ok (.iconst 0, 1) := by decide +kernel
theorem dX12_riskNow_7 : decode cX12_riskNow 7 = .ok (.istore_n 2, 1) := by decide +kernel
theorem dX12_riskNow_8 : decode cX12_riskNow 8 = .ok (.iload_n 2, 1) := by decide +kernel
theorem dX12_riskNow_9 : decode cX12_riskNow 9 = .ok (.aload_n 0, 1) := by decide +kernel
theorem dX12_riskNow_10 : decode cX12_riskNow 10 = .ok (.getfield 95, 3) := by decide +kernel
theorem dX12_riskNow_13 : decode cX12_riskNow 13 = .ok (.if_icmp .ge 103, 3) := by decide +kernel
theorem dX12_riskNow_16 : decode cX12_riskNow 16 = .ok (.aload_n 0, 1) := by decide +kernel
theorem dX12_riskNow_17 : decode cX12_riskNow 17 = .ok (.getfield 47, 3) := by decide +kernel
theorem dX12_riskNow_20 : decode cX12_riskNow 20 = .ok (.iload_n 2, 1) := by decide +kernel
theorem dX12_riskNow_21 : decode cX12_riskNow 21 = .ok (.iaload, 1) := by decide +kernel
theorem dX12_riskNow_22 : decode cX12_riskNow 22 = .ok (.ifCond .le 88, 3) := by decide +kernel
theorem dX12_riskNow_25 : decode cX12_riskNow 25 = .ok (.iconst 0, 1) := by decide +kernel
theorem dX12_riskNow_26 : decode cX12_riskNow 26 = .ok (.istore_n 3, 1) := by decide +kernel
theorem dX12_riskNow_27 : decode cX12_riskNow 27 = .ok (.iconst 0, 1) := by decide +kernel
theorem dX12_riskNow_28 : decode cX12_riskNow 28 = .ok (.istore 4, 2) := by decide +kernel
theorem dX12_riskNow_30 : decode cX12_riskNow 30 = .ok (.iload 4, 2) := by decide +kernel
theorem dX12_riskNow_32 : decode cX12_riskNow 32 = .ok (.aload_n 0, 1) := by decide +kernel
theorem dX12_riskNow_33 : decode cX12_riskNow 33 = .ok (.getfield 110, 3) := by decide +kernel
theorem dX12_riskNow_36 : decode cX12_riskNow 36 = .ok (.if_icmp .ge 50, 3) := by decide +kernel
theorem dX12_riskNow_39 : decode cX12_riskNow 39 = .ok (.iload_n 3, 1) := by decide +kernel
theorem dX12_riskNow_40 : decode cX12_riskNow 40 = .ok (.ifCond .ne 34, 3) := by decide +kernel
theorem dX12_riskNow_43 : decode cX12_riskNow 43 = .ok (.aload_n 0, 1) := by decide +kernel
theorem dX12_riskNow_44 : decode cX12_riskNow 44 = .ok (.getfield 29, 3) := by decide +kernel
theorem dX12_riskNow_47 : decode cX12_riskNow 47 = .ok (.iload 4, 2) := by decide +kernel
theorem dX12_riskNow_49 : decode cX12_riskNow 49 = .ok (.iaload, 1) := by decide +kernel
theorem dX12_riskNow_50 : decode cX12_riskNow 50 = .ok (.iload_n 2, 1) := by decide +kernel
theorem dX12_riskNow_51 : decode cX12_riskNow 51 = .ok (.if_icmp .ne 27, 3) := by decide +kernel
theorem dX12_riskNow_54 : decode cX12_riskNow 54 = .ok (.aload_n 0, 1) := by decide +kernel
theorem dX12_riskNow_55 : decode cX12_riskNow 55 = .ok (.getfield 26, 3) := by decide +kernel
theorem dX12_riskNow_58 : decode cX12_riskNow 58 = .ok (.iload 4, 2) := by decide +kernel
theorem dX12_riskNow_60 : decode cX12_riskNow 60 = .ok (.iaload, 1) := by decide +kernel
theorem dX12_riskNow_61 : decode cX12_riskNow 61 = .ok (.iconst 3, 1) := by decide +kernel
theorem dX12_riskNow_62 : decode cX12_riskNow 62 = .ok (.if_icmp .ne 16, 3) := by decide +kernel
theorem dX12_riskNow_65 : decode cX12_riskNow 65 = .ok (.aload_n 0, 1) := by decide +kernel
theorem dX12_riskNow_66 : decode cX12_riskNow 66 = .ok (.iload 4, 2) := by decide +kernel
theorem dX12_riskNow_68 : decode cX12_riskNow 68 = .ok (.invokevirtual 126, 3) := by decide +kernel
theorem dX12_riskNow_71 : decode cX12_riskNow 71 = .ok (.ifCond .eq 7, 3) := by decide +kernel
theorem dX12_riskNow_74 : decode cX12_riskNow 74 = .ok (.iconst 1, 1) := by decide +kernel
theorem dX12_riskNow_75 : decode cX12_riskNow 75 = .ok (.goto 4, 3) := by decide +kernel
theorem dX12_riskNow_78 : decode cX12_riskNow 78 = .ok (.iconst 0, 1) := by decide +kernel
theorem dX12_riskNow_79 : decode cX12_riskNow 79 = .ok (.istore_n 3, 1) := by decide +kernel
theorem dX12_riskNow_80 : decode cX12_riskNow 80 = .ok (.iinc 4 1, 3) := by decide +kernel
theorem dX12_riskNow_83 : decode cX12_riskNow 83 = .ok (.goto (-53), 3) := by decide +kernel
theorem dX12_riskNow_86 : decode cX12_riskNow 86 = .ok (.iload_n 1, 1) := by decide +kernel
theorem dX12_riskNow_87 : decode cX12_riskNow 87 = .ok (.iload_n 3, 1) := by decide +kernel
theorem dX12_riskNow_88 : decode cX12_riskNow 88 = .ok (.ifCond .eq 14, 3) := by decide +kernel
theorem dX12_riskNow_91 : decode cX12_riskNow 91 = .ok (.iconst 2, 1) := by decide +kernel
theorem dX12_riskNow_92 : decode cX12_riskNow 92 = .ok (.aload_n 0, 1) := by decide +kernel
theorem dX12_riskNow_93 : decode cX12_riskNow 93 = .ok (.getfield 13, 3) := by decide +kernel
theorem dX12_riskNow_96 : decode cX12_riskNow 96 = .ok (.iload_n 2, 1) := by decide +kernel
theorem dX12_riskNow_97 : decode cX12_riskNow 97 = .ok (.iaload, 1) := by decide +kernel
theorem dX12_riskNow_98 : decode cX12_riskNow 98 = .ok (.imul, 1) := by decide +kernel
theorem dX12_riskNow_99 : decode cX12_riskNow 99 = .ok (.goto 9, 3) := by decide +kernel
theorem dX12_riskNow_102 : decode cX12_riskNow 102 = .ok (.aload_n 0, 1) := by decide +kernel
theorem dX12_riskNow_103 : decode cX12_riskNow 103 = .ok (.getfield 13, 3) := by decide +kernel
theorem dX12_riskNow_106 : decode cX12_riskNow 106 = .ok (.iload_n 2, 1) := by decide +kernel
theorem dX12_riskNow_107 : decode cX12_riskNow 107 = .ok (.iaload, 1) := by decide +kernel
theorem dX12_riskNow_108 : decode cX12_riskNow 108 = .ok (.iadd, 1) := by decide +kernel
theorem dX12_riskNow_109 : decode cX12_riskNow 109 = .ok (.istore_n 1, 1) := by decide +kernel
theorem dX12_riskNow_110 : decode cX12_riskNow 110 = .ok (.iinc 2 1, 3) := by decide +kernel
theorem dX12_riskNow_113 : decode cX12_riskNow 113 = .ok (.goto (-105), 3) := by decide +kernel
theorem dX12_riskNow_116 : decode cX12_riskNow 116 = .ok (.iload_n 1, 1) := by decide +kernel
theorem dX12_riskNow_117 : decode cX12_riskNow 117 = .ok (.ireturn, 1) := by decide +kernel
theorem dX12_riskOf_0 : decode cX12_riskOf 0 = .ok (.aload_n 0, 1) := by decide +kernel
theorem dX12_riskOf_1 : decode cX12_riskOf 1 = .ok (.iload_n 1, 1) := by decide +kernel
theorem dX12_riskOf_2 : decode cX12_riskOf 2 = .ok (.invokevirtual 140, 3) := by decide +kernel
theorem dX12_riskOf_5 : decode cX12_riskOf 5 = .ok (.aload_n 0, 1) := by decide +kernel
theorem dX12_riskOf_6 : decode cX12_riskOf 6 = .ok (.invokevirtual 144, 3) := by decide +kernel
theorem dX12_riskOf_9 : decode cX12_riskOf 9 = .ok (.ireturn, 1) := by decide +kernel
theorem dX12_told_0 : decode cX12_told 0 = .ok (.aload_n 0, 1) := by decide +kernel
theorem dX12_told_1 : decode cX12_told 1 = .ok (.iload_n 1, 1) := by decide +kernel
theorem dX12_told_2 : decode cX12_told 2 = .ok (.invokevirtual 120, 3) := by decide +kernel
theorem dX12_told_5 : decode cX12_told 5 = .ok (.ifCond .ne 5, 3) := by decide +kernel
theorem dX12_told_8 : decode cX12_told 8 = .ok (.iconst (-1), 1) := by decide +kernel
theorem dX12_told_9 : decode cX12_told 9 = .ok (.ireturn, 1) := by decide +kernel
theorem dX12_told_10 : decode cX12_told 10 = .ok (.aload_n 0, 1) := by decide +kernel
theorem dX12_told_11 : decode cX12_told 11 = .ok (.iconst 0, 1) := by decide +kernel
theorem dX12_told_12 : decode cX12_told 12 = .ok (.invokevirtual 140, 3) := by decide +kernel
theorem dX12_told_15 : decode cX12_told 15 = .ok (.iload_n 2, 1) := by decide +kernel
theorem dX12_told_16 : decode cX12_told 16 = .ok (.tableswitch 78 0 4 #[36, 43, 50, 57, 64], 36) := by decide +kernel
theorem dX12_told_52 : decode cX12_told 52 = .ok (.aload_n 0, 1) := by decide +kernel
theorem dX12_told_53 : decode cX12_told 53 = .ok (.getfield 26, 3) := by decide +kernel
theorem dX12_told_56 : decode cX12_told 56 = .ok (.iload_n 1, 1) := by decide +kernel
theorem dX12_told_57 : decode cX12_told 57 = .ok (.iaload, 1) := by decide +kernel
theorem dX12_told_58 : decode cX12_told 58 = .ok (.ireturn, 1) := by decide +kernel
theorem dX12_told_59 : decode cX12_told 59 = .ok (.aload_n 0, 1) := by decide +kernel
theorem dX12_told_60 : decode cX12_told 60 = .ok (.getfield 29, 3) := by decide +kernel
theorem dX12_told_63 : decode cX12_told 63 = .ok (.iload_n 1, 1) := by decide +kernel
theorem dX12_told_64 : decode cX12_told 64 = .ok (.iaload, 1) := by decide +kernel
theorem dX12_told_65 : decode cX12_told 65 = .ok (.ireturn, 1) := by decide +kernel
theorem dX12_told_66 : decode cX12_told 66 = .ok (.aload_n 0, 1) := by decide +kernel
theorem dX12_told_67 : decode cX12_told 67 = .ok (.getfield 32, 3) := by decide +kernel
theorem dX12_told_70 : decode cX12_told 70 = .ok (.iload_n 1, 1) := by decide +kernel
theorem dX12_told_71 : decode cX12_told 71 = .ok (.iaload, 1) := by decide +kernel
theorem dX12_told_72 : decode cX12_told 72 = .ok (.ireturn, 1) := by decide +kernel
theorem dX12_told_73 : decode cX12_told 73 = .ok (.aload_n 0, 1) := by decide +kernel
theorem dX12_told_74 : decode cX12_told 74 = .ok (.getfield 35, 3) := by decide +kernel
theorem dX12_told_77 : decode cX12_told 77 = .ok (.iload_n 1, 1) := by decide +kernel
theorem dX12_told_78 : decode cX12_told 78 = .ok (.iaload, 1) := by decide +kernel
theorem dX12_told_79 : decode cX12_told 79 = .ok (.ireturn, 1) := by decide +kernel
theorem dX12_told_80 : decode cX12_told 80 = .ok (.aload_n 0, 1) := by decide +kernel
theorem dX12_told_81 : decode cX12_told 81 = .ok (.iload_n 1, 1) := by decide +kernel
theorem dX12_told_82 : decode cX12_told 82 = .ok (.invokevirtual 126, 3) := by decide +kernel
theorem dX12_told_85 : decode cX12_told 85 = .ok (.ifCond .eq 7, 3) := by decide +kernel
theorem dX12_told_88 : decode cX12_told 88 = .ok (.iconst 1, 1) := by decide +kernel
theorem dX12_told_89 : decode cX12_told 89 = .ok (.goto 4, 3) := by decide +kernel
theorem dX12_told_92 : decode cX12_told 92 = .ok (.iconst 0, 1) := by decide +kernel
theorem dX12_told_93 : decode cX12_told 93 = .ok (.ireturn, 1) := by decide +kernel
theorem dX12_told_94 : decode cX12_told 94 = .ok (.iconst (-1), 1) := by decide +kernel
theorem dX12_told_95 : decode cX12_told 95 = .ok (.ireturn, 1) := by decide +kernel
theorem dX12_risk_0 : decode cX12_risk 0 = .ok (.aload_n 0, 1) := by decide +kernel
theorem dX12_risk_1 : decode cX12_risk 1 = .ok (.iconst 0, 1) := by decide +kernel
theorem dX12_risk_2 : decode cX12_risk 2 = .ok (.invokevirtual 148, 3) := by decide +kernel
theorem dX12_risk_5 : decode cX12_risk 5 = .ok (.ireturn, 1) := by decide +kernel
theorem dX12_taken_0 : decode cX12_taken 0 = .ok (.aload_n 0, 1) := by decide +kernel
theorem dX12_taken_1 : decode cX12_taken 1 = .ok (.iconst 0, 1) := by decide +kernel
theorem dX12_taken_2 : decode cX12_taken 2 = .ok (.invokevirtual 148, 3) := by decide +kernel
theorem dX12_taken_5 : decode cX12_taken 5 = .ok (.istore_n 1, 1) := by decide +kernel
theorem dX12_taken_6 : decode cX12_taken 6 = .ok (.iconst 0, 1) := by decide +kernel
theorem dX12_taken_7 : decode cX12_taken 7 = .ok (.istore_n 2, 1) := by decide +kernel
theorem dX12_taken_8 : decode cX12_taken 8 = .ok (.iconst 0, 1) := by decide +kernel
theorem dX12_taken_9 : decode cX12_taken 9 = .ok (.istore_n 3, 1) := by decide +kernel
theorem dX12_taken_10 : decode cX12_taken 10 = .ok (.iload_n 3, 1) := by decide +kernel
theorem dX12_taken_11 : decode cX12_taken 11 = .ok (.aload_n 0, 1) := by decide +kernel
theorem dX12_taken_12 : decode cX12_taken 12 = .ok (.getfield 95, 3) := by decide +kernel
theorem dX12_taken_15 : decode cX12_taken 15 = .ok (.if_icmp .ge 28, 3) := by decide +kernel
theorem dX12_taken_18 : decode cX12_taken 18 = .ok (.iload_n 2, 1) := by decide +kernel
theorem dX12_taken_19 : decode cX12_taken 19 = .ok (.aload_n 0, 1) := by decide +kernel
theorem dX12_taken_20 : decode cX12_taken 20 = .ok (.getfield 47, 3) := by decide +kernel
theorem dX12_taken_23 : decode cX12_taken 23 = .ok (.iload_n 3, 1) := by decide +kernel
theorem dX12_taken_24 : decode cX12_taken 24 = .ok (.iaload, 1) := by decide +kernel
theorem dX12_taken_25 : decode cX12_taken 25 = .ok (.ifCond .le 9, 3) := by decide +kernel
theorem dX12_taken_28 : decode cX12_taken 28 = .ok (.iconst 1, 1) := by decide +kernel
theorem dX12_taken_29 : decode cX12_taken 29 = .ok (.iload_n 3, 1) := by decide +kernel
theorem dX12_taken_30 : decode cX12_taken 30 = .ok (.ishl, 1) := by decide +kernel
theorem dX12_taken_31 : decode cX12_taken 31 = .ok (.goto 4, 3) := by decide +kernel
theorem dX12_taken_34 : decode cX12_taken 34 = .ok (.iconst 0, 1) := by decide +kernel
theorem dX12_taken_35 : decode cX12_taken 35 = .ok (.ior, 1) := by decide +kernel
theorem dX12_taken_36 : decode cX12_taken 36 = .ok (.istore_n 2, 1) := by decide +kernel
theorem dX12_taken_37 : decode cX12_taken 37 = .ok (.iinc 3 1, 3) := by decide +kernel
theorem dX12_taken_40 : decode cX12_taken 40 = .ok (.goto (-30), 3) := by decide +kernel
theorem dX12_taken_43 : decode cX12_taken 43 = .ok (.iload_n 2, 1) := by decide +kernel
theorem dX12_taken_44 : decode cX12_taken 44 = .ok (.ireturn, 1) := by decide +kernel
theorem dX12_way_0 : decode cX12_way 0 = .ok (.aload_n 0, 1) := by decide +kernel
theorem dX12_way_1 : decode cX12_way 1 = .ok (.iload_n 1, 1) := by decide +kernel
theorem dX12_way_2 : decode cX12_way 2 = .ok (.invokevirtual 107, 3) := by decide +kernel
theorem dX12_way_5 : decode cX12_way 5 = .ok (.ifCond .eq 12, 3) := by decide +kernel
theorem dX12_way_8 : decode cX12_way 8 = .ok (.iload_n 2, 1) := by decide +kernel
theorem dX12_way_9 : decode cX12_way 9 = .ok (.iconst 0, 1) := by decide +kernel
theorem dX12_way_10 : decode cX12_way 10 = .ok (.iconst 2, 1) := by decide +kernel
theorem dX12_way_11 : decode cX12_way 11 = .ok (.invokestatic 99, 3) := by decide +kernel
theorem dX12_way_14 : decode cX12_way 14 = .ok (.ifCond .ne 5, 3) := by decide +kernel
theorem dX12_way_17 : decode cX12_way 17 = .ok (.iconst (-1), 1) := by decide +kernel
theorem dX12_way_18 : decode cX12_way 18 = .ok (.ireturn, 1) := by decide +kernel
theorem dX12_way_19 : decode cX12_way 19 = .ok (.aload_n 0, 1) := by decide +kernel
theorem dX12_way_20 : decode cX12_way 20 = .ok (.iconst 0, 1) := by decide +kernel
theorem dX12_way_21 : decode cX12_way 21 = .ok (.invokevirtual 148, 3) := by decide +kernel
theorem dX12_way_24 : decode cX12_way 24 = .ok (.istore_n 3, 1) := by decide +kernel
theorem dX12_way_25 : decode cX12_way 25 = .ok (.aload_n 0, 1) := by decide +kernel
theorem dX12_way_26 : decode cX12_way 26 = .ok (.getfield 47, 3) := by decide +kernel
theorem dX12_way_29 : decode cX12_way 29 = .ok (.iload_n 1, 1) := by decide +kernel
theorem dX12_way_30 : decode cX12_way 30 = .ok (.iaload, 1) := by decide +kernel
theorem dX12_way_31 : decode cX12_way 31 = .ok (.ifCond .ne 6, 3) := by decide +kernel
theorem dX12_way_34 : decode cX12_way 34 = .ok (.bipush (-4), 2) := by decide +kernel
theorem dX12_way_36 : decode cX12_way 36 = .ok (.ireturn, 1) := by decide +kernel
theorem dX12_way_37 : decode cX12_way 37 = .ok (.iload_n 2, 1) := by decide +kernel
theorem dX12_way_38 : decode cX12_way 38 = .ok (.ifCond .ne 12, 3) := by decide +kernel
theorem dX12_way_41 : decode cX12_way 41 = .ok (.aload_n 0, 1) := by decide +kernel
theorem dX12_way_42 : decode cX12_way 42 = .ok (.getfield 47, 3) := by decide +kernel
theorem dX12_way_45 : decode cX12_way 45 = .ok (.iload_n 1, 1) := by decide +kernel
theorem dX12_way_46 : decode cX12_way 46 = .ok (.iaload, 1) := by decide +kernel
theorem dX12_way_47 : decode cX12_way 47 = .ok (.goto 23, 3) := by decide +kernel
theorem dX12_way_50 : decode cX12_way 50 = .ok (.iload_n 2, 1) := by decide +kernel
theorem dX12_way_51 : decode cX12_way 51 = .ok (.iconst 1, 1) := by decide +kernel
theorem dX12_way_52 : decode cX12_way 52 = .ok (.if_icmp .ne 12, 3) := by decide +kernel
theorem dX12_way_55 : decode cX12_way 55 = .ok (.aload_n 0, 1) := by decide +kernel
theorem dX12_way_56 : decode cX12_way 56 = .ok (.getfield 50, 3) := by decide +kernel
theorem dX12_way_59 : decode cX12_way 59 = .ok (.iload_n 1, 1) := by decide +kernel
theorem dX12_way_60 : decode cX12_way 60 = .ok (.iaload, 1) := by decide +kernel
theorem dX12_way_61 : decode cX12_way 61 = .ok (.goto 9, 3) := by decide +kernel
theorem dX12_way_64 : decode cX12_way 64 = .ok (.aload_n 0, 1) := by decide +kernel
theorem dX12_way_65 : decode cX12_way 65 = .ok (.getfield 53, 3) := by decide +kernel
theorem dX12_way_68 : decode cX12_way 68 = .ok (.iload_n 1, 1) := by decide +kernel
theorem dX12_way_69 : decode cX12_way 69 = .ok (.iaload, 1) := by decide +kernel
theorem dX12_way_70 : decode cX12_way 70 = .ok (.ireturn, 1) := by decide +kernel
theorem dX12_bestGuard_0 : decode cX12_bestGuard 0 = .ok (.bipush (-4), 2) := by decide +kernel
theorem dX12_bestGuard_2 : decode cX12_bestGuard 2 = .ok (.istore_n 1, 1) := by decide +kernel
theorem dX12_bestGuard_3 : decode cX12_bestGuard 3 = .ok (.aload_n 0, 1) := by decide +kernel
theorem dX12_bestGuard_4 : decode cX12_bestGuard 4 = .ok (.iconst 0, 1) := by decide +kernel
theorem dX12_bestGuard_5 : decode cX12_bestGuard 5 = .ok (.invokevirtual 148, 3) := by decide +kernel
theorem dX12_bestGuard_8 : decode cX12_bestGuard 8 = .ok (.istore_n 2, 1) := by decide +kernel
theorem dX12_bestGuard_9 : decode cX12_bestGuard 9 = .ok (.iconst 0, 1) := by decide +kernel
theorem dX12_bestGuard_10 : decode cX12_bestGuard 10 = .ok (.istore_n 3, 1) := by decide +kernel
theorem dX12_bestGuard_11 : decode cX12_bestGuard 11 = .ok (.iload_n 3, 1) := by decide +kernel
theorem dX12_bestGuard_12 : decode cX12_bestGuard 12 = .ok (.aload_n 0, 1) := by decide +kernel
theorem dX12_bestGuard_13 : decode cX12_bestGuard 13 = .ok (.getfield 95, 3) := by decide +kernel
theorem dX12_bestGuard_16 : decode cX12_bestGuard 16 = .ok (.if_icmp .ge 50, 3) := by decide +kernel
theorem dX12_bestGuard_19 : decode cX12_bestGuard 19 = .ok (.aload_n 0, 1) := by decide +kernel
theorem dX12_bestGuard_20 : decode cX12_bestGuard 20 = .ok (.getfield 20, 3) := by decide +kernel
theorem dX12_bestGuard_23 : decode cX12_bestGuard 23 = .ok (.iload_n 3, 1) := by decide +kernel
theorem dX12_bestGuard_24 : decode cX12_bestGuard 24 = .ok (.baload, 1) := by decide +kernel
theorem dX12_bestGuard_25 : decode cX12_bestGuard 25 = .ok (.ifCond .ne 35, 3) := by decide +kernel
theorem dX12_bestGuard_28 : decode cX12_bestGuard 28 = .ok (.aload_n 0, 1) := by decide +kernel
theorem dX12_bestGuard_29 : decode cX12_bestGuard 29 = .ok (.getfield 20, 3) := by decide +kernel
theorem dX12_bestGuard_32 : decode cX12_bestGuard 32 = .ok (.iload_n 3, 1) := by decide +kernel
theorem dX12_bestGuard_33 : decode cX12_bestGuard 33 = .ok (.iconst 1, 1) := by decide +kernel
theorem dX12_bestGuard_34 : decode cX12_bestGuard 34 = .ok (.bastore, 1) := by decide +kernel
theorem dX12_bestGuard_35 : decode cX12_bestGuard 35 = .ok (.aload_n 0, 1) := by decide +kernel
theorem dX12_bestGuard_36 : decode cX12_bestGuard 36 = .ok (.iconst 0, 1) := by decide +kernel
theorem dX12_bestGuard_37 : decode cX12_bestGuard 37 = .ok (.invokevirtual 148, 3) := by decide +kernel
theorem dX12_bestGuard_40 : decode cX12_bestGuard 40 = .ok (.istore 4, 2) := by decide +kernel
theorem dX12_bestGuard_42 : decode cX12_bestGuard 42 = .ok (.aload_n 0, 1) := by decide +kernel
theorem dX12_bestGuard_43 : decode cX12_bestGuard 43 = .ok (.getfield 20, 3) := by decide +kernel
theorem dX12_bestGuard_46 : decode cX12_bestGuard 46 = .ok (.iload_n 3, 1) := by decide +kernel
theorem dX12_bestGuard_47 : decode cX12_bestGuard 47 = .ok (.iconst 0, 1) := by decide +kernel
theorem dX12_bestGuard_48 : decode cX12_bestGuard 48 = .ok (.bastore, 1) := by decide +kernel
theorem dX12_bestGuard_49 : decode cX12_bestGuard 49 = .ok (.iload 4, 2) := by decide +kernel
theorem dX12_bestGuard_51 : decode cX12_bestGuard 51 = .ok (.iload_n 2, 1) := by decide +kernel
theorem dX12_bestGuard_52 : decode cX12_bestGuard 52 = .ok (.if_icmp .ge 8, 3) := by decide +kernel
theorem dX12_bestGuard_55 : decode cX12_bestGuard 55 = .ok (.iload 4, 2) := by decide +kernel
theorem dX12_bestGuard_57 : decode cX12_bestGuard 57 = .ok (.istore_n 2, 1) := by decide +kernel
theorem dX12_bestGuard_58 : decode cX12_bestGuard 58 = .ok (.iload_n 3, 1) := by decide +kernel
theorem dX12_bestGuard_59 : decode cX12_bestGuard 59 = .ok (.istore_n 1, 1) := by decide +kernel
theorem dX12_bestGuard_60 : decode cX12_bestGuard 60 = .ok (.iinc 3 1, 3) := by decide +kernel
theorem dX12_bestGuard_63 : decode cX12_bestGuard 63 = .ok (.goto (-52), 3) := by decide +kernel
theorem dX12_bestGuard_66 : decode cX12_bestGuard 66 = .ok (.iload_n 1, 1) := by decide +kernel
theorem dX12_bestGuard_67 : decode cX12_bestGuard 67 = .ok (.ireturn, 1) := by decide +kernel
theorem dX12_isMend_0 : decode cX12_isMend 0 = .ok (.iload_n 1, 1) := by decide +kernel
theorem dX12_isMend_1 : decode cX12_isMend 1 = .ok (.iconst 0, 1) := by decide +kernel
theorem dX12_isMend_2 : decode cX12_isMend 2 = .ok (.aload_n 0, 1) := by decide +kernel
theorem dX12_isMend_3 : decode cX12_isMend 3 = .ok (.getfield 123, 3) := by decide +kernel
theorem dX12_isMend_6 : decode cX12_isMend 6 = .ok (.iconst 1, 1) := by decide +kernel
theorem dX12_isMend_7 : decode cX12_isMend 7 = .ok (.isub, 1) := by decide +kernel
theorem dX12_isMend_8 : decode cX12_isMend 8 = .ok (.invokestatic 99, 3) := by decide +kernel
theorem dX12_isMend_11 : decode cX12_isMend 11 = .ok (.ireturn, 1) := by decide +kernel
theorem dX12_mend_0 : decode cX12_mend 0 = .ok (.aload_n 0, 1) := by decide +kernel
theorem dX12_mend_1 : decode cX12_mend 1 = .ok (.iload_n 1, 1) := by decide +kernel
theorem dX12_mend_2 : decode cX12_mend 2 = .ok (.invokevirtual 107, 3) := by decide +kernel
theorem dX12_mend_5 : decode cX12_mend 5 = .ok (.ifCond .eq 52, 3) := by decide +kernel
theorem dX12_mend_8 : decode cX12_mend 8 = .ok (.iload_n 2, 1) := by decide +kernel
theorem dX12_mend_9 : decode cX12_mend 9 = .ok (.invokestatic 103, 3) := by decide +kernel
theorem dX12_mend_12 : decode cX12_mend 12 = .ok (.ifCond .eq 45, 3) := by decide +kernel
theorem dX12_mend_15 : decode cX12_mend 15 = .ok (.iload_n 3, 1) := by decide +kernel
theorem dX12_mend_16 : decode cX12_mend 16 = .ok (.iconst 1, 1) := by decide +kernel
theorem dX12_mend_17 : decode cX12_mend 17 = .ok (.bipush 9, 2) := by decide +kernel
theorem dX12_mend_19 : decode cX12_mend 19 = .ok (.invokestatic 99, 3) := by decide +kernel
theorem dX12_mend_22 : decode cX12_mend 22 = .ok (.ifCond .eq 35, 3) := by decide +kernel
theorem dX12_mend_25 : decode cX12_mend 25 = .ok (.iload 4, 2) := by decide +kernel
theorem dX12_mend_27 : decode cX12_mend 27 = .ok (.iconst (-1), 1) := by decide +kernel
theorem dX12_mend_28 : decode cX12_mend 28 = .ok (.aload_n 0, 1) := by decide +kernel
theorem dX12_mend_29 : decode cX12_mend 29 = .ok (.getfield 123, 3) := by decide +kernel
theorem dX12_mend_32 : decode cX12_mend 32 = .ok (.iconst 1, 1) := by decide +kernel
theorem dX12_mend_33 : decode cX12_mend 33 = .ok (.isub, 1) := by decide +kernel
theorem dX12_mend_34 : decode cX12_mend 34 = .ok (.invokestatic 99, 3) := by decide +kernel
theorem dX12_mend_37 : decode cX12_mend 37 = .ok (.ifCond .eq 20, 3) := by decide +kernel
theorem dX12_mend_40 : decode cX12_mend 40 = .ok (.iload 5, 2) := by decide +kernel
theorem dX12_mend_42 : decode cX12_mend 42 = .ok (.iconst 0, 1) := by decide +kernel
theorem dX12_mend_43 : decode cX12_mend 43 = .ok (.iload 6, 2) := by decide +kernel
theorem dX12_mend_45 : decode cX12_mend 45 = .ok (.invokestatic 99, 3) := by decide +kernel
theorem dX12_mend_48 : decode cX12_mend 48 = .ok (.ifCond .eq 9, 3) := by decide +kernel
theorem dX12_mend_51 : decode cX12_mend 51 = .ok (.iload 6, 2) := by decide +kernel
theorem dX12_mend_53 : decode cX12_mend 53 = .ok (.iconst 5, 1) := by decide +kernel
theorem dX12_mend_54 : decode cX12_mend 54 = .ok (.if_icmp .le 5, 3) := by decide +kernel
theorem dX12_mend_57 : decode cX12_mend 57 = .ok (.iconst (-1), 1) := by decide +kernel
theorem dX12_mend_58 : decode cX12_mend 58 = .ok (.ireturn, 1) := by decide +kernel
theorem dX12_mend_59 : decode cX12_mend 59 = .ok (.aload_n 0, 1) := by decide +kernel
theorem dX12_mend_60 : decode cX12_mend 60 = .ok (.getfield 123, 3) := by decide +kernel
theorem dX12_mend_63 : decode cX12_mend 63 = .ok (.bipush 8, 2) := by decide +kernel
theorem dX12_mend_65 : decode cX12_mend 65 = .ok (.if_icmp .ne 6, 3) := by decide +kernel
theorem dX12_mend_68 : decode cX12_mend 68 = .ok (.bipush (-3), 2) := by decide +kernel
theorem dX12_mend_70 : decode cX12_mend 70 = .ok (.ireturn, 1) := by decide +kernel
theorem dX12_mend_71 : decode cX12_mend 71 = .ok (.aload_n 0, 1) := by decide +kernel
theorem dX12_mend_72 : decode cX12_mend 72 = .ok (.getfield 56, 3) := by decide +kernel
theorem dX12_mend_75 : decode cX12_mend 75 = .ok (.aload_n 0, 1) := by decide +kernel
theorem dX12_mend_76 : decode cX12_mend 76 = .ok (.getfield 123, 3) := by decide +kernel
theorem dX12_mend_79 : decode cX12_mend 79 = .ok (.iload_n 1, 1) := by decide +kernel
theorem dX12_mend_80 : decode cX12_mend 80 = .ok (.iastore, 1) := by decide +kernel
theorem dX12_mend_81 : decode cX12_mend 81 = .ok (.aload_n 0, 1) := by decide +kernel
theorem dX12_mend_82 : decode cX12_mend 82 = .ok (.getfield 59, 3) := by decide +kernel
theorem dX12_mend_85 : decode cX12_mend 85 = .ok (.aload_n 0, 1) := by decide +kernel
theorem dX12_mend_86 : decode cX12_mend 86 = .ok (.getfield 123, 3) := by decide +kernel
theorem dX12_mend_89 : decode cX12_mend 89 = .ok (.iload_n 2, 1) := by decide +kernel
theorem dX12_mend_90 : decode cX12_mend 90 = .ok (.iastore, 1) := by decide +kernel
theorem dX12_mend_91 : decode cX12_mend 91 = .ok (.aload_n 0, 1) := by decide +kernel
theorem dX12_mend_92 : decode cX12_mend 92 = .ok (.getfield 62, 3) := by decide +kernel
theorem dX12_mend_95 : decode cX12_mend 95 = .ok (.aload_n 0, 1) := by decide +kernel
theorem dX12_mend_96 : decode cX12_mend 96 = .ok (.getfield 123, 3) := by decide +kernel
theorem dX12_mend_99 : decode cX12_mend 99 = .ok (.iload_n 3, 1) := by decide +kernel
theorem dX12_mend_100 : decode cX12_mend 100 = .ok (.iastore, 1) := by decide +kernel
theorem dX12_mend_101 : decode cX12_mend 101 = .ok (.aload_n 0, 1) := by decide +kernel
theorem dX12_mend_102 : decode cX12_mend 102 = .ok (.getfield 65, 3) := by decide +kernel
theorem dX12_mend_105 : decode cX12_mend 105 = .ok (.aload_n 0, 1) := by decide +kernel
theorem dX12_mend_106 : decode cX12_mend 106 = .ok (.getfield 123, 3) := by decide +kernel
theorem dX12_mend_109 : decode cX12_mend 109 = .ok (.iload 4, 2) := by decide +kernel
theorem dX12_mend_111 : decode cX12_mend 111 = .ok (.iastore, 1) := by decide +kernel
theorem dX12_mend_112 : decode cX12_mend 112 = .ok (.aload_n 0, 1) := by decide +kernel
theorem dX12_mend_113 : decode cX12_mend 113 = .ok (.getfield 68, 3) := by decide +kernel
theorem dX12_mend_116 : decode cX12_mend 116 = .ok (.aload_n 0, 1) := by decide +kernel
theorem dX12_mend_117 : decode cX12_mend 117 = .ok (.getfield 123, 3) := by decide +kernel
theorem dX12_mend_120 : decode cX12_mend 120 = .ok (.iload 5, 2) := by decide +kernel
theorem dX12_mend_122 : decode cX12_mend 122 = .ok (.iastore, 1) := by decide +kernel
end
section
theorem dX12_mend_123 : decode cX12_mend 123 = .ok (.aload_n 0, 1) := by decide +kernel
theorem dX12_mend_124 : decode cX12_mend 124 = .ok (.getfield 71, 3) := by decide +kernel
theorem dX12_mend_127 : decode cX12_mend 127 = .ok (.aload_n 0, 1) := by decide +kernel
theorem dX12_mend_128 : decode cX12_mend 128 = .ok (.getfield 123, 3) := by decide +kernel
theorem dX12_mend_131 : decode cX12_mend 131 = .ok (.iload 6, 2) := by decide +kernel
theorem dX12_mend_133 : decode cX12_mend 133 = .ok (.iastore, 1) := by decide +kernel
theorem dX12_mend_134 : decode cX12_mend 134 = .ok (.aload_n 0, 1) := by decide +kernel
theorem dX12_mend_135 : decode cX12_mend 135 = .ok (.dup, 1) := by decide +kernel
theorem dX12_mend_136 : decode cX12_mend 136 = .ok (.getfield 123, 3) := by decide +kernel
theorem dX12_mend_139 : decode cX12_mend 139 = .ok (.iconst 1, 1) := by decide +kernel
theorem dX12_mend_140 : decode cX12_mend 140 = .ok (.iadd, 1) := by decide +kernel
theorem dX12_mend_141 : decode cX12_mend 141 = .ok (.putfield 123, 3) := by decide +kernel
theorem dX12_mend_144 : decode cX12_mend 144 = .ok (.aload_n 0, 1) := by decide +kernel
theorem dX12_mend_145 : decode cX12_mend 145 = .ok (.getfield 123, 3) := by decide +kernel
theorem dX12_mend_148 : decode cX12_mend 148 = .ok (.iconst 1, 1) := by decide +kernel
theorem dX12_mend_149 : decode cX12_mend 149 = .ok (.isub, 1) := by decide +kernel
theorem dX12_mend_150 : decode cX12_mend 150 = .ok (.ireturn, 1) := by decide +kernel
theorem dX12_quarrel_0 : decode cX12_quarrel 0 = .ok (.aload_n 0, 1) := by decide +kernel
theorem dX12_quarrel_1 : decode cX12_quarrel 1 = .ok (.iload_n 1, 1) := by decide +kernel
theorem dX12_quarrel_2 : decode cX12_quarrel 2 = .ok (.invokevirtual 107, 3) := by decide +kernel
theorem dX12_quarrel_5 : decode cX12_quarrel 5 = .ok (.ifCond .eq 31, 3) := by decide +kernel
theorem dX12_quarrel_8 : decode cX12_quarrel 8 = .ok (.aload_n 0, 1) := by decide +kernel
theorem dX12_quarrel_9 : decode cX12_quarrel 9 = .ok (.iload_n 3, 1) := by decide +kernel
theorem dX12_quarrel_10 : decode cX12_quarrel 10 = .ok (.invokevirtual 107, 3) := by decide +kernel
theorem dX12_quarrel_13 : decode cX12_quarrel 13 = .ok (.ifCond .eq 23, 3) := by decide +kernel
theorem dX12_quarrel_16 : decode cX12_quarrel 16 = .ok (.iload_n 1, 1) := by decide +kernel
theorem dX12_quarrel_17 : decode cX12_quarrel 17 = .ok (.iload_n 3, 1) := by decide +kernel
theorem dX12_quarrel_18 : decode cX12_quarrel 18 = .ok (.if_icmp .eq 18, 3) := by decide +kernel
theorem dX12_quarrel_21 : decode cX12_quarrel 21 = .ok (.iload_n 2, 1) := by decide +kernel
theorem dX12_quarrel_22 : decode cX12_quarrel 22 = .ok (.invokestatic 103, 3) := by decide +kernel
theorem dX12_quarrel_25 : decode cX12_quarrel 25 = .ok (.ifCond .eq 11, 3) := by decide +kernel
theorem dX12_quarrel_28 : decode cX12_quarrel 28 = .ok (.iload 4, 2) := by decide +kernel
theorem dX12_quarrel_30 : decode cX12_quarrel 30 = .ok (.invokestatic 103, 3) := by decide +kernel
theorem dX12_quarrel_33 : decode cX12_quarrel 33 = .ok (.ifCond .ne 5, 3) := by decide +kernel
theorem dX12_quarrel_36 : decode cX12_quarrel 36 = .ok (.iconst (-1), 1) := by decide +kernel
theorem dX12_quarrel_37 : decode cX12_quarrel 37 = .ok (.ireturn, 1) := by decide +kernel
theorem dX12_quarrel_38 : decode cX12_quarrel 38 = .ok (.aload_n 0, 1) := by decide +kernel
theorem dX12_quarrel_39 : decode cX12_quarrel 39 = .ok (.getfield 152, 3) := by decide +kernel
theorem dX12_quarrel_42 : decode cX12_quarrel 42 = .ok (.bipush 8, 2) := by decide +kernel
theorem dX12_quarrel_44 : decode cX12_quarrel 44 = .ok (.if_icmp .ne 6, 3) := by decide +kernel
theorem dX12_quarrel_47 : decode cX12_quarrel 47 = .ok (.bipush (-3), 2) := by decide +kernel
theorem dX12_quarrel_49 : decode cX12_quarrel 49 = .ok (.ireturn, 1) := by decide +kernel
theorem dX12_quarrel_50 : decode cX12_quarrel 50 = .ok (.aload_n 0, 1) := by decide +kernel
theorem dX12_quarrel_51 : decode cX12_quarrel 51 = .ok (.getfield 74, 3) := by decide +kernel
theorem dX12_quarrel_54 : decode cX12_quarrel 54 = .ok (.iconst 4, 1) := by decide +kernel
theorem dX12_quarrel_55 : decode cX12_quarrel 55 = .ok (.aload_n 0, 1) := by decide +kernel
theorem dX12_quarrel_56 : decode cX12_quarrel 56 = .ok (.getfield 152, 3) := by decide +kernel
theorem dX12_quarrel_59 : decode cX12_quarrel 59 = .ok (.imul, 1) := by decide +kernel
theorem dX12_quarrel_60 : decode cX12_quarrel 60 = .ok (.iload_n 1, 1) := by decide +kernel
theorem dX12_quarrel_61 : decode cX12_quarrel 61 = .ok (.iastore, 1) := by decide +kernel
theorem dX12_quarrel_62 : decode cX12_quarrel 62 = .ok (.aload_n 0, 1) := by decide +kernel
theorem dX12_quarrel_63 : decode cX12_quarrel 63 = .ok (.getfield 74, 3) := by decide +kernel
theorem dX12_quarrel_66 : decode cX12_quarrel 66 = .ok (.iconst 4, 1) := by decide +kernel
theorem dX12_quarrel_67 : decode cX12_quarrel 67 = .ok (.aload_n 0, 1) := by decide +kernel
theorem dX12_quarrel_68 : decode cX12_quarrel 68 = .ok (.getfield 152, 3) := by decide +kernel
theorem dX12_quarrel_71 : decode cX12_quarrel 71 = .ok (.imul, 1) := by decide +kernel
theorem dX12_quarrel_72 : decode cX12_quarrel 72 = .ok (.iconst 1, 1) := by decide +kernel
theorem dX12_quarrel_73 : decode cX12_quarrel 73 = .ok (.iadd, 1) := by decide +kernel
theorem dX12_quarrel_74 : decode cX12_quarrel 74 = .ok (.iload_n 2, 1) := by decide +kernel
theorem dX12_quarrel_75 : decode cX12_quarrel 75 = .ok (.iastore, 1) := by decide +kernel
theorem dX12_quarrel_76 : decode cX12_quarrel 76 = .ok (.aload_n 0, 1) := by decide +kernel
theorem dX12_quarrel_77 : decode cX12_quarrel 77 = .ok (.getfield 74, 3) := by decide +kernel
theorem dX12_quarrel_80 : decode cX12_quarrel 80 = .ok (.iconst 4, 1) := by decide +kernel
theorem dX12_quarrel_81 : decode cX12_quarrel 81 = .ok (.aload_n 0, 1) := by decide +kernel
theorem dX12_quarrel_82 : decode cX12_quarrel 82 = .ok (.getfield 152, 3) := by decide +kernel
theorem dX12_quarrel_85 : decode cX12_quarrel 85 = .ok (.imul, 1) := by decide +kernel
theorem dX12_quarrel_86 : decode cX12_quarrel 86 = .ok (.iconst 2, 1) := by decide +kernel
theorem dX12_quarrel_87 : decode cX12_quarrel 87 = .ok (.iadd, 1) := by decide +kernel
theorem dX12_quarrel_88 : decode cX12_quarrel 88 = .ok (.iload_n 3, 1) := by decide +kernel
theorem dX12_quarrel_89 : decode cX12_quarrel 89 = .ok (.iastore, 1) := by decide +kernel
theorem dX12_quarrel_90 : decode cX12_quarrel 90 = .ok (.aload_n 0, 1) := by decide +kernel
theorem dX12_quarrel_91 : decode cX12_quarrel 91 = .ok (.getfield 74, 3) := by decide +kernel
theorem dX12_quarrel_94 : decode cX12_quarrel 94 = .ok (.iconst 4, 1) := by decide +kernel
theorem dX12_quarrel_95 : decode cX12_quarrel 95 = .ok (.aload_n 0, 1) := by decide +kernel
theorem dX12_quarrel_96 : decode cX12_quarrel 96 = .ok (.getfield 152, 3) := by decide +kernel
theorem dX12_quarrel_99 : decode cX12_quarrel 99 = .ok (.imul, 1) := by decide +kernel
theorem dX12_quarrel_100 : decode cX12_quarrel 100 = .ok (.iconst 3, 1) := by decide +kernel
theorem dX12_quarrel_101 : decode cX12_quarrel 101 = .ok (.iadd, 1) := by decide +kernel
theorem dX12_quarrel_102 : decode cX12_quarrel 102 = .ok (.iload 4, 2) := by decide +kernel
theorem dX12_quarrel_104 : decode cX12_quarrel 104 = .ok (.iastore, 1) := by decide +kernel
theorem dX12_quarrel_105 : decode cX12_quarrel 105 = .ok (.aload_n 0, 1) := by decide +kernel
theorem dX12_quarrel_106 : decode cX12_quarrel 106 = .ok (.dup, 1) := by decide +kernel
theorem dX12_quarrel_107 : decode cX12_quarrel 107 = .ok (.getfield 152, 3) := by decide +kernel
theorem dX12_quarrel_110 : decode cX12_quarrel 110 = .ok (.iconst 1, 1) := by decide +kernel
theorem dX12_quarrel_111 : decode cX12_quarrel 111 = .ok (.iadd, 1) := by decide +kernel
theorem dX12_quarrel_112 : decode cX12_quarrel 112 = .ok (.putfield 152, 3) := by decide +kernel
theorem dX12_quarrel_115 : decode cX12_quarrel 115 = .ok (.aload_n 0, 1) := by decide +kernel
theorem dX12_quarrel_116 : decode cX12_quarrel 116 = .ok (.getfield 152, 3) := by decide +kernel
theorem dX12_quarrel_119 : decode cX12_quarrel 119 = .ok (.ireturn, 1) := by decide +kernel
theorem dX12_isSet_0 : decode cX12_isSet 0 = .ok (.iload_n 1, 1) := by decide +kernel
theorem dX12_isSet_1 : decode cX12_isSet 1 = .ok (.iconst 0, 1) := by decide +kernel
theorem dX12_isSet_2 : decode cX12_isSet 2 = .ok (.iconst 1, 1) := by decide +kernel
theorem dX12_isSet_3 : decode cX12_isSet 3 = .ok (.aload_n 0, 1) := by decide +kernel
theorem dX12_isSet_4 : decode cX12_isSet 4 = .ok (.getfield 123, 3) := by decide +kernel
theorem dX12_isSet_7 : decode cX12_isSet 7 = .ok (.ishl, 1) := by decide +kernel
theorem dX12_isSet_8 : decode cX12_isSet 8 = .ok (.iconst 1, 1) := by decide +kernel
theorem dX12_isSet_9 : decode cX12_isSet 9 = .ok (.isub, 1) := by decide +kernel
theorem dX12_isSet_10 : decode cX12_isSet 10 = .ok (.invokestatic 99, 3) := by decide +kernel
theorem dX12_isSet_13 : decode cX12_isSet 13 = .ok (.ireturn, 1) := by decide +kernel
theorem dX12_isQuarrelling_0 : decode cX12_isQuarrelling 0 = .ok (.iconst 0, 1) := by decide +kernel
theorem dX12_isQuarrelling_1 : decode cX12_isQuarrelling 1 = .ok (.istore_n 1, 1) := by decide +kernel
theorem dX12_isQuarrelling_2 : decode cX12_isQuarrelling 2 = .ok (.iconst 0, 1) := by decide +kernel
theorem dX12_isQuarrelling_3 : decode cX12_isQuarrelling 3 = .ok (.istore_n 2, 1) := by decide +kernel
theorem dX12_isQuarrelling_4 : decode cX12_isQuarrelling 4 = .ok (.iload_n 2, 1) := by decide +kernel
theorem dX12_isQuarrelling_5 : decode cX12_isQuarrelling 5 = .ok (.aload_n 0, 1) := by decide +kernel
theorem dX12_isQuarrelling_6 : decode cX12_isQuarrelling 6 = .ok (.getfield 152, 3) := by decide +kernel
theorem dX12_isQuarrelling_9 : decode cX12_isQuarrelling 9 = .ok (.if_icmp .ge 73, 3) := by decide +kernel
theorem dX12_isQuarrelling_12 : decode cX12_isQuarrelling 12 = .ok (.iload_n 1, 1) := by decide +kernel
theorem dX12_isQuarrelling_13 : decode cX12_isQuarrelling 13 = .ok (.ifCond .ne 57, 3) := by decide +kernel
theorem dX12_isQuarrelling_16 : decode cX12_isQuarrelling 16 = .ok (.aload_n 0, 1) := by decide +kernel
theorem dX12_isQuarrelling_17 : decode cX12_isQuarrelling 17 = .ok (.getfield 44, 3) := by decide +kernel
theorem dX12_isQuarrelling_20 : decode cX12_isQuarrelling 20 = .ok (.aload_n 0, 1) := by decide +kernel
theorem dX12_isQuarrelling_21 : decode cX12_isQuarrelling 21 = .ok (.getfield 74, 3) := by decide +kernel
theorem dX12_isQuarrelling_24 : decode cX12_isQuarrelling 24 = .ok (.iconst 4, 1) := by decide +kernel
theorem dX12_isQuarrelling_25 : decode cX12_isQuarrelling 25 = .ok (.iload_n 2, 1) := by decide +kernel
theorem dX12_isQuarrelling_26 : decode cX12_isQuarrelling 26 = .ok (.imul, 1) := by decide +kernel
theorem dX12_isQuarrelling_27 : decode cX12_isQuarrelling 27 = .ok (.iaload, 1) := by decide +kernel
theorem dX12_isQuarrelling_28 : decode cX12_isQuarrelling 28 = .ok (.iaload, 1) := by decide +kernel
theorem dX12_isQuarrelling_29 : decode cX12_isQuarrelling 29 = .ok (.aload_n 0, 1) := by decide +kernel
theorem dX12_isQuarrelling_30 : decode cX12_isQuarrelling 30 = .ok (.getfield 74, 3) := by decide +kernel
theorem dX12_isQuarrelling_33 : decode cX12_isQuarrelling 33 = .ok (.iconst 4, 1) := by decide +kernel
theorem dX12_isQuarrelling_34 : decode cX12_isQuarrelling 34 = .ok (.iload_n 2, 1) := by decide +kernel
theorem dX12_isQuarrelling_35 : decode cX12_isQuarrelling 35 = .ok (.imul, 1) := by decide +kernel
theorem dX12_isQuarrelling_36 : decode cX12_isQuarrelling 36 = .ok (.iconst 1, 1) := by decide +kernel
theorem dX12_isQuarrelling_37 : decode cX12_isQuarrelling 37 = .ok (.iadd, 1) := by decide +kernel
theorem dX12_isQuarrelling_38 : decode cX12_isQuarrelling 38 = .ok (.iaload, 1) := by decide +kernel
theorem dX12_isQuarrelling_39 : decode cX12_isQuarrelling 39 = .ok (.if_icmp .ne 35, 3) := by decide +kernel
theorem dX12_isQuarrelling_42 : decode cX12_isQuarrelling 42 = .ok (.aload_n 0, 1) := by decide +kernel
theorem dX12_isQuarrelling_43 : decode cX12_isQuarrelling 43 = .ok (.getfield 44, 3) := by decide +kernel
theorem dX12_isQuarrelling_46 : decode cX12_isQuarrelling 46 = .ok (.aload_n 0, 1) := by decide +kernel
theorem dX12_isQuarrelling_47 : decode cX12_isQuarrelling 47 = .ok (.getfield 74, 3) := by decide +kernel
theorem dX12_isQuarrelling_50 : decode cX12_isQuarrelling 50 = .ok (.iconst 4, 1) := by decide +kernel
theorem dX12_isQuarrelling_51 : decode cX12_isQuarrelling 51 = .ok (.iload_n 2, 1) := by decide +kernel
theorem dX12_isQuarrelling_52 : decode cX12_isQuarrelling 52 = .ok (.imul, 1) := by decide +kernel
theorem dX12_isQuarrelling_53 : decode cX12_isQuarrelling 53 = .ok (.iconst 2, 1) := by decide +kernel
theorem dX12_isQuarrelling_54 : decode cX12_isQuarrelling 54 = .ok (.iadd, 1) := by decide +kernel
theorem dX12_isQuarrelling_55 : decode cX12_isQuarrelling 55 = .ok (.iaload, 1) := by decide +kernel
theorem dX12_isQuarrelling_56 : decode cX12_isQuarrelling 56 = .ok (.iaload, 1) := by decide +kernel
theorem dX12_isQuarrelling_57 : decode cX12_isQuarrelling 57 = .ok (.aload_n 0, 1) := by decide +kernel
theorem dX12_isQuarrelling_58 : decode cX12_isQuarrelling 58 = .ok (.getfield 74, 3) := by decide +kernel
theorem dX12_isQuarrelling_61 : decode cX12_isQuarrelling 61 = .ok (.iconst 4, 1) := by decide +kernel
theorem dX12_isQuarrelling_62 : decode cX12_isQuarrelling 62 = .ok (.iload_n 2, 1) := by decide +kernel
theorem dX12_isQuarrelling_63 : decode cX12_isQuarrelling 63 = .ok (.imul, 1) := by decide +kernel
theorem dX12_isQuarrelling_64 : decode cX12_isQuarrelling 64 = .ok (.iconst 3, 1) := by decide +kernel
theorem dX12_isQuarrelling_65 : decode cX12_isQuarrelling 65 = .ok (.iadd, 1) := by decide +kernel
theorem dX12_isQuarrelling_66 : decode cX12_isQuarrelling 66 = .ok (.iaload, 1) := by decide +kernel
theorem dX12_isQuarrelling_67 : decode cX12_isQuarrelling 67 = .ok (.if_icmp .ne 7, 3) := by decide +kernel
theorem dX12_isQuarrelling_70 : decode cX12_isQuarrelling 70 = .ok (.iconst 1, 1) := by decide +kernel
theorem dX12_isQuarrelling_71 : decode cX12_isQuarrelling 71 = .ok (.goto 4, 3) := by decide +kernel
theorem dX12_isQuarrelling_74 : decode cX12_isQuarrelling 74 = .ok (.iconst 0, 1) := by decide +kernel
theorem dX12_isQuarrelling_75 : decode cX12_isQuarrelling 75 = .ok (.istore_n 1, 1) := by decide +kernel
theorem dX12_isQuarrelling_76 : decode cX12_isQuarrelling 76 = .ok (.iinc 2 1, 3) := by decide +kernel
theorem dX12_isQuarrelling_79 : decode cX12_isQuarrelling 79 = .ok (.goto (-75), 3) := by decide +kernel
theorem dX12_isQuarrelling_82 : decode cX12_isQuarrelling 82 = .ok (.iload_n 1, 1) := by decide +kernel
theorem dX12_isQuarrelling_83 : decode cX12_isQuarrelling 83 = .ok (.ireturn, 1) := by decide +kernel
theorem dX12_isSound_0 : decode cX12_isSound 0 = .ok (.iconst 0, 1) := by decide +kernel
theorem dX12_isSound_1 : decode cX12_isSound 1 = .ok (.istore_n 2, 1) := by decide +kernel
theorem dX12_isSound_2 : decode cX12_isSound 2 = .ok (.iload_n 2, 1) := by decide +kernel
theorem dX12_isSound_3 : decode cX12_isSound 3 = .ok (.aload_n 0, 1) := by decide +kernel
theorem dX12_isSound_4 : decode cX12_isSound 4 = .ok (.getfield 123, 3) := by decide +kernel
theorem dX12_isSound_7 : decode cX12_isSound 7 = .ok (.if_icmp .ge 42, 3) := by decide +kernel
theorem dX12_isSound_10 : decode cX12_isSound 10 = .ok (.iload_n 1, 1) := by decide +kernel
theorem dX12_isSound_11 : decode cX12_isSound 11 = .ok (.iload_n 2, 1) := by decide +kernel
theorem dX12_isSound_12 : decode cX12_isSound 12 = .ok (.ishr, 1) := by decide +kernel
theorem dX12_isSound_13 : decode cX12_isSound 13 = .ok (.iconst 1, 1) := by decide +kernel
theorem dX12_isSound_14 : decode cX12_isSound 14 = .ok (.iand, 1) := by decide +kernel
theorem dX12_isSound_15 : decode cX12_isSound 15 = .ok (.iconst 1, 1) := by decide +kernel
theorem dX12_isSound_16 : decode cX12_isSound 16 = .ok (.if_icmp .ne 27, 3) := by decide +kernel
theorem dX12_isSound_19 : decode cX12_isSound 19 = .ok (.aload_n 0, 1) := by decide +kernel
theorem dX12_isSound_20 : decode cX12_isSound 20 = .ok (.getfield 65, 3) := by decide +kernel
theorem dX12_isSound_23 : decode cX12_isSound 23 = .ok (.iload_n 2, 1) := by decide +kernel
theorem dX12_isSound_24 : decode cX12_isSound 24 = .ok (.iaload, 1) := by decide +kernel
theorem dX12_isSound_25 : decode cX12_isSound 25 = .ok (.ifCond .lt 18, 3) := by decide +kernel
theorem dX12_isSound_28 : decode cX12_isSound 28 = .ok (.iload_n 1, 1) := by decide +kernel
theorem dX12_isSound_29 : decode cX12_isSound 29 = .ok (.aload_n 0, 1) := by decide +kernel
theorem dX12_isSound_30 : decode cX12_isSound 30 = .ok (.getfield 65, 3) := by decide +kernel
theorem dX12_isSound_33 : decode cX12_isSound 33 = .ok (.iload_n 2, 1) := by decide +kernel
theorem dX12_isSound_34 : decode cX12_isSound 34 = .ok (.iaload, 1) := by decide +kernel
theorem dX12_isSound_35 : decode cX12_isSound 35 = .ok (.ishr, 1) := by decide +kernel
theorem dX12_isSound_36 : decode cX12_isSound 36 = .ok (.iconst 1, 1) := by decide +kernel
theorem dX12_isSound_37 : decode cX12_isSound 37 = .ok (.iand, 1) := by decide +kernel
theorem dX12_isSound_38 : decode cX12_isSound 38 = .ok (.ifCond .ne 5, 3) := by decide +kernel
theorem dX12_isSound_41 : decode cX12_isSound 41 = .ok (.iconst 0, 1) := by decide +kernel
theorem dX12_isSound_42 : decode cX12_isSound 42 = .ok (.ireturn, 1) := by decide +kernel
theorem dX12_isSound_43 : decode cX12_isSound 43 = .ok (.iinc 2 1, 3) := by decide +kernel
theorem dX12_isSound_46 : decode cX12_isSound 46 = .ok (.goto (-44), 3) := by decide +kernel
theorem dX12_isSound_49 : decode cX12_isSound 49 = .ok (.aload_n 0, 1) := by decide +kernel
theorem dX12_isSound_50 : decode cX12_isSound 50 = .ok (.iload_n 1, 1) := by decide +kernel
theorem dX12_isSound_51 : decode cX12_isSound 51 = .ok (.invokevirtual 140, 3) := by decide +kernel
theorem dX12_isSound_54 : decode cX12_isSound 54 = .ok (.aload_n 0, 1) := by decide +kernel
theorem dX12_isSound_55 : decode cX12_isSound 55 = .ok (.invokevirtual 155, 3) := by decide +kernel
theorem dX12_isSound_58 : decode cX12_isSound 58 = .ok (.ifCond .ne 7, 3) := by decide +kernel
theorem dX12_isSound_61 : decode cX12_isSound 61 = .ok (.iconst 1, 1) := by decide +kernel
theorem dX12_isSound_62 : decode cX12_isSound 62 = .ok (.goto 4, 3) := by decide +kernel
theorem dX12_isSound_65 : decode cX12_isSound 65 = .ok (.iconst 0, 1) := by decide +kernel
theorem dX12_isSound_66 : decode cX12_isSound 66 = .ok (.ireturn, 1) := by decide +kernel
theorem dX12_riskWith_0 : decode cX12_riskWith 0 = .ok (.aload_n 0, 1) := by decide +kernel
theorem dX12_riskWith_1 : decode cX12_riskWith 1 = .ok (.iload_n 1, 1) := by decide +kernel
theorem dX12_riskWith_2 : decode cX12_riskWith 2 = .ok (.invokevirtual 159, 3) := by decide +kernel
theorem dX12_riskWith_5 : decode cX12_riskWith 5 = .ok (.ifCond .eq 11, 3) := by decide +kernel
theorem dX12_riskWith_8 : decode cX12_riskWith 8 = .ok (.aload_n 0, 1) := by decide +kernel
theorem dX12_riskWith_9 : decode cX12_riskWith 9 = .ok (.iload_n 1, 1) := by decide +kernel
theorem dX12_riskWith_10 : decode cX12_riskWith 10 = .ok (.invokevirtual 148, 3) := by decide +kernel
theorem dX12_riskWith_13 : decode cX12_riskWith 13 = .ok (.goto 4, 3) := by decide +kernel
theorem dX12_riskWith_16 : decode cX12_riskWith 16 = .ok (.iconst (-1), 1) := by decide +kernel
theorem dX12_riskWith_17 : decode cX12_riskWith 17 = .ok (.ireturn, 1) := by decide +kernel
theorem dX12_sound_0 : decode cX12_sound 0 = .ok (.aload_n 0, 1) := by decide +kernel
theorem dX12_sound_1 : decode cX12_sound 1 = .ok (.iload_n 1, 1) := by decide +kernel
theorem dX12_sound_2 : decode cX12_sound 2 = .ok (.invokevirtual 159, 3) := by decide +kernel
theorem dX12_sound_5 : decode cX12_sound 5 = .ok (.ifCond .ne 7, 3) := by decide +kernel
theorem dX12_sound_8 : decode cX12_sound 8 = .ok (.iconst (-1), 1) := by decide +kernel
theorem dX12_sound_9 : decode cX12_sound 9 = .ok (.goto 16, 3) := by decide +kernel
theorem dX12_sound_12 : decode cX12_sound 12 = .ok (.aload_n 0, 1) := by decide +kernel
theorem dX12_sound_13 : decode cX12_sound 13 = .ok (.iload_n 1, 1) := by decide +kernel
theorem dX12_sound_14 : decode cX12_sound 14 = .ok (.invokevirtual 162, 3) := by decide +kernel
theorem dX12_sound_17 : decode cX12_sound 17 = .ok (.ifCond .eq 7, 3) := by decide +kernel
theorem dX12_sound_20 : decode cX12_sound 20 = .ok (.iconst 1, 1) := by decide +kernel
theorem dX12_sound_21 : decode cX12_sound 21 = .ok (.goto 4, 3) := by decide +kernel
theorem dX12_sound_24 : decode cX12_sound 24 = .ok (.iconst 0, 1) := by decide +kernel
theorem dX12_sound_25 : decode cX12_sound 25 = .ok (.ireturn, 1) := by decide +kernel
theorem dX12_gain_0 : decode cX12_gain 0 = .ok (.aload_n 0, 1) := by decide +kernel
theorem dX12_gain_1 : decode cX12_gain 1 = .ok (.iload_n 1, 1) := by decide +kernel
theorem dX12_gain_2 : decode cX12_gain 2 = .ok (.invokevirtual 165, 3) := by decide +kernel
theorem dX12_gain_5 : decode cX12_gain 5 = .ok (.ifCond .eq 20, 3) := by decide +kernel
theorem dX12_gain_8 : decode cX12_gain 8 = .ok (.aload_n 0, 1) := by decide +kernel
theorem dX12_gain_9 : decode cX12_gain 9 = .ok (.iload_n 2, 1) := by decide +kernel
theorem dX12_gain_10 : decode cX12_gain 10 = .ok (.invokevirtual 159, 3) := by decide +kernel
theorem dX12_gain_13 : decode cX12_gain 13 = .ok (.ifCond .eq 12, 3) := by decide +kernel
theorem dX12_gain_16 : decode cX12_gain 16 = .ok (.iload_n 2, 1) := by decide +kernel
theorem dX12_gain_17 : decode cX12_gain 17 = .ok (.iload_n 1, 1) := by decide +kernel
theorem dX12_gain_18 : decode cX12_gain 18 = .ok (.ishr, 1) := by decide +kernel
theorem dX12_gain_19 : decode cX12_gain 19 = .ok (.iconst 1, 1) := by decide +kernel
theorem dX12_gain_20 : decode cX12_gain 20 = .ok (.iand, 1) := by decide +kernel
theorem dX12_gain_21 : decode cX12_gain 21 = .ok (.iconst 1, 1) := by decide +kernel
theorem dX12_gain_22 : decode cX12_gain 22 = .ok (.if_icmp .ne 6, 3) := by decide +kernel
theorem dX12_gain_25 : decode cX12_gain 25 = .ok (.ldc 168, 2) := by decide +kernel
theorem dX12_gain_27 : decode cX12_gain 27 = .ok (.ireturn, 1) := by decide +kernel
theorem dX12_gain_28 : decode cX12_gain 28 = .ok (.aload_n 0, 1) := by decide +kernel
theorem dX12_gain_29 : decode cX12_gain 29 = .ok (.iload_n 2, 1) := by decide +kernel
theorem dX12_gain_30 : decode cX12_gain 30 = .ok (.invokevirtual 148, 3) := by decide +kernel
theorem dX12_gain_33 : decode cX12_gain 33 = .ok (.aload_n 0, 1) := by decide +kernel
theorem dX12_gain_34 : decode cX12_gain 34 = .ok (.iload_n 2, 1) := by decide +kernel
theorem dX12_gain_35 : decode cX12_gain 35 = .ok (.iconst 1, 1) := by decide +kernel
theorem dX12_gain_36 : decode cX12_gain 36 = .ok (.iload_n 1, 1) := by decide +kernel
theorem dX12_gain_37 : decode cX12_gain 37 = .ok (.ishl, 1) := by decide +kernel
theorem dX12_gain_38 : decode cX12_gain 38 = .ok (.ior, 1) := by decide +kernel
theorem dX12_gain_39 : decode cX12_gain 39 = .ok (.invokevirtual 148, 3) := by decide +kernel
theorem dX12_gain_42 : decode cX12_gain 42 = .ok (.isub, 1) := by decide +kernel
theorem dX12_gain_43 : decode cX12_gain 43 = .ok (.ireturn, 1) := by decide +kernel
theorem dX12_next_0 : decode cX12_next 0 = .ok (.aload_n 0, 1) := by decide +kernel
theorem dX12_next_1 : decode cX12_next 1 = .ok (.iload_n 1, 1) := by decide +kernel
theorem dX12_next_2 : decode cX12_next 2 = .ok (.invokevirtual 159, 3) := by decide +kernel
theorem dX12_next_5 : decode cX12_next 5 = .ok (.ifCond .ne 5, 3) := by decide +kernel
theorem dX12_next_8 : decode cX12_next 8 = .ok (.iconst (-1), 1) := by decide +kernel
theorem dX12_next_9 : decode cX12_next 9 = .ok (.ireturn, 1) := by decide +kernel
theorem dX12_next_10 : decode cX12_next 10 = .ok (.bipush (-4), 2) := by decide +kernel
theorem dX12_next_12 : decode cX12_next 12 = .ok (.istore_n 2, 1) := by decide +kernel
theorem dX12_next_13 : decode cX12_next 13 = .ok (.iconst 0, 1) := by decide +kernel
theorem dX12_next_14 : decode cX12_next 14 = .ok (.istore_n 3, 1) := by decide +kernel
theorem dX12_next_15 : decode cX12_next 15 = .ok (.iconst 0, 1) := by decide +kernel
theorem dX12_next_16 : decode cX12_next 16 = .ok (.istore 4, 2) := by decide +kernel
theorem dX12_next_18 : decode cX12_next 18 = .ok (.iload 4, 2) := by decide +kernel
theorem dX12_next_20 : decode cX12_next 20 = .ok (.aload_n 0, 1) := by decide +kernel
theorem dX12_next_21 : decode cX12_next 21 = .ok (.getfield 123, 3) := by decide +kernel
theorem dX12_next_24 : decode cX12_next 24 = .ok (.if_icmp .ge 87, 3) := by decide +kernel
theorem dX12_next_27 : decode cX12_next 27 = .ok (.iload_n 1, 1) := by decide +kernel
theorem dX12_next_28 : decode cX12_next 28 = .ok (.iload 4, 2) := by decide +kernel
theorem dX12_next_30 : decode cX12_next 30 = .ok (.ishr, 1) := by decide +kernel
theorem dX12_next_31 : decode cX12_next 31 = .ok (.iconst 1, 1) := by decide +kernel
theorem dX12_next_32 : decode cX12_next 32 = .ok (.iand, 1) := by decide +kernel
theorem dX12_next_33 : decode cX12_next 33 = .ok (.ifCond .ne 72, 3) := by decide +kernel
theorem dX12_next_36 : decode cX12_next 36 = .ok (.aload_n 0, 1) := by decide +kernel
theorem dX12_next_37 : decode cX12_next 37 = .ok (.iload_n 1, 1) := by decide +kernel
theorem dX12_next_38 : decode cX12_next 38 = .ok (.iconst 1, 1) := by decide +kernel
theorem dX12_next_39 : decode cX12_next 39 = .ok (.iload 4, 2) := by decide +kernel
theorem dX12_next_41 : decode cX12_next 41 = .ok (.ishl, 1) := by decide +kernel
theorem dX12_next_42 : decode cX12_next 42 = .ok (.ior, 1) := by decide +kernel
theorem dX12_next_43 : decode cX12_next 43 = .ok (.invokevirtual 162, 3) := by decide +kernel
theorem dX12_next_46 : decode cX12_next 46 = .ok (.ifCond .eq 59, 3) := by decide +kernel
theorem dX12_next_49 : decode cX12_next 49 = .ok (.aload_n 0, 1) := by decide +kernel
theorem dX12_next_50 : decode cX12_next 50 = .ok (.iload_n 1, 1) := by decide +kernel
theorem dX12_next_51 : decode cX12_next 51 = .ok (.invokevirtual 148, 3) := by decide +kernel
theorem dX12_next_54 : decode cX12_next 54 = .ok (.aload_n 0, 1) := by decide +kernel
theorem dX12_next_55 : decode cX12_next 55 = .ok (.iload_n 1, 1) := by decide +kernel
theorem dX12_next_56 : decode cX12_next 56 = .ok (.iconst 1, 1) := by decide +kernel
theorem dX12_next_57 : decode cX12_next 57 = .ok (.iload 4, 2) := by decide +kernel
theorem dX12_next_59 : decode cX12_next 59 = .ok (.ishl, 1) := by decide +kernel
theorem dX12_next_60 : decode cX12_next 60 = .ok (.ior, 1) := by decide +kernel
theorem dX12_next_61 : decode cX12_next 61 = .ok (.invokevirtual 148, 3) := by decide +kernel
theorem dX12_next_64 : decode cX12_next 64 = .ok (.isub, 1) := by decide +kernel
theorem dX12_next_65 : decode cX12_next 65 = .ok (.istore 5, 2) := by decide +kernel
theorem dX12_next_67 : decode cX12_next 67 = .ok (.iload 5, 2) := by decide +kernel
theorem dX12_next_69 : decode cX12_next 69 = .ok (.ifCond .le 36, 3) := by decide +kernel
theorem dX12_next_72 : decode cX12_next 72 = .ok (.iload_n 2, 1) := by decide +kernel
theorem dX12_next_73 : decode cX12_next 73 = .ok (.bipush (-4), 2) := by decide +kernel
theorem dX12_next_75 : decode cX12_next 75 = .ok (.if_icmp .eq 24, 3) := by decide +kernel
theorem dX12_next_78 : decode cX12_next 78 = .ok (.iload 5, 2) := by decide +kernel
theorem dX12_next_80 : decode cX12_next 80 = .ok (.aload_n 0, 1) := by decide +kernel
theorem dX12_next_81 : decode cX12_next 81 = .ok (.getfield 62, 3) := by decide +kernel
theorem dX12_next_84 : decode cX12_next 84 = .ok (.iload_n 2, 1) := by decide +kernel
theorem dX12_next_85 : decode cX12_next 85 = .ok (.iaload, 1) := by decide +kernel
theorem dX12_next_86 : decode cX12_next 86 = .ok (.imul, 1) := by decide +kernel
theorem dX12_next_87 : decode cX12_next 87 = .ok (.iload_n 3, 1) := by decide +kernel
theorem dX12_next_88 : decode cX12_next 88 = .ok (.aload_n 0, 1) := by decide +kernel
theorem dX12_next_89 : decode cX12_next 89 = .ok (.getfield 62, 3) := by decide +kernel
theorem dX12_next_92 : decode cX12_next 92 = .ok (.iload 4, 2) := by decide +kernel
theorem dX12_next_94 : decode cX12_next 94 = .ok (.iaload, 1) := by decide +kernel
theorem dX12_next_95 : decode cX12_next 95 = .ok (.imul, 1) := by decide +kernel
theorem dX12_next_96 : decode cX12_next 96 = .ok (.if_icmp .le 9, 3) := by decide +kernel
theorem dX12_next_99 : decode cX12_next 99 = .ok (.iload 4, 2) := by decide +kernel
theorem dX12_next_101 : decode cX12_next 101 = .ok (.istore_n 2, 1) := by decide +kernel
theorem dX12_next_102 : decode cX12_next 102 = .ok (.iload 5, 2) := by decide +kernel
theorem dX12_next_104 : decode cX12_next 104 = .ok (.istore_n 3, 1) := by decide +kernel
theorem dX12_next_105 : decode cX12_next 105 = .ok (.iinc 4 1, 3) := by decide +kernel
theorem dX12_next_108 : decode cX12_next 108 = .ok (.goto (-90), 3) := by decide +kernel
theorem dX12_next_111 : decode cX12_next 111 = .ok (.iload_n 2, 1) := by decide +kernel
theorem dX12_next_112 : decode cX12_next 112 = .ok (.ireturn, 1) := by decide +kernel
theorem dX12_mayIn_0 : decode cX12_mayIn 0 = .ok (.iconst 0, 1) := by decide +kernel
theorem dX12_mayIn_1 : decode cX12_mayIn 1 = .ok (.istore 4, 2) := by decide +kernel
theorem dX12_mayIn_3 : decode cX12_mayIn 3 = .ok (.iconst 0, 1) := by decide +kernel
theorem dX12_mayIn_4 : decode cX12_mayIn 4 = .ok (.istore 5, 2) := by decide +kernel
theorem dX12_mayIn_6 : decode cX12_mayIn 6 = .ok (.iload 5, 2) := by decide +kernel
theorem dX12_mayIn_8 : decode cX12_mayIn 8 = .ok (.aload_n 0, 1) := by decide +kernel
theorem dX12_mayIn_9 : decode cX12_mayIn 9 = .ok (.getfield 123, 3) := by decide +kernel
theorem dX12_mayIn_12 : decode cX12_mayIn 12 = .ok (.if_icmp .ge 54, 3) := by decide +kernel
theorem dX12_mayIn_15 : decode cX12_mayIn 15 = .ok (.iload_n 1, 1) := by decide +kernel
theorem dX12_mayIn_16 : decode cX12_mayIn 16 = .ok (.iload 5, 2) := by decide +kernel
theorem dX12_mayIn_18 : decode cX12_mayIn 18 = .ok (.ishr, 1) := by decide +kernel
theorem dX12_mayIn_19 : decode cX12_mayIn 19 = .ok (.iconst 1, 1) := by decide +kernel
theorem dX12_mayIn_20 : decode cX12_mayIn 20 = .ok (.iand, 1) := by decide +kernel
theorem dX12_mayIn_21 : decode cX12_mayIn 21 = .ok (.iconst 1, 1) := by decide +kernel
theorem dX12_mayIn_22 : decode cX12_mayIn 22 = .ok (.if_icmp .ne 38, 3) := by decide +kernel
theorem dX12_mayIn_25 : decode cX12_mayIn 25 = .ok (.iload 4, 2) := by decide +kernel
theorem dX12_mayIn_27 : decode cX12_mayIn 27 = .ok (.aload_n 0, 1) := by decide +kernel
theorem dX12_mayIn_28 : decode cX12_mayIn 28 = .ok (.getfield 62, 3) := by decide +kernel
theorem dX12_mayIn_31 : decode cX12_mayIn 31 = .ok (.iload 5, 2) := by decide +kernel
theorem dX12_mayIn_33 : decode cX12_mayIn 33 = .ok (.iaload, 1) := by decide +kernel
theorem dX12_mayIn_34 : decode cX12_mayIn 34 = .ok (.iadd, 1) := by decide +kernel
theorem dX12_mayIn_35 : decode cX12_mayIn 35 = .ok (.istore 4, 2) := by decide +kernel
theorem dX12_mayIn_37 : decode cX12_mayIn 37 = .ok (.iload_n 2, 1) := by decide +kernel
theorem dX12_mayIn_38 : decode cX12_mayIn 38 = .ok (.aload_n 0, 1) := by decide +kernel
theorem dX12_mayIn_39 : decode cX12_mayIn 39 = .ok (.getfield 68, 3) := by decide +kernel
theorem dX12_mayIn_42 : decode cX12_mayIn 42 = .ok (.iload 5, 2) := by decide +kernel
theorem dX12_mayIn_44 : decode cX12_mayIn 44 = .ok (.iaload, 1) := by decide +kernel
theorem dX12_mayIn_45 : decode cX12_mayIn 45 = .ok (.aload_n 0, 1) := by decide +kernel
theorem dX12_mayIn_46 : decode cX12_mayIn 46 = .ok (.getfield 71, 3) := by decide +kernel
theorem dX12_mayIn_49 : decode cX12_mayIn 49 = .ok (.iload 5, 2) := by decide +kernel
theorem dX12_mayIn_51 : decode cX12_mayIn 51 = .ok (.iaload, 1) := by decide +kernel
theorem dX12_mayIn_52 : decode cX12_mayIn 52 = .ok (.invokestatic 99, 3) := by decide +kernel
theorem dX12_mayIn_55 : decode cX12_mayIn 55 = .ok (.ifCond .ne 5, 3) := by decide +kernel
theorem dX12_mayIn_58 : decode cX12_mayIn 58 = .ok (.iconst 0, 1) := by decide +kernel
theorem dX12_mayIn_59 : decode cX12_mayIn 59 = .ok (.ireturn, 1) := by decide +kernel
theorem dX12_mayIn_60 : decode cX12_mayIn 60 = .ok (.iinc 5 1, 3) := by decide +kernel
theorem dX12_mayIn_63 : decode cX12_mayIn 63 = .ok (.goto (-57), 3) := by decide +kernel
theorem dX12_mayIn_66 : decode cX12_mayIn 66 = .ok (.iload 4, 2) := by decide +kernel
theorem dX12_mayIn_68 : decode cX12_mayIn 68 = .ok (.iload_n 3, 1) := by decide +kernel
theorem dX12_mayIn_69 : decode cX12_mayIn 69 = .ok (.if_icmp .gt 7, 3) := by decide +kernel
theorem dX12_mayIn_72 : decode cX12_mayIn 72 = .ok (.iconst 1, 1) := by decide +kernel
theorem dX12_mayIn_73 : decode cX12_mayIn 73 = .ok (.goto 4, 3) := by decide +kernel
theorem dX12_mayIn_76 : decode cX12_mayIn 76 = .ok (.iconst 0, 1) := by decide +kernel
theorem dX12_mayIn_77 : decode cX12_mayIn 77 = .ok (.ireturn, 1) := by decide +kernel
theorem dX12_planFrom_0 : decode cX12_planFrom 0 = .ok (.iconst 0, 1) := by decide +kernel
theorem dX12_planFrom_1 : decode cX12_planFrom 1 = .ok (.istore 5, 2) := by decide +kernel
theorem dX12_planFrom_3 : decode cX12_planFrom 3 = .ok (.iload 5, 2) := by decide +kernel
theorem dX12_planFrom_5 : decode cX12_planFrom 5 = .ok (.iload 4, 2) := by decide +kernel
theorem dX12_planFrom_7 : decode cX12_planFrom 7 = .ok (.if_icmp .gt 165, 3) := by decide +kernel
theorem dX12_planFrom_10 : decode cX12_planFrom 10 = .ok (.iconst (-1), 1) := by decide +kernel
theorem dX12_planFrom_11 : decode cX12_planFrom 11 = .ok (.istore 6, 2) := by decide +kernel
theorem dX12_planFrom_13 : decode cX12_planFrom 13 = .ok (.sipush 256, 3) := by decide +kernel
theorem dX12_planFrom_16 : decode cX12_planFrom 16 = .ok (.iload_n 1, 1) := by decide +kernel
theorem dX12_planFrom_17 : decode cX12_planFrom 17 = .ok (.imul, 1) := by decide +kernel
theorem dX12_planFrom_18 : decode cX12_planFrom 18 = .ok (.iload 5, 2) := by decide +kernel
theorem dX12_planFrom_20 : decode cX12_planFrom 20 = .ok (.iadd, 1) := by decide +kernel
theorem dX12_planFrom_21 : decode cX12_planFrom 21 = .ok (.istore 7, 2) := by decide +kernel
theorem dX12_planFrom_23 : decode cX12_planFrom 23 = .ok (.iconst 0, 1) := by decide +kernel
theorem dX12_planFrom_24 : decode cX12_planFrom 24 = .ok (.istore 8, 2) := by decide +kernel
theorem dX12_planFrom_26 : decode cX12_planFrom 26 = .ok (.iload 8, 2) := by decide +kernel
theorem dX12_planFrom_28 : decode cX12_planFrom 28 = .ok (.iload 4, 2) := by decide +kernel
theorem dX12_planFrom_30 : decode cX12_planFrom 30 = .ok (.if_icmp .gt 127, 3) := by decide +kernel
theorem dX12_planFrom_33 : decode cX12_planFrom 33 = .ok (.iload 8, 2) := by decide +kernel
theorem dX12_planFrom_35 : decode cX12_planFrom 35 = .ok (.iload 5, 2) := by decide +kernel
theorem dX12_planFrom_37 : decode cX12_planFrom 37 = .ok (.iand, 1) := by decide +kernel
theorem dX12_planFrom_38 : decode cX12_planFrom 38 = .ok (.ifCond .ne 113, 3) := by decide +kernel
theorem dX12_planFrom_41 : decode cX12_planFrom 41 = .ok (.aload_n 0, 1) := by decide +kernel
theorem dX12_planFrom_42 : decode cX12_planFrom 42 = .ok (.getfield 80, 3) := by decide +kernel
theorem dX12_planFrom_45 : decode cX12_planFrom 45 = .ok (.iload 5, 2) := by decide +kernel
theorem dX12_planFrom_47 : decode cX12_planFrom 47 = .ok (.iload 8, 2) := by decide +kernel
theorem dX12_planFrom_49 : decode cX12_planFrom 49 = .ok (.ior, 1) := by decide +kernel
theorem dX12_planFrom_50 : decode cX12_planFrom 50 = .ok (.baload, 1) := by decide +kernel
theorem dX12_planFrom_51 : decode cX12_planFrom 51 = .ok (.ifCond .eq 100, 3) := by decide +kernel
theorem dX12_planFrom_54 : decode cX12_planFrom 54 = .ok (.aload_n 0, 1) := by decide +kernel
theorem dX12_planFrom_55 : decode cX12_planFrom 55 = .ok (.iload 8, 2) := by decide +kernel
theorem dX12_planFrom_57 : decode cX12_planFrom 57 = .ok (.iload_n 1, 1) := by decide +kernel
theorem dX12_planFrom_58 : decode cX12_planFrom 58 = .ok (.iload_n 3, 1) := by decide +kernel
theorem dX12_planFrom_59 : decode cX12_planFrom 59 = .ok (.invokevirtual 169, 3) := by decide +kernel
theorem dX12_planFrom_62 : decode cX12_planFrom 62 = .ok (.ifCond .eq 89, 3) := by decide +kernel
theorem dX12_planFrom_65 : decode cX12_planFrom 65 = .ok (.iload_n 1, 1) := by decide +kernel
theorem dX12_planFrom_66 : decode cX12_planFrom 66 = .ok (.iconst 1, 1) := by decide +kernel
theorem dX12_planFrom_67 : decode cX12_planFrom 67 = .ok (.iadd, 1) := by decide +kernel
theorem dX12_planFrom_68 : decode cX12_planFrom 68 = .ok (.iload_n 2, 1) := by decide +kernel
theorem dX12_planFrom_69 : decode cX12_planFrom 69 = .ok (.if_icmp .ne 16, 3) := by decide +kernel
theorem dX12_planFrom_72 : decode cX12_planFrom 72 = .ok (.aload_n 0, 1) := by decide +kernel
theorem dX12_planFrom_73 : decode cX12_planFrom 73 = .ok (.getfield 77, 3) := by decide +kernel
theorem dX12_planFrom_76 : decode cX12_planFrom 76 = .ok (.iload 5, 2) := by decide +kernel
theorem dX12_planFrom_78 : decode cX12_planFrom 78 = .ok (.iload 8, 2) := by decide +kernel
theorem dX12_planFrom_80 : decode cX12_planFrom 80 = .ok (.ior, 1) := by decide +kernel
theorem dX12_planFrom_81 : decode cX12_planFrom 81 = .ok (.iaload, 1) := by decide +kernel
theorem dX12_planFrom_82 : decode cX12_planFrom 82 = .ok (.goto 21, 3) := by decide +kernel
theorem dX12_planFrom_85 : decode cX12_planFrom 85 = .ok (.aload_n 0, 1) := by decide +kernel
theorem dX12_planFrom_86 : decode cX12_planFrom 86 = .ok (.getfield 83, 3) := by decide +kernel
theorem dX12_planFrom_89 : decode cX12_planFrom 89 = .ok (.sipush 256, 3) := by decide +kernel
theorem dX12_planFrom_92 : decode cX12_planFrom 92 = .ok (.iload_n 1, 1) := by decide +kernel
theorem dX12_planFrom_93 : decode cX12_planFrom 93 = .ok (.iconst 1, 1) := by decide +kernel
theorem dX12_planFrom_94 : decode cX12_planFrom 94 = .ok (.iadd, 1) := by decide +kernel
theorem dX12_planFrom_95 : decode cX12_planFrom 95 = .ok (.imul, 1) := by decide +kernel
theorem dX12_planFrom_96 : decode cX12_planFrom 96 = .ok (.iload 5, 2) := by decide +kernel
theorem dX12_planFrom_98 : decode cX12_planFrom 98 = .ok (.iload 8, 2) := by decide +kernel
theorem dX12_planFrom_100 : decode cX12_planFrom 100 = .ok (.ior, 1) := by decide +kernel
theorem dX12_planFrom_101 : decode cX12_planFrom 101 = .ok (.iadd, 1) := by decide +kernel
theorem dX12_planFrom_102 : decode cX12_planFrom 102 = .ok (.iaload, 1) := by decide +kernel
theorem dX12_planFrom_103 : decode cX12_planFrom 103 = .ok (.istore 9, 2) := by decide +kernel
theorem dX12_planFrom_105 : decode cX12_planFrom 105 = .ok (.iload 9, 2) := by decide +kernel
theorem dX12_planFrom_107 : decode cX12_planFrom 107 = .ok (.ifCond .lt 44, 3) := by decide +kernel
theorem dX12_planFrom_110 : decode cX12_planFrom 110 = .ok (.iload 6, 2) := by decide +kernel
theorem dX12_planFrom_112 : decode cX12_planFrom 112 = .ok (.ifCond .lt 18, 3) := by decide +kernel
theorem dX12_planFrom_115 : decode cX12_planFrom 115 = .ok (.iload 9, 2) := by decide +kernel
theorem dX12_planFrom_117 : decode cX12_planFrom 117 = .ok (.aload_n 0, 1) := by decide +kernel
theorem dX12_planFrom_118 : decode cX12_planFrom 118 = .ok (.getfield 77, 3) := by decide +kernel
theorem dX12_planFrom_121 : decode cX12_planFrom 121 = .ok (.iload 5, 2) := by decide +kernel
theorem dX12_planFrom_123 : decode cX12_planFrom 123 = .ok (.iaload, 1) := by decide +kernel
theorem dX12_planFrom_124 : decode cX12_planFrom 124 = .ok (.iadd, 1) := by decide +kernel
theorem dX12_planFrom_125 : decode cX12_planFrom 125 = .ok (.iload 6, 2) := by decide +kernel
theorem dX12_planFrom_127 : decode cX12_planFrom 127 = .ok (.if_icmp .ge 24, 3) := by decide +kernel
theorem dX12_planFrom_130 : decode cX12_planFrom 130 = .ok (.iload 9, 2) := by decide +kernel
theorem dX12_planFrom_132 : decode cX12_planFrom 132 = .ok (.aload_n 0, 1) := by decide +kernel
theorem dX12_planFrom_133 : decode cX12_planFrom 133 = .ok (.getfield 77, 3) := by decide +kernel
theorem dX12_planFrom_136 : decode cX12_planFrom 136 = .ok (.iload 5, 2) := by decide +kernel
theorem dX12_planFrom_138 : decode cX12_planFrom 138 = .ok (.iaload, 1) := by decide +kernel
theorem dX12_planFrom_139 : decode cX12_planFrom 139 = .ok (.iadd, 1) := by decide +kernel
theorem dX12_planFrom_140 : decode cX12_planFrom 140 = .ok (.istore 6, 2) := by decide +kernel
theorem dX12_planFrom_142 : decode cX12_planFrom 142 = .ok (.aload_n 0, 1) := by decide +kernel
theorem dX12_planFrom_143 : decode cX12_planFrom 143 = .ok (.getfield 86, 3) := by decide +kernel
theorem dX12_planFrom_146 : decode cX12_planFrom 146 = .ok (.iload 7, 2) := by decide +kernel
theorem dX12_planFrom_148 : decode cX12_planFrom 148 = .ok (.iload 8, 2) := by decide +kernel
theorem dX12_planFrom_150 : decode cX12_planFrom 150 = .ok (.iastore, 1) := by decide +kernel
theorem dX12_planFrom_151 : decode cX12_planFrom 151 = .ok (.iinc 8 1, 3) := by decide +kernel
theorem dX12_planFrom_154 : decode cX12_planFrom 154 = .ok (.goto (-128), 3) := by decide +kernel
theorem dX12_planFrom_157 : decode cX12_planFrom 157 = .ok (.aload_n 0, 1) := by decide +kernel
theorem dX12_planFrom_158 : decode cX12_planFrom 158 = .ok (.getfield 83, 3) := by decide +kernel
theorem dX12_planFrom_161 : decode cX12_planFrom 161 = .ok (.iload 7, 2) := by decide +kernel
theorem dX12_planFrom_163 : decode cX12_planFrom 163 = .ok (.iload 6, 2) := by decide +kernel
theorem dX12_planFrom_165 : decode cX12_planFrom 165 = .ok (.iastore, 1) := by decide +kernel
theorem dX12_planFrom_166 : decode cX12_planFrom 166 = .ok (.iinc 5 1, 3) := by decide +kernel
theorem dX12_planFrom_169 : decode cX12_planFrom 169 = .ok (.goto (-166), 3) := by decide +kernel
theorem dX12_planFrom_172 : decode cX12_planFrom 172 = .ok (.return_, 1) := by decide +kernel
theorem dX12_plan_0 : decode cX12_plan 0 = .ok (.iload_n 1, 1) := by decide +kernel
theorem dX12_plan_1 : decode cX12_plan 1 = .ok (.iconst 1, 1) := by decide +kernel
theorem dX12_plan_2 : decode cX12_plan 2 = .ok (.bipush 6, 2) := by decide +kernel
theorem dX12_plan_4 : decode cX12_plan 4 = .ok (.invokestatic 99, 3) := by decide +kernel
theorem dX12_plan_7 : decode cX12_plan 7 = .ok (.ifCond .eq 13, 3) := by decide +kernel
theorem dX12_plan_10 : decode cX12_plan 10 = .ok (.iload_n 2, 1) := by decide +kernel
theorem dX12_plan_11 : decode cX12_plan 11 = .ok (.iconst 0, 1) := by decide +kernel
theorem dX12_plan_12 : decode cX12_plan 12 = .ok (.bipush 99, 2) := by decide +kernel
theorem dX12_plan_14 : decode cX12_plan 14 = .ok (.invokestatic 99, 3) := by decide +kernel
theorem dX12_plan_17 : decode cX12_plan 17 = .ok (.ifCond .ne 5, 3) := by decide +kernel
theorem dX12_plan_20 : decode cX12_plan 20 = .ok (.iconst (-1), 1) := by decide +kernel
theorem dX12_plan_21 : decode cX12_plan 21 = .ok (.ireturn, 1) := by decide +kernel
theorem dX12_plan_22 : decode cX12_plan 22 = .ok (.iconst 1, 1) := by decide +kernel
theorem dX12_plan_23 : decode cX12_plan 23 = .ok (.aload_n 0, 1) := by decide +kernel
theorem dX12_plan_24 : decode cX12_plan 24 = .ok (.getfield 123, 3) := by decide +kernel
theorem dX12_plan_27 : decode cX12_plan 27 = .ok (.ishl, 1) := by decide +kernel
theorem dX12_plan_28 : decode cX12_plan 28 = .ok (.iconst 1, 1) := by decide +kernel
theorem dX12_plan_29 : decode cX12_plan 29 = .ok (.isub, 1) := by decide +kernel
theorem dX12_plan_30 : decode cX12_plan 30 = .ok (.istore_n 3, 1) := by decide +kernel
theorem dX12_plan_31 : decode cX12_plan 31 = .ok (.iconst 0, 1) := by decide +kernel
theorem dX12_plan_32 : decode cX12_plan 32 = .ok (.istore 4, 2) := by decide +kernel
theorem dX12_plan_34 : decode cX12_plan 34 = .ok (.iload 4, 2) := by decide +kernel
theorem dX12_plan_36 : decode cX12_plan 36 = .ok (.iload_n 3, 1) := by decide +kernel
theorem dX12_plan_37 : decode cX12_plan 37 = .ok (.if_icmp .gt 35, 3) := by decide +kernel
theorem dX12_plan_40 : decode cX12_plan 40 = .ok (.aload_n 0, 1) := by decide +kernel
theorem dX12_plan_41 : decode cX12_plan 41 = .ok (.getfield 77, 3) := by decide +kernel
theorem dX12_plan_44 : decode cX12_plan 44 = .ok (.iload 4, 2) := by decide +kernel
theorem dX12_plan_46 : decode cX12_plan 46 = .ok (.aload_n 0, 1) := by decide +kernel
theorem dX12_plan_47 : decode cX12_plan 47 = .ok (.iload 4, 2) := by decide +kernel
theorem dX12_plan_49 : decode cX12_plan 49 = .ok (.invokevirtual 148, 3) := by decide +kernel
theorem dX12_plan_52 : decode cX12_plan 52 = .ok (.iastore, 1) := by decide +kernel
theorem dX12_plan_53 : decode cX12_plan 53 = .ok (.aload_n 0, 1) := by decide +kernel
theorem dX12_plan_54 : decode cX12_plan 54 = .ok (.getfield 80, 3) := by decide +kernel
theorem dX12_plan_57 : decode cX12_plan 57 = .ok (.iload 4, 2) := by decide +kernel
theorem dX12_plan_59 : decode cX12_plan 59 = .ok (.aload_n 0, 1) := by decide +kernel
theorem dX12_plan_60 : decode cX12_plan 60 = .ok (.iload 4, 2) := by decide +kernel
theorem dX12_plan_62 : decode cX12_plan 62 = .ok (.invokevirtual 162, 3) := by decide +kernel
theorem dX12_plan_65 : decode cX12_plan 65 = .ok (.bastore, 1) := by decide +kernel
theorem dX12_plan_66 : decode cX12_plan 66 = .ok (.iinc 4 1, 3) := by decide +kernel
theorem dX12_plan_69 : decode cX12_plan 69 = .ok (.goto (-35), 3) := by decide +kernel
theorem dX12_plan_72 : decode cX12_plan 72 = .ok (.aload_n 0, 1) := by decide +kernel
theorem dX12_plan_73 : decode cX12_plan 73 = .ok (.getfield 80, 3) := by decide +kernel
theorem dX12_plan_76 : decode cX12_plan 76 = .ok (.iconst 0, 1) := by decide +kernel
theorem dX12_plan_77 : decode cX12_plan 77 = .ok (.baload, 1) := by decide +kernel
theorem dX12_plan_78 : decode cX12_plan 78 = .ok (.ifCond .ne 6, 3) := by decide +kernel
theorem dX12_plan_81 : decode cX12_plan 81 = .ok (.bipush (-2), 2) := by decide +kernel
theorem dX12_plan_83 : decode cX12_plan 83 = .ok (.ireturn, 1) := by decide +kernel
theorem dX12_plan_84 : decode cX12_plan 84 = .ok (.iload_n 1, 1) := by decide +kernel
theorem dX12_plan_85 : decode cX12_plan 85 = .ok (.iconst 1, 1) := by decide +kernel
theorem dX12_plan_86 : decode cX12_plan 86 = .ok (.isub, 1) := by decide +kernel
theorem dX12_plan_87 : decode cX12_plan 87 = .ok (.istore 4, 2) := by decide +kernel
theorem dX12_plan_89 : decode cX12_plan 89 = .ok (.iload 4, 2) := by decide +kernel
theorem dX12_plan_91 : decode cX12_plan 91 = .ok (.ifCond .lt 18, 3) := by decide +kernel
theorem dX12_plan_94 : decode cX12_plan 94 = .ok (.aload_n 0, 1) := by decide +kernel
theorem dX12_plan_95 : decode cX12_plan 95 = .ok (.iload 4, 2) := by decide +kernel
theorem dX12_plan_97 : decode cX12_plan 97 = .ok (.iload_n 1, 1) := by decide +kernel
theorem dX12_plan_98 : decode cX12_plan 98 = .ok (.iload_n 2, 1) := by decide +kernel
theorem dX12_plan_99 : decode cX12_plan 99 = .ok (.iload_n 3, 1) := by decide +kernel
theorem dX12_plan_100 : decode cX12_plan 100 = .ok (.invokevirtual 172, 3) := by decide +kernel
theorem dX12_plan_103 : decode cX12_plan 103 = .ok (.iinc 4 (-1), 3) := by decide +kernel
theorem dX12_plan_106 : decode cX12_plan 106 = .ok (.goto (-17), 3) := by decide +kernel
theorem dX12_plan_109 : decode cX12_plan 109 = .ok (.iconst 0, 1) := by decide +kernel
theorem dX12_plan_110 : decode cX12_plan 110 = .ok (.istore 4, 2) := by decide +kernel
theorem dX12_plan_112 : decode cX12_plan 112 = .ok (.iload 4, 2) := by decide +kernel
theorem dX12_plan_114 : decode cX12_plan 114 = .ok (.bipush 8, 2) := by decide +kernel
theorem dX12_plan_116 : decode cX12_plan 116 = .ok (.if_icmp .ge 32, 3) := by decide +kernel
theorem dX12_plan_119 : decode cX12_plan 119 = .ok (.aload_n 0, 1) := by decide +kernel
theorem dX12_plan_120 : decode cX12_plan 120 = .ok (.getfield 92, 3) := by decide +kernel
theorem dX12_plan_123 : decode cX12_plan 123 = .ok (.iload 4, 2) := by decide +kernel
theorem dX12_plan_125 : decode cX12_plan 125 = .ok (.aload_n 0, 1) := by decide +kernel
theorem dX12_plan_126 : decode cX12_plan 126 = .ok (.getfield 89, 3) := by decide +kernel
theorem dX12_plan_129 : decode cX12_plan 129 = .ok (.iload 4, 2) := by decide +kernel
theorem dX12_plan_131 : decode cX12_plan 131 = .ok (.iaload, 1) := by decide +kernel
theorem dX12_plan_132 : decode cX12_plan 132 = .ok (.iastore, 1) := by decide +kernel
theorem dX12_plan_133 : decode cX12_plan 133 = .ok (.aload_n 0, 1) := by decide +kernel
theorem dX12_plan_134 : decode cX12_plan 134 = .ok (.getfield 89, 3) := by decide +kernel
theorem dX12_plan_137 : decode cX12_plan 137 = .ok (.iload 4, 2) := by decide +kernel
theorem dX12_plan_139 : decode cX12_plan 139 = .ok (.bipush (-4), 2) := by decide +kernel
theorem dX12_plan_141 : decode cX12_plan 141 = .ok (.iastore, 1) := by decide +kernel
theorem dX12_plan_142 : decode cX12_plan 142 = .ok (.iinc 4 1, 3) := by decide +kernel
theorem dX12_plan_145 : decode cX12_plan 145 = .ok (.goto (-33), 3) := by decide +kernel
theorem dX12_plan_148 : decode cX12_plan 148 = .ok (.aload_n 0, 1) := by decide +kernel
theorem dX12_plan_149 : decode cX12_plan 149 = .ok (.dup, 1) := by decide +kernel
theorem dX12_plan_150 : decode cX12_plan 150 = .ok (.getfield 176, 3) := by decide +kernel
theorem dX12_plan_153 : decode cX12_plan 153 = .ok (.iconst 1, 1) := by decide +kernel
theorem dX12_plan_154 : decode cX12_plan 154 = .ok (.iadd, 1) := by decide +kernel
theorem dX12_plan_155 : decode cX12_plan 155 = .ok (.putfield 176, 3) := by decide +kernel
theorem dX12_plan_158 : decode cX12_plan 158 = .ok (.iconst 0, 1) := by decide +kernel
theorem dX12_plan_159 : decode cX12_plan 159 = .ok (.istore 4, 2) := by decide +kernel
theorem dX12_plan_161 : decode cX12_plan 161 = .ok (.iconst 0, 1) := by decide +kernel
theorem dX12_plan_162 : decode cX12_plan 162 = .ok (.istore 5, 2) := by decide +kernel
theorem dX12_plan_164 : decode cX12_plan 164 = .ok (.iload 5, 2) := by decide +kernel
theorem dX12_plan_166 : decode cX12_plan 166 = .ok (.iload_n 1, 1) := by decide +kernel
theorem dX12_plan_167 : decode cX12_plan 167 = .ok (.if_icmp .ge 80, 3) := by decide +kernel
theorem dX12_plan_170 : decode cX12_plan 170 = .ok (.aload_n 0, 1) := by decide +kernel
theorem dX12_plan_171 : decode cX12_plan 171 = .ok (.getfield 86, 3) := by decide +kernel
theorem dX12_plan_174 : decode cX12_plan 174 = .ok (.sipush 256, 3) := by decide +kernel
theorem dX12_plan_177 : decode cX12_plan 177 = .ok (.iload 5, 2) := by decide +kernel
theorem dX12_plan_179 : decode cX12_plan 179 = .ok (.imul, 1) := by decide +kernel
theorem dX12_plan_180 : decode cX12_plan 180 = .ok (.iload 4, 2) := by decide +kernel
theorem dX12_plan_182 : decode cX12_plan 182 = .ok (.iadd, 1) := by decide +kernel
theorem dX12_plan_183 : decode cX12_plan 183 = .ok (.iaload, 1) := by decide +kernel
theorem dX12_plan_184 : decode cX12_plan 184 = .ok (.istore 6, 2) := by decide +kernel
theorem dX12_plan_186 : decode cX12_plan 186 = .ok (.iconst 0, 1) := by decide +kernel
theorem dX12_plan_187 : decode cX12_plan 187 = .ok (.istore 7, 2) := by decide +kernel
theorem dX12_plan_189 : decode cX12_plan 189 = .ok (.iload 7, 2) := by decide +kernel
theorem dX12_plan_191 : decode cX12_plan 191 = .ok (.aload_n 0, 1) := by decide +kernel
theorem dX12_plan_192 : decode cX12_plan 192 = .ok (.getfield 123, 3) := by decide +kernel
theorem dX12_plan_195 : decode cX12_plan 195 = .ok (.if_icmp .ge 39, 3) := by decide +kernel
theorem dX12_plan_198 : decode cX12_plan 198 = .ok (.aload_n 0, 1) := by decide +kernel
theorem dX12_plan_199 : decode cX12_plan 199 = .ok (.getfield 89, 3) := by decide +kernel
theorem dX12_plan_202 : decode cX12_plan 202 = .ok (.iload 7, 2) := by decide +kernel
theorem dX12_plan_204 : decode cX12_plan 204 = .ok (.iload 6, 2) := by decide +kernel
theorem dX12_plan_206 : decode cX12_plan 206 = .ok (.iload 7, 2) := by decide +kernel
theorem dX12_plan_208 : decode cX12_plan 208 = .ok (.ishr, 1) := by decide +kernel
theorem dX12_plan_209 : decode cX12_plan 209 = .ok (.iconst 1, 1) := by decide +kernel
theorem dX12_plan_210 : decode cX12_plan 210 = .ok (.iand, 1) := by decide +kernel
theorem dX12_plan_211 : decode cX12_plan 211 = .ok (.iconst 1, 1) := by decide +kernel
theorem dX12_plan_212 : decode cX12_plan 212 = .ok (.if_icmp .ne 8, 3) := by decide +kernel
theorem dX12_plan_215 : decode cX12_plan 215 = .ok (.iload 5, 2) := by decide +kernel
theorem dX12_plan_217 : decode cX12_plan 217 = .ok (.goto 10, 3) := by decide +kernel
theorem dX12_plan_220 : decode cX12_plan 220 = .ok (.aload_n 0, 1) := by decide +kernel
theorem dX12_plan_221 : decode cX12_plan 221 = .ok (.getfield 89, 3) := by decide +kernel
theorem dX12_plan_224 : decode cX12_plan 224 = .ok (.iload 7, 2) := by decide +kernel
theorem dX12_plan_226 : decode cX12_plan 226 = .ok (.iaload, 1) := by decide +kernel
theorem dX12_plan_227 : decode cX12_plan 227 = .ok (.iastore, 1) := by decide +kernel
theorem dX12_plan_228 : decode cX12_plan 228 = .ok (.iinc 7 1, 3) := by decide +kernel
theorem dX12_plan_231 : decode cX12_plan 231 = .ok (.goto (-42), 3) := by decide +kernel
theorem dX12_plan_234 : decode cX12_plan 234 = .ok (.iload 4, 2) := by decide +kernel
theorem dX12_plan_236 : decode cX12_plan 236 = .ok (.iload 6, 2) := by decide +kernel
theorem dX12_plan_238 : decode cX12_plan 238 = .ok (.ior, 1) := by decide +kernel
theorem dX12_plan_239 : decode cX12_plan 239 = .ok (.istore 4, 2) := by decide +kernel
theorem dX12_plan_241 : decode cX12_plan 241 = .ok (.iinc 5 1, 3) := by decide +kernel
theorem dX12_plan_244 : decode cX12_plan 244 = .ok (.goto (-80), 3) := by decide +kernel
theorem dX12_plan_247 : decode cX12_plan 247 = .ok (.aload_n 0, 1) := by decide +kernel
theorem dX12_plan_248 : decode cX12_plan 248 = .ok (.getfield 83, 3) := by decide +kernel
theorem dX12_plan_251 : decode cX12_plan 251 = .ok (.iconst 0, 1) := by decide +kernel
theorem dX12_plan_252 : decode cX12_plan 252 = .ok (.iaload, 1) := by decide +kernel
theorem dX12_plan_253 : decode cX12_plan 253 = .ok (.ireturn, 1) := by decide +kernel
theorem dX12_week_0 : decode cX12_week 0 = .ok (.aload_n 0, 1) := by decide +kernel
theorem dX12_week_1 : decode cX12_week 1 = .ok (.iload_n 1, 1) := by decide +kernel
theorem dX12_week_2 : decode cX12_week 2 = .ok (.invokevirtual 165, 3) := by decide +kernel
theorem dX12_week_5 : decode cX12_week 5 = .ok (.ifCond .ne 7, 3) := by decide +kernel
theorem dX12_week_8 : decode cX12_week 8 = .ok (.iconst (-1), 1) := by decide +kernel
theorem dX12_week_9 : decode cX12_week 9 = .ok (.goto 21, 3) := by decide +kernel
theorem dX12_week_12 : decode cX12_week 12 = .ok (.aload_n 0, 1) := by decide +kernel
theorem dX12_week_13 : decode cX12_week 13 = .ok (.getfield 176, 3) := by decide +kernel
theorem dX12_week_16 : decode cX12_week 16 = .ok (.ifCond .ne 8, 3) := by decide +kernel
theorem dX12_week_19 : decode cX12_week 19 = .ok (.bipush (-4), 2) := by decide +kernel
theorem dX12_week_21 : decode cX12_week 21 = .ok (.goto 9, 3) := by decide +kernel
theorem dX12_week_24 : decode cX12_week 24 = .ok (.aload_n 0, 1) := by decide +kernel
theorem dX12_week_25 : decode cX12_week 25 = .ok (.getfield 89, 3) := by decide +kernel
theorem dX12_week_28 : decode cX12_week 28 = .ok (.iload_n 1, 1) := by decide +kernel
theorem dX12_week_29 : decode cX12_week 29 = .ok (.iaload, 1) := by decide +kernel
theorem dX12_week_30 : decode cX12_week 30 = .ok (.ireturn, 1) := by decide +kernel
theorem dX12_moved_0 : decode cX12_moved 0 = .ok (.aload_n 0, 1) := by decide +kernel
theorem dX12_moved_1 : decode cX12_moved 1 = .ok (.getfield 176, 3) := by decide +kernel
theorem dX12_moved_4 : decode cX12_moved 4 = .ok (.iconst 2, 1) := by decide +kernel
theorem dX12_moved_5 : decode cX12_moved 5 = .ok (.if_icmp .ge 6, 3) := by decide +kernel
theorem dX12_moved_8 : decode cX12_moved 8 = .ok (.bipush (-4), 2) := by decide +kernel
theorem dX12_moved_10 : decode cX12_moved 10 = .ok (.ireturn, 1) := by decide +kernel
theorem dX12_moved_11 : decode cX12_moved 11 = .ok (.iconst 0, 1) := by decide +kernel
theorem dX12_moved_12 : decode cX12_moved 12 = .ok (.istore_n 1, 1) := by decide +kernel
theorem dX12_moved_13 : decode cX12_moved 13 = .ok (.iconst 0, 1) := by decide +kernel
theorem dX12_moved_14 : decode cX12_moved 14 = .ok (.istore_n 2, 1) := by decide +kernel
theorem dX12_moved_15 : decode cX12_moved 15 = .ok (.iload_n 2, 1) := by decide +kernel
theorem dX12_moved_16 : decode cX12_moved 16 = .ok (.bipush 8, 2) := by decide +kernel
theorem dX12_moved_18 : decode cX12_moved 18 = .ok (.if_icmp .ge 34, 3) := by decide +kernel
theorem dX12_moved_21 : decode cX12_moved 21 = .ok (.iload_n 1, 1) := by decide +kernel
theorem dX12_moved_22 : decode cX12_moved 22 = .ok (.aload_n 0, 1) := by decide +kernel
theorem dX12_moved_23 : decode cX12_moved 23 = .ok (.getfield 89, 3) := by decide +kernel
theorem dX12_moved_26 : decode cX12_moved 26 = .ok (.iload_n 2, 1) := by decide +kernel
theorem dX12_moved_27 : decode cX12_moved 27 = .ok (.iaload, 1) := by decide +kernel
theorem dX12_moved_28 : decode cX12_moved 28 = .ok (.aload_n 0, 1) := by decide +kernel
theorem dX12_moved_29 : decode cX12_moved 29 = .ok (.getfield 92, 3) := by decide +kernel
theorem dX12_moved_32 : decode cX12_moved 32 = .ok (.iload_n 2, 1) := by decide +kernel
theorem dX12_moved_33 : decode cX12_moved 33 = .ok (.iaload, 1) := by decide +kernel
theorem dX12_moved_34 : decode cX12_moved 34 = .ok (.if_icmp .ne 7, 3) := by decide +kernel
theorem dX12_moved_37 : decode cX12_moved 37 = .ok (.iconst 0, 1) := by decide +kernel
theorem dX12_moved_38 : decode cX12_moved 38 = .ok (.goto 6, 3) := by decide +kernel
theorem dX12_moved_41 : decode cX12_moved 41 = .ok (.iconst 1, 1) := by decide +kernel
theorem dX12_moved_42 : decode cX12_moved 42 = .ok (.iload_n 2, 1) := by decide +kernel
theorem dX12_moved_43 : decode cX12_moved 43 = .ok (.ishl, 1) := by decide +kernel
theorem dX12_moved_44 : decode cX12_moved 44 = .ok (.ior, 1) := by decide +kernel
theorem dX12_moved_45 : decode cX12_moved 45 = .ok (.istore_n 1, 1) := by decide +kernel
theorem dX12_moved_46 : decode cX12_moved 46 = .ok (.iinc 2 1, 3) := by decide +kernel
theorem dX12_moved_49 : decode cX12_moved 49 = .ok (.goto (-34), 3) := by decide +kernel
theorem dX12_moved_52 : decode cX12_moved 52 = .ok (.iload_n 1, 1) := by decide +kernel
theorem dX12_moved_53 : decode cX12_moved 53 = .ok (.ireturn, 1) := by decide +kernel
theorem dX12_make_0 : decode cX12_make 0 = .ok (.aload_n 0, 1) := by decide +kernel
theorem dX12_make_1 : decode cX12_make 1 = .ok (.iload_n 1, 1) := by decide +kernel
theorem dX12_make_2 : decode cX12_make 2 = .ok (.invokevirtual 165, 3) := by decide +kernel
theorem dX12_make_5 : decode cX12_make 5 = .ok (.ifCond .ne 5, 3) := by decide +kernel
theorem dX12_make_8 : decode cX12_make 8 = .ok (.iconst (-1), 1) := by decide +kernel
theorem dX12_make_9 : decode cX12_make 9 = .ok (.ireturn, 1) := by decide +kernel
theorem dX12_make_10 : decode cX12_make 10 = .ok (.aload_n 0, 1) := by decide +kernel
theorem dX12_make_11 : decode cX12_make 11 = .ok (.getfield 65, 3) := by decide +kernel
theorem dX12_make_14 : decode cX12_make 14 = .ok (.iload_n 1, 1) := by decide +kernel
theorem dX12_make_15 : decode cX12_make 15 = .ok (.iaload, 1) := by decide +kernel
theorem dX12_make_16 : decode cX12_make 16 = .ok (.istore_n 2, 1) := by decide +kernel
theorem dX12_make_17 : decode cX12_make 17 = .ok (.aload_n 0, 1) := by decide +kernel
theorem dX12_make_18 : decode cX12_make 18 = .ok (.iconst 1, 1) := by decide +kernel
theorem dX12_make_19 : decode cX12_make 19 = .ok (.iload_n 1, 1) := by decide +kernel
theorem dX12_make_20 : decode cX12_make 20 = .ok (.ishl, 1) := by decide +kernel
theorem dX12_make_21 : decode cX12_make 21 = .ok (.invokevirtual 140, 3) := by decide +kernel
theorem dX12_make_24 : decode cX12_make 24 = .ok (.aload_n 0, 1) := by decide +kernel
theorem dX12_make_25 : decode cX12_make 25 = .ok (.invokevirtual 155, 3) := by decide +kernel
theorem dX12_make_28 : decode cX12_make 28 = .ok (.ifCond .ne 27, 3) := by decide +kernel
theorem dX12_make_31 : decode cX12_make 31 = .ok (.iload_n 2, 1) := by decide +kernel
theorem dX12_make_32 : decode cX12_make 32 = .ok (.ifCond .lt 26, 3) := by decide +kernel
theorem dX12_make_35 : decode cX12_make 35 = .ok (.aload_n 0, 1) := by decide +kernel
theorem dX12_make_36 : decode cX12_make 36 = .ok (.getfield 7, 3) := by decide +kernel
theorem dX12_make_39 : decode cX12_make 39 = .ok (.aload_n 0, 1) := by decide +kernel
theorem dX12_make_40 : decode cX12_make 40 = .ok (.getfield 56, 3) := by decide +kernel
theorem dX12_make_43 : decode cX12_make 43 = .ok (.iload_n 2, 1) := by decide +kernel
theorem dX12_make_44 : decode cX12_make 44 = .ok (.iaload, 1) := by decide +kernel
theorem dX12_make_45 : decode cX12_make 45 = .ok (.iaload, 1) := by decide +kernel
theorem dX12_make_46 : decode cX12_make 46 = .ok (.aload_n 0, 1) := by decide +kernel
theorem dX12_make_47 : decode cX12_make 47 = .ok (.getfield 59, 3) := by decide +kernel
theorem dX12_make_50 : decode cX12_make 50 = .ok (.iload_n 2, 1) := by decide +kernel
theorem dX12_make_51 : decode cX12_make 51 = .ok (.iaload, 1) := by decide +kernel
theorem dX12_make_52 : decode cX12_make 52 = .ok (.if_icmp .ge 6, 3) := by decide +kernel
theorem dX12_make_55 : decode cX12_make 55 = .ok (.bipush (-2), 2) := by decide +kernel
theorem dX12_make_57 : decode cX12_make 57 = .ok (.ireturn, 1) := by decide +kernel
theorem dX12_make_58 : decode cX12_make 58 = .ok (.aload_n 0, 1) := by decide +kernel
theorem dX12_make_59 : decode cX12_make 59 = .ok (.iconst 0, 1) := by decide +kernel
theorem dX12_make_60 : decode cX12_make 60 = .ok (.invokevirtual 148, 3) := by decide +kernel
theorem dX12_make_63 : decode cX12_make 63 = .ok (.istore_n 3, 1) := by decide +kernel
theorem dX12_make_64 : decode cX12_make 64 = .ok (.aload_n 0, 1) := by decide +kernel
theorem dX12_make_65 : decode cX12_make 65 = .ok (.getfield 56, 3) := by decide +kernel
theorem dX12_make_68 : decode cX12_make 68 = .ok (.iload_n 1, 1) := by decide +kernel
theorem dX12_make_69 : decode cX12_make 69 = .ok (.iaload, 1) := by decide +kernel
theorem dX12_make_70 : decode cX12_make 70 = .ok (.istore 4, 2) := by decide +kernel
theorem dX12_make_72 : decode cX12_make 72 = .ok (.aload_n 0, 1) := by decide +kernel
theorem dX12_make_73 : decode cX12_make 73 = .ok (.getfield 7, 3) := by decide +kernel
theorem dX12_make_76 : decode cX12_make 76 = .ok (.iload 4, 2) := by decide +kernel
theorem dX12_make_78 : decode cX12_make 78 = .ok (.aload_n 0, 1) := by decide +kernel
theorem dX12_make_79 : decode cX12_make 79 = .ok (.getfield 59, 3) := by decide +kernel
theorem dX12_make_82 : decode cX12_make 82 = .ok (.iload_n 1, 1) := by decide +kernel
theorem dX12_make_83 : decode cX12_make 83 = .ok (.iaload, 1) := by decide +kernel
theorem dX12_make_84 : decode cX12_make 84 = .ok (.aload_n 0, 1) := by decide +kernel
theorem dX12_make_85 : decode cX12_make 85 = .ok (.getfield 7, 3) := by decide +kernel
theorem dX12_make_88 : decode cX12_make 88 = .ok (.iload 4, 2) := by decide +kernel
theorem dX12_make_90 : decode cX12_make 90 = .ok (.iaload, 1) := by decide +kernel
theorem dX12_make_91 : decode cX12_make 91 = .ok (.if_icmp .le 12, 3) := by decide +kernel
theorem dX12_make_94 : decode cX12_make 94 = .ok (.aload_n 0, 1) := by decide +kernel
theorem dX12_make_95 : decode cX12_make 95 = .ok (.getfield 59, 3) := by decide +kernel
theorem dX12_make_98 : decode cX12_make 98 = .ok (.iload_n 1, 1) := by decide +kernel
theorem dX12_make_99 : decode cX12_make 99 = .ok (.iaload, 1) := by decide +kernel
theorem dX12_make_100 : decode cX12_make 100 = .ok (.goto 10, 3) := by decide +kernel
theorem dX12_make_103 : decode cX12_make 103 = .ok (.aload_n 0, 1) := by decide +kernel
theorem dX12_make_104 : decode cX12_make 104 = .ok (.getfield 7, 3) := by decide +kernel
theorem dX12_make_107 : decode cX12_make 107 = .ok (.iload 4, 2) := by decide +kernel
theorem dX12_make_109 : decode cX12_make 109 = .ok (.iaload, 1) := by decide +kernel
theorem dX12_make_110 : decode cX12_make 110 = .ok (.iastore, 1) := by decide +kernel
theorem dX12_make_111 : decode cX12_make 111 = .ok (.ldc 179, 2) := by decide +kernel
theorem dX12_make_113 : decode cX12_make 113 = .ok (.iload_n 3, 1) := by decide +kernel
theorem dX12_make_114 : decode cX12_make 114 = .ok (.iadd, 1) := by decide +kernel
theorem dX12_make_115 : decode cX12_make 115 = .ok (.aload_n 0, 1) := by decide +kernel
theorem dX12_make_116 : decode cX12_make 116 = .ok (.iconst 0, 1) := by decide +kernel
theorem dX12_make_117 : decode cX12_make 117 = .ok (.invokevirtual 148, 3) := by decide +kernel
theorem dX12_make_120 : decode cX12_make 120 = .ok (.isub, 1) := by decide +kernel
theorem dX12_make_121 : decode cX12_make 121 = .ok (.ireturn, 1) := by decide +kernel
theorem dX12_count_0 : decode cX12_count 0 = .ok (.iconst 0, 1) := by decide +kernel
theorem dX12_count_1 : decode cX12_count 1 = .ok (.istore_n 2, 1) := by decide +kernel
theorem dX12_count_2 : decode cX12_count 2 = .ok (.iload_n 1, 1) := by decide +kernel
theorem dX12_count_3 : decode cX12_count 3 = .ok (.tableswitch 140 0 5 #[37, 42, 47, 52, 57, 96], 37) := by decide +kernel
theorem dX12_count_40 : decode cX12_count 40 = .ok (.aload_n 0, 1) := by decide +kernel
theorem dX12_count_41 : decode cX12_count 41 = .ok (.getfield 95, 3) := by decide +kernel
theorem dX12_count_44 : decode cX12_count 44 = .ok (.ireturn, 1) := by decide +kernel
theorem dX12_count_45 : decode cX12_count 45 = .ok (.aload_n 0, 1) := by decide +kernel
theorem dX12_count_46 : decode cX12_count 46 = .ok (.getfield 110, 3) := by decide +kernel
theorem dX12_count_49 : decode cX12_count 49 = .ok (.ireturn, 1) := by decide +kernel
theorem dX12_count_50 : decode cX12_count 50 = .ok (.aload_n 0, 1) := by decide +kernel
theorem dX12_count_51 : decode cX12_count 51 = .ok (.getfield 123, 3) := by decide +kernel
theorem dX12_count_54 : decode cX12_count 54 = .ok (.ireturn, 1) := by decide +kernel
theorem dX12_count_55 : decode cX12_count 55 = .ok (.aload_n 0, 1) := by decide +kernel
theorem dX12_count_56 : decode cX12_count 56 = .ok (.getfield 152, 3) := by decide +kernel
theorem dX12_count_59 : decode cX12_count 59 = .ok (.ireturn, 1) := by decide +kernel
theorem dX12_count_60 : decode cX12_count 60 = .ok (.aload_n 0, 1) := by decide +kernel
theorem dX12_count_61 : decode cX12_count 61 = .ok (.iconst 0, 1) := by decide +kernel
theorem dX12_count_62 : decode cX12_count 62 = .ok (.invokevirtual 140, 3) := by decide +kernel
theorem dX12_count_65 : decode cX12_count 65 = .ok (.iconst 0, 1) := by decide +kernel
theorem dX12_count_66 : decode cX12_count 66 = .ok (.istore_n 3, 1) := by decide +kernel
theorem dX12_count_67 : decode cX12_count 67 = .ok (.iload_n 3, 1) := by decide +kernel
theorem dX12_count_68 : decode cX12_count 68 = .ok (.aload_n 0, 1) := by decide +kernel
theorem dX12_count_69 : decode cX12_count 69 = .ok (.getfield 110, 3) := by decide +kernel
theorem dX12_count_72 : decode cX12_count 72 = .ok (.if_icmp .ge 25, 3) := by decide +kernel
theorem dX12_count_75 : decode cX12_count 75 = .ok (.iload_n 2, 1) := by decide +kernel
theorem dX12_count_76 : decode cX12_count 76 = .ok (.aload_n 0, 1) := by decide +kernel
theorem dX12_count_77 : decode cX12_count 77 = .ok (.iload_n 3, 1) := by decide +kernel
theorem dX12_count_78 : decode cX12_count 78 = .ok (.invokevirtual 126, 3) := by decide +kernel
theorem dX12_count_81 : decode cX12_count 81 = .ok (.ifCond .eq 7, 3) := by decide +kernel
theorem dX12_count_84 : decode cX12_count 84 = .ok (.iconst 1, 1) := by decide +kernel
theorem dX12_count_85 : decode cX12_count 85 = .ok (.goto 4, 3) := by decide +kernel
theorem dX12_count_88 : decode cX12_count 88 = .ok (.iconst 0, 1) := by decide +kernel
theorem dX12_count_89 : decode cX12_count 89 = .ok (.iadd, 1) := by decide +kernel
theorem dX12_count_90 : decode cX12_count 90 = .ok (.istore_n 2, 1) := by decide +kernel
theorem dX12_count_91 : decode cX12_count 91 = .ok (.iinc 3 1, 3) := by decide +kernel
theorem dX12_count_94 : decode cX12_count 94 = .ok (.goto (-27), 3) := by decide +kernel
theorem dX12_count_97 : decode cX12_count 97 = .ok (.iload_n 2, 1) := by decide +kernel
theorem dX12_count_98 : decode cX12_count 98 = .ok (.ireturn, 1) := by decide +kernel
theorem dX12_count_99 : decode cX12_count 99 = .ok (.aload_n 0, 1) := by decide +kernel
theorem dX12_count_100 : decode cX12_count 100 = .ok (.iconst 0, 1) := by decide +kernel
theorem dX12_count_101 : decode cX12_count 101 = .ok (.invokevirtual 148, 3) := by decide +kernel
theorem dX12_count_104 : decode cX12_count 104 = .ok (.istore_n 3, 1) := by decide +kernel
theorem dX12_count_105 : decode cX12_count 105 = .ok (.iconst 0, 1) := by decide +kernel
theorem dX12_count_106 : decode cX12_count 106 = .ok (.istore 4, 2) := by decide +kernel
theorem dX12_count_108 : decode cX12_count 108 = .ok (.iload 4, 2) := by decide +kernel
theorem dX12_count_110 : decode cX12_count 110 = .ok (.aload_n 0, 1) := by decide +kernel
theorem dX12_count_111 : decode cX12_count 111 = .ok (.getfield 95, 3) := by decide +kernel
theorem dX12_count_114 : decode cX12_count 114 = .ok (.if_icmp .ge 27, 3) := by decide +kernel
theorem dX12_count_117 : decode cX12_count 117 = .ok (.iload_n 2, 1) := by decide +kernel
theorem dX12_count_118 : decode cX12_count 118 = .ok (.aload_n 0, 1) := by decide +kernel
theorem dX12_count_119 : decode cX12_count 119 = .ok (.getfield 47, 3) := by decide +kernel
theorem dX12_count_122 : decode cX12_count 122 = .ok (.iload 4, 2) := by decide +kernel
theorem dX12_count_124 : decode cX12_count 124 = .ok (.iaload, 1) := by decide +kernel
theorem dX12_count_125 : decode cX12_count 125 = .ok (.ifCond .le 7, 3) := by decide +kernel
theorem dX12_count_128 : decode cX12_count 128 = .ok (.iconst 1, 1) := by decide +kernel
theorem dX12_count_129 : decode cX12_count 129 = .ok (.goto 4, 3) := by decide +kernel
theorem dX12_count_132 : decode cX12_count 132 = .ok (.iconst 0, 1) := by decide +kernel
theorem dX12_count_133 : decode cX12_count 133 = .ok (.iadd, 1) := by decide +kernel
theorem dX12_count_134 : decode cX12_count 134 = .ok (.istore_n 2, 1) := by decide +kernel
theorem dX12_count_135 : decode cX12_count 135 = .ok (.iinc 4 1, 3) := by decide +kernel
theorem dX12_count_138 : decode cX12_count 138 = .ok (.goto (-30), 3) := by decide +kernel
theorem dX12_count_141 : decode cX12_count 141 = .ok (.iload_n 2, 1) := by decide +kernel
theorem dX12_count_142 : decode cX12_count 142 = .ok (.ireturn, 1) := by decide +kernel
theorem dX12_count_143 : decode cX12_count 143 = .ok (.iconst (-1), 1) := by decide +kernel
theorem dX12_count_144 : decode cX12_count 144 = .ok (.ireturn, 1) := by decide +kernel
theorem dJ6_bitCount_0f7a4_0 : decode cJ6_bitCount_0f7a4 0 = .ok (.iload_n 0, 1) := by decide +kernel
theorem dJ6_bitCount_0f7a4_1 : decode cJ6_bitCount_0f7a4 1 = .ok (.iload_n 0, 1) := by decide +kernel
theorem dJ6_bitCount_0f7a4_2 : decode cJ6_bitCount_0f7a4 2 = .ok (.iconst 1, 1) := by decide +kernel
theorem dJ6_bitCount_0f7a4_3 : decode cJ6_bitCount_0f7a4 3 = .ok (.iushr, 1) := by decide +kernel
theorem dJ6_bitCount_0f7a4_4 : decode cJ6_bitCount_0f7a4 4 = .ok (.ldc_w 265, 3) := by decide +kernel
theorem dJ6_bitCount_0f7a4_7 : decode cJ6_bitCount_0f7a4 7 = .ok (.iand, 1) := by decide +kernel
theorem dJ6_bitCount_0f7a4_8 : decode cJ6_bitCount_0f7a4 8 = .ok (.isub, 1) := by decide +kernel
theorem dJ6_bitCount_0f7a4_9 : decode cJ6_bitCount_0f7a4 9 = .ok (.istore_n 0, 1) := by decide +kernel
theorem dJ6_bitCount_0f7a4_10 : decode cJ6_bitCount_0f7a4 10 = .ok (.iload_n 0, 1) := by decide +kernel
theorem dJ6_bitCount_0f7a4_11 : decode cJ6_bitCount_0f7a4 11 = .ok (.ldc_w 266, 3) := by decide +kernel
theorem dJ6_bitCount_0f7a4_14 : decode cJ6_bitCount_0f7a4 14 = .ok (.iand, 1) := by decide +kernel
theorem dJ6_bitCount_0f7a4_15 : decode cJ6_bitCount_0f7a4 15 = .ok (.iload_n 0, 1) := by decide +kernel
theorem dJ6_bitCount_0f7a4_16 : decode cJ6_bitCount_0f7a4 16 = .ok (.iconst 2, 1) := by decide +kernel
theorem dJ6_bitCount_0f7a4_17 : decode cJ6_bitCount_0f7a4 17 = .ok (.iushr, 1) := by decide +kernel
theorem dJ6_bitCount_0f7a4_18 : decode cJ6_bitCount_0f7a4 18 = .ok (.ldc_w 266, 3) := by decide +kernel
theorem dJ6_bitCount_0f7a4_21 : decode cJ6_bitCount_0f7a4 21 = .ok (.iand, 1) := by decide +kernel
theorem dJ6_bitCount_0f7a4_22 : decode cJ6_bitCount_0f7a4 22 = .ok (.iadd, 1) := by decide +kernel
theorem dJ6_bitCount_0f7a4_23 : decode cJ6_bitCount_0f7a4 23 = .ok (.istore_n 0, 1) := by decide +kernel
theorem dJ6_bitCount_0f7a4_24 : decode cJ6_bitCount_0f7a4 24 = .ok (.iload_n 0, 1) := by decide +kernel
theorem dJ6_bitCount_0f7a4_25 : decode cJ6_bitCount_0f7a4 25 = .ok (.iload_n 0, 1) := by decide +kernel
theorem dJ6_bitCount_0f7a4_26 : decode cJ6_bitCount_0f7a4 26 = .ok (.iconst 4, 1) := by decide +kernel
theorem dJ6_bitCount_0f7a4_27 : decode cJ6_bitCount_0f7a4 27 = .ok (.iushr, 1) := by decide +kernel
theorem dJ6_bitCount_0f7a4_28 : decode cJ6_bitCount_0f7a4 28 = .ok (.iadd, 1) := by decide +kernel
theorem dJ6_bitCount_0f7a4_29 : decode cJ6_bitCount_0f7a4 29 = .ok (.ldc_w 267, 3) := by decide +kernel
theorem dJ6_bitCount_0f7a4_32 : decode cJ6_bitCount_0f7a4 32 = .ok (.iand, 1) := by decide +kernel
theorem dJ6_bitCount_0f7a4_33 : decode cJ6_bitCount_0f7a4 33 = .ok (.istore_n 0, 1) := by decide +kernel
theorem dJ6_bitCount_0f7a4_34 : decode cJ6_bitCount_0f7a4 34 = .ok (.iload_n 0, 1) := by decide +kernel
theorem dJ6_bitCount_0f7a4_35 : decode cJ6_bitCount_0f7a4 35 = .ok (.iload_n 0, 1) := by decide +kernel
theorem dJ6_bitCount_0f7a4_36 : decode cJ6_bitCount_0f7a4 36 = .ok (.bipush 8, 2) := by decide +kernel
theorem dJ6_bitCount_0f7a4_38 : decode cJ6_bitCount_0f7a4 38 = .ok (.iushr, 1) := by decide +kernel
theorem dJ6_bitCount_0f7a4_39 : decode cJ6_bitCount_0f7a4 39 = .ok (.iadd, 1) := by decide +kernel
theorem dJ6_bitCount_0f7a4_40 : decode cJ6_bitCount_0f7a4 40 = .ok (.istore_n 0, 1) := by decide +kernel
theorem dJ6_bitCount_0f7a4_41 : decode cJ6_bitCount_0f7a4 41 = .ok (.iload_n 0, 1) := by decide +kernel
theorem dJ6_bitCount_0f7a4_42 : decode cJ6_bitCount_0f7a4 42 = .ok (.iload_n 0, 1) := by decide +kernel
theorem dJ6_bitCount_0f7a4_43 : decode cJ6_bitCount_0f7a4 43 = .ok (.bipush 16, 2) := by decide +kernel
theorem dJ6_bitCount_0f7a4_45 : decode cJ6_bitCount_0f7a4 45 = .ok (.iushr, 1) := by decide +kernel
theorem dJ6_bitCount_0f7a4_46 : decode cJ6_bitCount_0f7a4 46 = .ok (.iadd, 1) := by decide +kernel
theorem dJ6_bitCount_0f7a4_47 : decode cJ6_bitCount_0f7a4 47 = .ok (.istore_n 0, 1) := by decide +kernel
theorem dJ6_bitCount_0f7a4_48 : decode cJ6_bitCount_0f7a4 48 = .ok (.iload_n 0, 1) := by decide +kernel
theorem dJ6_bitCount_0f7a4_49 : decode cJ6_bitCount_0f7a4 49 = .ok (.bipush 63, 2) := by decide +kernel
theorem dJ6_bitCount_0f7a4_51 : decode cJ6_bitCount_0f7a4 51 = .ok (.iand, 1) := by decide +kernel
theorem dJ6_bitCount_0f7a4_52 : decode cJ6_bitCount_0f7a4 52 = .ok (.ireturn, 1) := by decide +kernel
theorem dJ9_max_7cf53_0 : decode cJ9_max_7cf53 0 = .ok (.iload_n 0, 1) := by decide +kernel
theorem dJ9_max_7cf53_1 : decode cJ9_max_7cf53 1 = .ok (.iload_n 1, 1) := by decide +kernel
theorem dJ9_max_7cf53_2 : decode cJ9_max_7cf53 2 = .ok (.if_icmp .lt 7, 3) := by decide +kernel
theorem dJ9_max_7cf53_5 : decode cJ9_max_7cf53 5 = .ok (.iload_n 0, 1) := by decide +kernel
theorem dJ9_max_7cf53_6 : decode cJ9_max_7cf53 6 = .ok (.goto 4, 3) := by decide +kernel
theorem dJ9_max_7cf53_9 : decode cJ9_max_7cf53 9 = .ok (.iload_n 1, 1) := by decide +kernel
theorem dJ9_max_7cf53_10 : decode cJ9_max_7cf53 10 = .ok (.ireturn, 1) := by decide +kernel
theorem dJ7_fill_53178_0 : decode cJ7_fill_53178 0 = .ok (.iconst 0, 1) := by decide +kernel
theorem dJ7_fill_53178_1 : decode cJ7_fill_53178 1 = .ok (.istore_n 2, 1) := by decide +kernel
theorem dJ7_fill_53178_2 : decode cJ7_fill_53178 2 = .ok (.aload_n 0, 1) := by decide +kernel
theorem dJ7_fill_53178_3 : decode cJ7_fill_53178 3 = .ok (.arraylength, 1) := by decide +kernel
theorem dJ7_fill_53178_4 : decode cJ7_fill_53178 4 = .ok (.istore_n 3, 1) := by decide +kernel
theorem dJ7_fill_53178_5 : decode cJ7_fill_53178 5 = .ok (.iload_n 2, 1) := by decide +kernel
theorem dJ7_fill_53178_6 : decode cJ7_fill_53178 6 = .ok (.iload_n 3, 1) := by decide +kernel
theorem dJ7_fill_53178_7 : decode cJ7_fill_53178 7 = .ok (.if_icmp .ge 13, 3) := by decide +kernel
theorem dJ7_fill_53178_10 : decode cJ7_fill_53178 10 = .ok (.aload_n 0, 1) := by decide +kernel
theorem dJ7_fill_53178_11 : decode cJ7_fill_53178 11 = .ok (.iload_n 2, 1) := by decide +kernel
theorem dJ7_fill_53178_12 : decode cJ7_fill_53178 12 = .ok (.iload_n 1, 1) := by decide +kernel
theorem dJ7_fill_53178_13 : decode cJ7_fill_53178 13 = .ok (.iastore, 1) := by decide +kernel
theorem dJ7_fill_53178_14 : decode cJ7_fill_53178 14 = .ok (.iinc 2 1, 3) := by decide +kernel
theorem dJ7_fill_53178_17 : decode cJ7_fill_53178 17 = .ok (.goto (-12), 3) := by decide +kernel
theorem dJ7_fill_53178_20 : decode cJ7_fill_53178 20 = .ok (.return_, 1) := by decide +kernel
theorem dL_law_0 : decode cL_law 0 = .ok (.new 7, 3) := by decide +kernel
theorem dL_law_3 : decode cL_law 3 = .ok (.dup, 1) := by decide +kernel
theorem dL_law_4 : decode cL_law 4 = .ok (.invokespecial 9, 3) := by decide +kernel
theorem dL_law_7 : decode cL_law 7 = .ok (.astore_n 1, 1) := by decide +kernel
theorem dL_law_8 : decode cL_law 8 = .ok (.new 10, 3) := by decide +kernel
theorem dL_law_11 : decode cL_law 11 = .ok (.dup, 1) := by decide +kernel
theorem dL_law_12 : decode cL_law 12 = .ok (.invokespecial 12, 3) := by decide +kernel
theorem dL_law_15 : decode cL_law 15 = .ok (.astore_n 2, 1) := by decide +kernel
theorem dL_law_16 : decode cL_law 16 = .ok (.iconst 0, 1) := by decide +kernel
theorem dL_law_17 : decode cL_law 17 = .ok (.istore_n 3, 1) := by decide +kernel
theorem dL_law_18 : decode cL_law 18 = .ok (.iload_n 3, 1) := by decide +kernel
theorem dL_law_19 : decode cL_law 19 = .ok (.aload_n 0, 1) := by decide +kernel
theorem dL_law_20 : decode cL_law 20 = .ok (.arraylength, 1) := by decide +kernel
theorem dL_law_21 : decode cL_law 21 = .ok (.bipush 7, 2) := by decide +kernel
theorem dL_law_23 : decode cL_law 23 = .ok (.isub, 1) := by decide +kernel
theorem dL_law_24 : decode cL_law 24 = .ok (.if_icmp .gt 954, 3) := by decide +kernel
theorem dL_law_27 : decode cL_law 27 = .ok (.aload_n 0, 1) := by decide +kernel
theorem dL_law_28 : decode cL_law 28 = .ok (.iload_n 3, 1) := by decide +kernel
theorem dL_law_29 : decode cL_law 29 = .ok (.iaload, 1) := by decide +kernel
theorem dL_law_30 : decode cL_law 30 = .ok (.bipush 31, 2) := by decide +kernel
theorem dL_law_32 : decode cL_law 32 = .ok (.iand, 1) := by decide +kernel
theorem dL_law_33 : decode cL_law 33 = .ok (.tableswitch 939 0 23 #[111, 170, 229, 278, 311, 364, 417, 466, 489, 522, 535, 548, 581, 594, 669, 722, 745, 768, 801, 824, 857, 880, 893, 916], 111) := by decide +kernel
theorem dL_law_144 : decode cL_law 144 = .ok (.aload_n 1, 1) := by decide +kernel
theorem dL_law_145 : decode cL_law 145 = .ok (.aload_n 0, 1) := by decide +kernel
theorem dL_law_146 : decode cL_law 146 = .ok (.iload_n 3, 1) := by decide +kernel
theorem dL_law_147 : decode cL_law 147 = .ok (.iconst 1, 1) := by decide +kernel
theorem dL_law_148 : decode cL_law 148 = .ok (.iadd, 1) := by decide +kernel
theorem dL_law_149 : decode cL_law 149 = .ok (.iaload, 1) := by decide +kernel
theorem dL_law_150 : decode cL_law 150 = .ok (.aload_n 0, 1) := by decide +kernel
theorem dL_law_151 : decode cL_law 151 = .ok (.iload_n 3, 1) := by decide +kernel
theorem dL_law_152 : decode cL_law 152 = .ok (.iconst 2, 1) := by decide +kernel
theorem dL_law_153 : decode cL_law 153 = .ok (.iadd, 1) := by decide +kernel
theorem dL_law_154 : decode cL_law 154 = .ok (.iaload, 1) := by decide +kernel
theorem dL_law_155 : decode cL_law 155 = .ok (.aload_n 0, 1) := by decide +kernel
theorem dL_law_156 : decode cL_law 156 = .ok (.iload_n 3, 1) := by decide +kernel
theorem dL_law_157 : decode cL_law 157 = .ok (.iconst 3, 1) := by decide +kernel
theorem dL_law_158 : decode cL_law 158 = .ok (.iadd, 1) := by decide +kernel
theorem dL_law_159 : decode cL_law 159 = .ok (.iaload, 1) := by decide +kernel
theorem dL_law_160 : decode cL_law 160 = .ok (.ifCond .eq 7, 3) := by decide +kernel
theorem dL_law_163 : decode cL_law 163 = .ok (.iconst 1, 1) := by decide +kernel
theorem dL_law_164 : decode cL_law 164 = .ok (.goto 4, 3) := by decide +kernel
theorem dL_law_167 : decode cL_law 167 = .ok (.iconst 0, 1) := by decide +kernel
theorem dL_law_168 : decode cL_law 168 = .ok (.invokevirtual 13, 3) := by decide +kernel
theorem dL_law_171 : decode cL_law 171 = .ok (.aload_n 2, 1) := by decide +kernel
theorem dL_law_172 : decode cL_law 172 = .ok (.aload_n 0, 1) := by decide +kernel
theorem dL_law_173 : decode cL_law 173 = .ok (.iload_n 3, 1) := by decide +kernel
theorem dL_law_174 : decode cL_law 174 = .ok (.iconst 1, 1) := by decide +kernel
theorem dL_law_175 : decode cL_law 175 = .ok (.iadd, 1) := by decide +kernel
theorem dL_law_176 : decode cL_law 176 = .ok (.iaload, 1) := by decide +kernel
theorem dL_law_177 : decode cL_law 177 = .ok (.aload_n 0, 1) := by decide +kernel
theorem dL_law_178 : decode cL_law 178 = .ok (.iload_n 3, 1) := by decide +kernel
theorem dL_law_179 : decode cL_law 179 = .ok (.iconst 2, 1) := by decide +kernel
theorem dL_law_180 : decode cL_law 180 = .ok (.iadd, 1) := by decide +kernel
theorem dL_law_181 : decode cL_law 181 = .ok (.iaload, 1) := by decide +kernel
theorem dL_law_182 : decode cL_law 182 = .ok (.aload_n 0, 1) := by decide +kernel
theorem dL_law_183 : decode cL_law 183 = .ok (.iload_n 3, 1) := by decide +kernel
theorem dL_law_184 : decode cL_law 184 = .ok (.iconst 3, 1) := by decide +kernel
theorem dL_law_185 : decode cL_law 185 = .ok (.iadd, 1) := by decide +kernel
theorem dL_law_186 : decode cL_law 186 = .ok (.iaload, 1) := by decide +kernel
theorem dL_law_187 : decode cL_law 187 = .ok (.ifCond .eq 7, 3) := by decide +kernel
theorem dL_law_190 : decode cL_law 190 = .ok (.iconst 1, 1) := by decide +kernel
theorem dL_law_191 : decode cL_law 191 = .ok (.goto 4, 3) := by decide +kernel
theorem dL_law_194 : decode cL_law 194 = .ok (.iconst 0, 1) := by decide +kernel
theorem dL_law_195 : decode cL_law 195 = .ok (.invokevirtual 17, 3) := by decide +kernel
theorem dL_law_198 : decode cL_law 198 = .ok (.if_icmp .eq 774, 3) := by decide +kernel
theorem dL_law_201 : decode cL_law 201 = .ok (.iconst 0, 1) := by decide +kernel
theorem dL_law_202 : decode cL_law 202 = .ok (.ireturn, 1) := by decide +kernel
theorem dL_law_203 : decode cL_law 203 = .ok (.aload_n 1, 1) := by decide +kernel
theorem dL_law_204 : decode cL_law 204 = .ok (.aload_n 0, 1) := by decide +kernel
theorem dL_law_205 : decode cL_law 205 = .ok (.iload_n 3, 1) := by decide +kernel
theorem dL_law_206 : decode cL_law 206 = .ok (.iconst 1, 1) := by decide +kernel
theorem dL_law_207 : decode cL_law 207 = .ok (.iadd, 1) := by decide +kernel
theorem dL_law_208 : decode cL_law 208 = .ok (.iaload, 1) := by decide +kernel
theorem dL_law_209 : decode cL_law 209 = .ok (.aload_n 0, 1) := by decide +kernel
theorem dL_law_210 : decode cL_law 210 = .ok (.iload_n 3, 1) := by decide +kernel
theorem dL_law_211 : decode cL_law 211 = .ok (.iconst 2, 1) := by decide +kernel
theorem dL_law_212 : decode cL_law 212 = .ok (.iadd, 1) := by decide +kernel
theorem dL_law_213 : decode cL_law 213 = .ok (.iaload, 1) := by decide +kernel
theorem dL_law_214 : decode cL_law 214 = .ok (.aload_n 0, 1) := by decide +kernel
theorem dL_law_215 : decode cL_law 215 = .ok (.iload_n 3, 1) := by decide +kernel
theorem dL_law_216 : decode cL_law 216 = .ok (.iconst 3, 1) := by decide +kernel
theorem dL_law_217 : decode cL_law 217 = .ok (.iadd, 1) := by decide +kernel
theorem dL_law_218 : decode cL_law 218 = .ok (.iaload, 1) := by decide +kernel
theorem dL_law_219 : decode cL_law 219 = .ok (.ifCond .eq 7, 3) := by decide +kernel
theorem dL_law_222 : decode cL_law 222 = .ok (.iconst 1, 1) := by decide +kernel
theorem dL_law_223 : decode cL_law 223 = .ok (.goto 4, 3) := by decide +kernel
theorem dL_law_226 : decode cL_law 226 = .ok (.iconst 0, 1) := by decide +kernel
theorem dL_law_227 : decode cL_law 227 = .ok (.invokevirtual 18, 3) := by decide +kernel
theorem dL_law_230 : decode cL_law 230 = .ok (.aload_n 2, 1) := by decide +kernel
theorem dL_law_231 : decode cL_law 231 = .ok (.aload_n 0, 1) := by decide +kernel
theorem dL_law_232 : decode cL_law 232 = .ok (.iload_n 3, 1) := by decide +kernel
theorem dL_law_233 : decode cL_law 233 = .ok (.iconst 1, 1) := by decide +kernel
theorem dL_law_234 : decode cL_law 234 = .ok (.iadd, 1) := by decide +kernel
theorem dL_law_235 : decode cL_law 235 = .ok (.iaload, 1) := by decide +kernel
theorem dL_law_236 : decode cL_law 236 = .ok (.aload_n 0, 1) := by decide +kernel
theorem dL_law_237 : decode cL_law 237 = .ok (.iload_n 3, 1) := by decide +kernel
theorem dL_law_238 : decode cL_law 238 = .ok (.iconst 2, 1) := by decide +kernel
theorem dL_law_239 : decode cL_law 239 = .ok (.iadd, 1) := by decide +kernel
theorem dL_law_240 : decode cL_law 240 = .ok (.iaload, 1) := by decide +kernel
theorem dL_law_241 : decode cL_law 241 = .ok (.aload_n 0, 1) := by decide +kernel
theorem dL_law_242 : decode cL_law 242 = .ok (.iload_n 3, 1) := by decide +kernel
theorem dL_law_243 : decode cL_law 243 = .ok (.iconst 3, 1) := by decide +kernel
theorem dL_law_244 : decode cL_law 244 = .ok (.iadd, 1) := by decide +kernel
theorem dL_law_245 : decode cL_law 245 = .ok (.iaload, 1) := by decide +kernel
theorem dL_law_246 : decode cL_law 246 = .ok (.ifCond .eq 7, 3) := by decide +kernel
theorem dL_law_249 : decode cL_law 249 = .ok (.iconst 1, 1) := by decide +kernel
theorem dL_law_250 : decode cL_law 250 = .ok (.goto 4, 3) := by decide +kernel
theorem dL_law_253 : decode cL_law 253 = .ok (.iconst 0, 1) := by decide +kernel
theorem dL_law_254 : decode cL_law 254 = .ok (.invokevirtual 21, 3) := by decide +kernel
theorem dL_law_257 : decode cL_law 257 = .ok (.if_icmp .eq 715, 3) := by decide +kernel
theorem dL_law_260 : decode cL_law 260 = .ok (.iconst 0, 1) := by decide +kernel
theorem dL_law_261 : decode cL_law 261 = .ok (.ireturn, 1) := by decide +kernel
theorem dL_law_262 : decode cL_law 262 = .ok (.aload_n 1, 1) := by decide +kernel
theorem dL_law_263 : decode cL_law 263 = .ok (.aload_n 0, 1) := by decide +kernel
theorem dL_law_264 : decode cL_law 264 = .ok (.iload_n 3, 1) := by decide +kernel
theorem dL_law_265 : decode cL_law 265 = .ok (.iconst 1, 1) := by decide +kernel
theorem dL_law_266 : decode cL_law 266 = .ok (.iadd, 1) := by decide +kernel
theorem dL_law_267 : decode cL_law 267 = .ok (.iaload, 1) := by decide +kernel
theorem dL_law_268 : decode cL_law 268 = .ok (.aload_n 0, 1) := by decide +kernel
theorem dL_law_269 : decode cL_law 269 = .ok (.iload_n 3, 1) := by decide +kernel
theorem dL_law_270 : decode cL_law 270 = .ok (.iconst 2, 1) := by decide +kernel
theorem dL_law_271 : decode cL_law 271 = .ok (.iadd, 1) := by decide +kernel
theorem dL_law_272 : decode cL_law 272 = .ok (.iaload, 1) := by decide +kernel
theorem dL_law_273 : decode cL_law 273 = .ok (.ifCond .eq 7, 3) := by decide +kernel
theorem dL_law_276 : decode cL_law 276 = .ok (.iconst 1, 1) := by decide +kernel
theorem dL_law_277 : decode cL_law 277 = .ok (.goto 4, 3) := by decide +kernel
theorem dL_law_280 : decode cL_law 280 = .ok (.iconst 0, 1) := by decide +kernel
theorem dL_law_281 : decode cL_law 281 = .ok (.invokevirtual 22, 3) := by decide +kernel
theorem dL_law_284 : decode cL_law 284 = .ok (.aload_n 2, 1) := by decide +kernel
theorem dL_law_285 : decode cL_law 285 = .ok (.aload_n 0, 1) := by decide +kernel
theorem dL_law_286 : decode cL_law 286 = .ok (.iload_n 3, 1) := by decide +kernel
theorem dL_law_287 : decode cL_law 287 = .ok (.iconst 1, 1) := by decide +kernel
theorem dL_law_288 : decode cL_law 288 = .ok (.iadd, 1) := by decide +kernel
theorem dL_law_289 : decode cL_law 289 = .ok (.iaload, 1) := by decide +kernel
theorem dL_law_290 : decode cL_law 290 = .ok (.aload_n 0, 1) := by decide +kernel
theorem dL_law_291 : decode cL_law 291 = .ok (.iload_n 3, 1) := by decide +kernel
theorem dL_law_292 : decode cL_law 292 = .ok (.iconst 2, 1) := by decide +kernel
theorem dL_law_293 : decode cL_law 293 = .ok (.iadd, 1) := by decide +kernel
theorem dL_law_294 : decode cL_law 294 = .ok (.iaload, 1) := by decide +kernel
theorem dL_law_295 : decode cL_law 295 = .ok (.ifCond .eq 7, 3) := by decide +kernel
theorem dL_law_298 : decode cL_law 298 = .ok (.iconst 1, 1) := by decide +kernel
theorem dL_law_299 : decode cL_law 299 = .ok (.goto 4, 3) := by decide +kernel
theorem dL_law_302 : decode cL_law 302 = .ok (.iconst 0, 1) := by decide +kernel
theorem dL_law_303 : decode cL_law 303 = .ok (.invokevirtual 26, 3) := by decide +kernel
theorem dL_law_306 : decode cL_law 306 = .ok (.if_icmp .eq 666, 3) := by decide +kernel
theorem dL_law_309 : decode cL_law 309 = .ok (.iconst 0, 1) := by decide +kernel
theorem dL_law_310 : decode cL_law 310 = .ok (.ireturn, 1) := by decide +kernel
theorem dL_law_311 : decode cL_law 311 = .ok (.aload_n 1, 1) := by decide +kernel
theorem dL_law_312 : decode cL_law 312 = .ok (.aload_n 0, 1) := by decide +kernel
theorem dL_law_313 : decode cL_law 313 = .ok (.iload_n 3, 1) := by decide +kernel
theorem dL_law_314 : decode cL_law 314 = .ok (.iconst 1, 1) := by decide +kernel
theorem dL_law_315 : decode cL_law 315 = .ok (.iadd, 1) := by decide +kernel
theorem dL_law_316 : decode cL_law 316 = .ok (.iaload, 1) := by decide +kernel
theorem dL_law_317 : decode cL_law 317 = .ok (.aload_n 0, 1) := by decide +kernel
theorem dL_law_318 : decode cL_law 318 = .ok (.iload_n 3, 1) := by decide +kernel
theorem dL_law_319 : decode cL_law 319 = .ok (.iconst 2, 1) := by decide +kernel
theorem dL_law_320 : decode cL_law 320 = .ok (.iadd, 1) := by decide +kernel
theorem dL_law_321 : decode cL_law 321 = .ok (.iaload, 1) := by decide +kernel
theorem dL_law_322 : decode cL_law 322 = .ok (.invokevirtual 27, 3) := by decide +kernel
theorem dL_law_325 : decode cL_law 325 = .ok (.aload_n 2, 1) := by decide +kernel
theorem dL_law_326 : decode cL_law 326 = .ok (.aload_n 0, 1) := by decide +kernel
theorem dL_law_327 : decode cL_law 327 = .ok (.iload_n 3, 1) := by decide +kernel
theorem dL_law_328 : decode cL_law 328 = .ok (.iconst 1, 1) := by decide +kernel
theorem dL_law_329 : decode cL_law 329 = .ok (.iadd, 1) := by decide +kernel
theorem dL_law_330 : decode cL_law 330 = .ok (.iaload, 1) := by decide +kernel
theorem dL_law_331 : decode cL_law 331 = .ok (.aload_n 0, 1) := by decide +kernel
theorem dL_law_332 : decode cL_law 332 = .ok (.iload_n 3, 1) := by decide +kernel
theorem dL_law_333 : decode cL_law 333 = .ok (.iconst 2, 1) := by decide +kernel
theorem dL_law_334 : decode cL_law 334 = .ok (.iadd, 1) := by decide +kernel
theorem dL_law_335 : decode cL_law 335 = .ok (.iaload, 1) := by decide +kernel
theorem dL_law_336 : decode cL_law 336 = .ok (.invokevirtual 31, 3) := by decide +kernel
theorem dL_law_339 : decode cL_law 339 = .ok (.if_icmp .eq 633, 3) := by decide +kernel
theorem dL_law_342 : decode cL_law 342 = .ok (.iconst 0, 1) := by decide +kernel
theorem dL_law_343 : decode cL_law 343 = .ok (.ireturn, 1) := by decide +kernel
theorem dL_law_344 : decode cL_law 344 = .ok (.aload_n 1, 1) := by decide +kernel
theorem dL_law_345 : decode cL_law 345 = .ok (.aload_n 0, 1) := by decide +kernel
theorem dL_law_346 : decode cL_law 346 = .ok (.iload_n 3, 1) := by decide +kernel
theorem dL_law_347 : decode cL_law 347 = .ok (.iconst 1, 1) := by decide +kernel
theorem dL_law_348 : decode cL_law 348 = .ok (.iadd, 1) := by decide +kernel
theorem dL_law_349 : decode cL_law 349 = .ok (.iaload, 1) := by decide +kernel
theorem dL_law_350 : decode cL_law 350 = .ok (.aload_n 0, 1) := by decide +kernel
theorem dL_law_351 : decode cL_law 351 = .ok (.iload_n 3, 1) := by decide +kernel
theorem dL_law_352 : decode cL_law 352 = .ok (.iconst 2, 1) := by decide +kernel
theorem dL_law_353 : decode cL_law 353 = .ok (.iadd, 1) := by decide +kernel
theorem dL_law_354 : decode cL_law 354 = .ok (.iaload, 1) := by decide +kernel
theorem dL_law_355 : decode cL_law 355 = .ok (.aload_n 0, 1) := by decide +kernel
theorem dL_law_356 : decode cL_law 356 = .ok (.iload_n 3, 1) := by decide +kernel
theorem dL_law_357 : decode cL_law 357 = .ok (.iconst 3, 1) := by decide +kernel
theorem dL_law_358 : decode cL_law 358 = .ok (.iadd, 1) := by decide +kernel
theorem dL_law_359 : decode cL_law 359 = .ok (.iaload, 1) := by decide +kernel
theorem dL_law_360 : decode cL_law 360 = .ok (.aload_n 0, 1) := by decide +kernel
theorem dL_law_361 : decode cL_law 361 = .ok (.iload_n 3, 1) := by decide +kernel
theorem dL_law_362 : decode cL_law 362 = .ok (.iconst 4, 1) := by decide +kernel
theorem dL_law_363 : decode cL_law 363 = .ok (.iadd, 1) := by decide +kernel
theorem dL_law_364 : decode cL_law 364 = .ok (.iaload, 1) := by decide +kernel
theorem dL_law_365 : decode cL_law 365 = .ok (.invokevirtual 32, 3) := by decide +kernel
theorem dL_law_368 : decode cL_law 368 = .ok (.aload_n 2, 1) := by decide +kernel
theorem dL_law_369 : decode cL_law 369 = .ok (.aload_n 0, 1) := by decide +kernel
theorem dL_law_370 : decode cL_law 370 = .ok (.iload_n 3, 1) := by decide +kernel
theorem dL_law_371 : decode cL_law 371 = .ok (.iconst 1, 1) := by decide +kernel
theorem dL_law_372 : decode cL_law 372 = .ok (.iadd, 1) := by decide +kernel
theorem dL_law_373 : decode cL_law 373 = .ok (.iaload, 1) := by decide +kernel
theorem dL_law_374 : decode cL_law 374 = .ok (.aload_n 0, 1) := by decide +kernel
theorem dL_law_375 : decode cL_law 375 = .ok (.iload_n 3, 1) := by decide +kernel
theorem dL_law_376 : decode cL_law 376 = .ok (.iconst 2, 1) := by decide +kernel
theorem dL_law_377 : decode cL_law 377 = .ok (.iadd, 1) := by decide +kernel
theorem dL_law_378 : decode cL_law 378 = .ok (.iaload, 1) := by decide +kernel
theorem dL_law_379 : decode cL_law 379 = .ok (.aload_n 0, 1) := by decide +kernel
theorem dL_law_380 : decode cL_law 380 = .ok (.iload_n 3, 1) := by decide +kernel
theorem dL_law_381 : decode cL_law 381 = .ok (.iconst 3, 1) := by decide +kernel
theorem dL_law_382 : decode cL_law 382 = .ok (.iadd, 1) := by decide +kernel
theorem dL_law_383 : decode cL_law 383 = .ok (.iaload, 1) := by decide +kernel
theorem dL_law_384 : decode cL_law 384 = .ok (.aload_n 0, 1) := by decide +kernel
theorem dL_law_385 : decode cL_law 385 = .ok (.iload_n 3, 1) := by decide +kernel
theorem dL_law_386 : decode cL_law 386 = .ok (.iconst 4, 1) := by decide +kernel
theorem dL_law_387 : decode cL_law 387 = .ok (.iadd, 1) := by decide +kernel
theorem dL_law_388 : decode cL_law 388 = .ok (.iaload, 1) := by decide +kernel
theorem dL_law_389 : decode cL_law 389 = .ok (.invokevirtual 36, 3) := by decide +kernel
theorem dL_law_392 : decode cL_law 392 = .ok (.if_icmp .eq 580, 3) := by decide +kernel
theorem dL_law_395 : decode cL_law 395 = .ok (.iconst 0, 1) := by decide +kernel
theorem dL_law_396 : decode cL_law 396 = .ok (.ireturn, 1) := by decide +kernel
theorem dL_law_397 : decode cL_law 397 = .ok (.aload_n 1, 1) := by decide +kernel
theorem dL_law_398 : decode cL_law 398 = .ok (.aload_n 0, 1) := by decide +kernel
theorem dL_law_399 : decode cL_law 399 = .ok (.iload_n 3, 1) := by decide +kernel
theorem dL_law_400 : decode cL_law 400 = .ok (.iconst 1, 1) := by decide +kernel
theorem dL_law_401 : decode cL_law 401 = .ok (.iadd, 1) := by decide +kernel
theorem dL_law_402 : decode cL_law 402 = .ok (.iaload, 1) := by decide +kernel
theorem dL_law_403 : decode cL_law 403 = .ok (.aload_n 0, 1) := by decide +kernel
theorem dL_law_404 : decode cL_law 404 = .ok (.iload_n 3, 1) := by decide +kernel
theorem dL_law_405 : decode cL_law 405 = .ok (.iconst 2, 1) := by decide +kernel
theorem dL_law_406 : decode cL_law 406 = .ok (.iadd, 1) := by decide +kernel
theorem dL_law_407 : decode cL_law 407 = .ok (.iaload, 1) := by decide +kernel
theorem dL_law_408 : decode cL_law 408 = .ok (.aload_n 0, 1) := by decide +kernel
theorem dL_law_409 : decode cL_law 409 = .ok (.iload_n 3, 1) := by decide +kernel
theorem dL_law_410 : decode cL_law 410 = .ok (.iconst 3, 1) := by decide +kernel
theorem dL_law_411 : decode cL_law 411 = .ok (.iadd, 1) := by decide +kernel
theorem dL_law_412 : decode cL_law 412 = .ok (.iaload, 1) := by decide +kernel
theorem dL_law_413 : decode cL_law 413 = .ok (.aload_n 0, 1) := by decide +kernel
theorem dL_law_414 : decode cL_law 414 = .ok (.iload_n 3, 1) := by decide +kernel
theorem dL_law_415 : decode cL_law 415 = .ok (.iconst 4, 1) := by decide +kernel
theorem dL_law_416 : decode cL_law 416 = .ok (.iadd, 1) := by decide +kernel
theorem dL_law_417 : decode cL_law 417 = .ok (.iaload, 1) := by decide +kernel
theorem dL_law_418 : decode cL_law 418 = .ok (.invokevirtual 37, 3) := by decide +kernel
theorem dL_law_421 : decode cL_law 421 = .ok (.aload_n 2, 1) := by decide +kernel
theorem dL_law_422 : decode cL_law 422 = .ok (.aload_n 0, 1) := by decide +kernel
theorem dL_law_423 : decode cL_law 423 = .ok (.iload_n 3, 1) := by decide +kernel
theorem dL_law_424 : decode cL_law 424 = .ok (.iconst 1, 1) := by decide +kernel
theorem dL_law_425 : decode cL_law 425 = .ok (.iadd, 1) := by decide +kernel
theorem dL_law_426 : decode cL_law 426 = .ok (.iaload, 1) := by decide +kernel
theorem dL_law_427 : decode cL_law 427 = .ok (.aload_n 0, 1) := by decide +kernel
theorem dL_law_428 : decode cL_law 428 = .ok (.iload_n 3, 1) := by decide +kernel
theorem dL_law_429 : decode cL_law 429 = .ok (.iconst 2, 1) := by decide +kernel
theorem dL_law_430 : decode cL_law 430 = .ok (.iadd, 1) := by decide +kernel
theorem dL_law_431 : decode cL_law 431 = .ok (.iaload, 1) := by decide +kernel
theorem dL_law_432 : decode cL_law 432 = .ok (.aload_n 0, 1) := by decide +kernel
theorem dL_law_433 : decode cL_law 433 = .ok (.iload_n 3, 1) := by decide +kernel
theorem dL_law_434 : decode cL_law 434 = .ok (.iconst 3, 1) := by decide +kernel
theorem dL_law_435 : decode cL_law 435 = .ok (.iadd, 1) := by decide +kernel
theorem dL_law_436 : decode cL_law 436 = .ok (.iaload, 1) := by decide +kernel
theorem dL_law_437 : decode cL_law 437 = .ok (.aload_n 0, 1) := by decide +kernel
theorem dL_law_438 : decode cL_law 438 = .ok (.iload_n 3, 1) := by decide +kernel
theorem dL_law_439 : decode cL_law 439 = .ok (.iconst 4, 1) := by decide +kernel
theorem dL_law_440 : decode cL_law 440 = .ok (.iadd, 1) := by decide +kernel
theorem dL_law_441 : decode cL_law 441 = .ok (.iaload, 1) := by decide +kernel
theorem dL_law_442 : decode cL_law 442 = .ok (.invokevirtual 40, 3) := by decide +kernel
theorem dL_law_445 : decode cL_law 445 = .ok (.if_icmp .eq 527, 3) := by decide +kernel
theorem dL_law_448 : decode cL_law 448 = .ok (.iconst 0, 1) := by decide +kernel
theorem dL_law_449 : decode cL_law 449 = .ok (.ireturn, 1) := by decide +kernel
theorem dL_law_450 : decode cL_law 450 = .ok (.aload_n 1, 1) := by decide +kernel
theorem dL_law_451 : decode cL_law 451 = .ok (.aload_n 0, 1) := by decide +kernel
theorem dL_law_452 : decode cL_law 452 = .ok (.iload_n 3, 1) := by decide +kernel
theorem dL_law_453 : decode cL_law 453 = .ok (.iconst 1, 1) := by decide +kernel
theorem dL_law_454 : decode cL_law 454 = .ok (.iadd, 1) := by decide +kernel
theorem dL_law_455 : decode cL_law 455 = .ok (.iaload, 1) := by decide +kernel
theorem dL_law_456 : decode cL_law 456 = .ok (.aload_n 0, 1) := by decide +kernel
theorem dL_law_457 : decode cL_law 457 = .ok (.iload_n 3, 1) := by decide +kernel
theorem dL_law_458 : decode cL_law 458 = .ok (.iconst 2, 1) := by decide +kernel
theorem dL_law_459 : decode cL_law 459 = .ok (.iadd, 1) := by decide +kernel
theorem dL_law_460 : decode cL_law 460 = .ok (.iaload, 1) := by decide +kernel
theorem dL_law_461 : decode cL_law 461 = .ok (.ifCond .eq 7, 3) := by decide +kernel
theorem dL_law_464 : decode cL_law 464 = .ok (.iconst 1, 1) := by decide +kernel
theorem dL_law_465 : decode cL_law 465 = .ok (.goto 4, 3) := by decide +kernel
theorem dL_law_468 : decode cL_law 468 = .ok (.iconst 0, 1) := by decide +kernel
theorem dL_law_469 : decode cL_law 469 = .ok (.invokevirtual 41, 3) := by decide +kernel
theorem dL_law_472 : decode cL_law 472 = .ok (.aload_n 2, 1) := by decide +kernel
theorem dL_law_473 : decode cL_law 473 = .ok (.aload_n 0, 1) := by decide +kernel
theorem dL_law_474 : decode cL_law 474 = .ok (.iload_n 3, 1) := by decide +kernel
theorem dL_law_475 : decode cL_law 475 = .ok (.iconst 1, 1) := by decide +kernel
theorem dL_law_476 : decode cL_law 476 = .ok (.iadd, 1) := by decide +kernel
theorem dL_law_477 : decode cL_law 477 = .ok (.iaload, 1) := by decide +kernel
theorem dL_law_478 : decode cL_law 478 = .ok (.aload_n 0, 1) := by decide +kernel
theorem dL_law_479 : decode cL_law 479 = .ok (.iload_n 3, 1) := by decide +kernel
theorem dL_law_480 : decode cL_law 480 = .ok (.iconst 2, 1) := by decide +kernel
theorem dL_law_481 : decode cL_law 481 = .ok (.iadd, 1) := by decide +kernel
theorem dL_law_482 : decode cL_law 482 = .ok (.iaload, 1) := by decide +kernel
theorem dL_law_483 : decode cL_law 483 = .ok (.ifCond .eq 7, 3) := by decide +kernel
theorem dL_law_486 : decode cL_law 486 = .ok (.iconst 1, 1) := by decide +kernel
theorem dL_law_487 : decode cL_law 487 = .ok (.goto 4, 3) := by decide +kernel
theorem dL_law_490 : decode cL_law 490 = .ok (.iconst 0, 1) := by decide +kernel
theorem dL_law_491 : decode cL_law 491 = .ok (.invokevirtual 44, 3) := by decide +kernel
theorem dL_law_494 : decode cL_law 494 = .ok (.if_icmp .eq 478, 3) := by decide +kernel
theorem dL_law_497 : decode cL_law 497 = .ok (.iconst 0, 1) := by decide +kernel
theorem dL_law_498 : decode cL_law 498 = .ok (.ireturn, 1) := by decide +kernel
theorem dL_law_499 : decode cL_law 499 = .ok (.aload_n 1, 1) := by decide +kernel
theorem dL_law_500 : decode cL_law 500 = .ok (.aload_n 0, 1) := by decide +kernel
theorem dL_law_501 : decode cL_law 501 = .ok (.iload_n 3, 1) := by decide +kernel
theorem dL_law_502 : decode cL_law 502 = .ok (.iconst 1, 1) := by decide +kernel
theorem dL_law_503 : decode cL_law 503 = .ok (.iadd, 1) := by decide +kernel
theorem dL_law_504 : decode cL_law 504 = .ok (.iaload, 1) := by decide +kernel
theorem dL_law_505 : decode cL_law 505 = .ok (.invokevirtual 45, 3) := by decide +kernel
theorem dL_law_508 : decode cL_law 508 = .ok (.aload_n 2, 1) := by decide +kernel
theorem dL_law_509 : decode cL_law 509 = .ok (.aload_n 0, 1) := by decide +kernel
theorem dL_law_510 : decode cL_law 510 = .ok (.iload_n 3, 1) := by decide +kernel
theorem dL_law_511 : decode cL_law 511 = .ok (.iconst 1, 1) := by decide +kernel
theorem dL_law_512 : decode cL_law 512 = .ok (.iadd, 1) := by decide +kernel
theorem dL_law_513 : decode cL_law 513 = .ok (.iaload, 1) := by decide +kernel
theorem dL_law_514 : decode cL_law 514 = .ok (.invokevirtual 49, 3) := by decide +kernel
theorem dL_law_517 : decode cL_law 517 = .ok (.if_icmp .eq 455, 3) := by decide +kernel
theorem dL_law_520 : decode cL_law 520 = .ok (.iconst 0, 1) := by decide +kernel
theorem dL_law_521 : decode cL_law 521 = .ok (.ireturn, 1) := by decide +kernel
theorem dL_law_522 : decode cL_law 522 = .ok (.aload_n 1, 1) := by decide +kernel
theorem dL_law_523 : decode cL_law 523 = .ok (.aload_n 0, 1) := by decide +kernel
theorem dL_law_524 : decode cL_law 524 = .ok (.iload_n 3, 1) := by decide +kernel
theorem dL_law_525 : decode cL_law 525 = .ok (.iconst 1, 1) := by decide +kernel
theorem dL_law_526 : decode cL_law 526 = .ok (.iadd, 1) := by decide +kernel
theorem dL_law_527 : decode cL_law 527 = .ok (.iaload, 1) := by decide +kernel
theorem dL_law_528 : decode cL_law 528 = .ok (.aload_n 0, 1) := by decide +kernel
theorem dL_law_529 : decode cL_law 529 = .ok (.iload_n 3, 1) := by decide +kernel
theorem dL_law_530 : decode cL_law 530 = .ok (.iconst 2, 1) := by decide +kernel
theorem dL_law_531 : decode cL_law 531 = .ok (.iadd, 1) := by decide +kernel
theorem dL_law_532 : decode cL_law 532 = .ok (.iaload, 1) := by decide +kernel
theorem dL_law_533 : decode cL_law 533 = .ok (.invokevirtual 50, 3) := by decide +kernel
theorem dL_law_536 : decode cL_law 536 = .ok (.aload_n 2, 1) := by decide +kernel
theorem dL_law_537 : decode cL_law 537 = .ok (.aload_n 0, 1) := by decide +kernel
theorem dL_law_538 : decode cL_law 538 = .ok (.iload_n 3, 1) := by decide +kernel
theorem dL_law_539 : decode cL_law 539 = .ok (.iconst 1, 1) := by decide +kernel
theorem dL_law_540 : decode cL_law 540 = .ok (.iadd, 1) := by decide +kernel
theorem dL_law_541 : decode cL_law 541 = .ok (.iaload, 1) := by decide +kernel
theorem dL_law_542 : decode cL_law 542 = .ok (.aload_n 0, 1) := by decide +kernel
theorem dL_law_543 : decode cL_law 543 = .ok (.iload_n 3, 1) := by decide +kernel
theorem dL_law_544 : decode cL_law 544 = .ok (.iconst 2, 1) := by decide +kernel
theorem dL_law_545 : decode cL_law 545 = .ok (.iadd, 1) := by decide +kernel
theorem dL_law_546 : decode cL_law 546 = .ok (.iaload, 1) := by decide +kernel
theorem dL_law_547 : decode cL_law 547 = .ok (.invokevirtual 53, 3) := by decide +kernel
theorem dL_law_550 : decode cL_law 550 = .ok (.if_icmp .eq 422, 3) := by decide +kernel
theorem dL_law_553 : decode cL_law 553 = .ok (.iconst 0, 1) := by decide +kernel
theorem dL_law_554 : decode cL_law 554 = .ok (.ireturn, 1) := by decide +kernel
theorem dL_law_555 : decode cL_law 555 = .ok (.aload_n 1, 1) := by decide +kernel
theorem dL_law_556 : decode cL_law 556 = .ok (.invokevirtual 54, 3) := by decide +kernel
theorem dL_law_559 : decode cL_law 559 = .ok (.aload_n 2, 1) := by decide +kernel
theorem dL_law_560 : decode cL_law 560 = .ok (.invokevirtual 58, 3) := by decide +kernel
theorem dL_law_563 : decode cL_law 563 = .ok (.if_icmp .eq 409, 3) := by decide +kernel
theorem dL_law_566 : decode cL_law 566 = .ok (.iconst 0, 1) := by decide +kernel
theorem dL_law_567 : decode cL_law 567 = .ok (.ireturn, 1) := by decide +kernel
theorem dL_law_568 : decode cL_law 568 = .ok (.aload_n 1, 1) := by decide +kernel
theorem dL_law_569 : decode cL_law 569 = .ok (.invokevirtual 59, 3) := by decide +kernel
theorem dL_law_572 : decode cL_law 572 = .ok (.aload_n 2, 1) := by decide +kernel
theorem dL_law_573 : decode cL_law 573 = .ok (.invokevirtual 62, 3) := by decide +kernel
theorem dL_law_576 : decode cL_law 576 = .ok (.if_icmp .eq 396, 3) := by decide +kernel
theorem dL_law_579 : decode cL_law 579 = .ok (.iconst 0, 1) := by decide +kernel
theorem dL_law_580 : decode cL_law 580 = .ok (.ireturn, 1) := by decide +kernel
theorem dL_law_581 : decode cL_law 581 = .ok (.aload_n 1, 1) := by decide +kernel
theorem dL_law_582 : decode cL_law 582 = .ok (.aload_n 0, 1) := by decide +kernel
theorem dL_law_583 : decode cL_law 583 = .ok (.iload_n 3, 1) := by decide +kernel
theorem dL_law_584 : decode cL_law 584 = .ok (.iconst 1, 1) := by decide +kernel
theorem dL_law_585 : decode cL_law 585 = .ok (.iadd, 1) := by decide +kernel
theorem dL_law_586 : decode cL_law 586 = .ok (.iaload, 1) := by decide +kernel
theorem dL_law_587 : decode cL_law 587 = .ok (.aload_n 0, 1) := by decide +kernel
theorem dL_law_588 : decode cL_law 588 = .ok (.iload_n 3, 1) := by decide +kernel
theorem dL_law_589 : decode cL_law 589 = .ok (.iconst 2, 1) := by decide +kernel
theorem dL_law_590 : decode cL_law 590 = .ok (.iadd, 1) := by decide +kernel
theorem dL_law_591 : decode cL_law 591 = .ok (.iaload, 1) := by decide +kernel
theorem dL_law_592 : decode cL_law 592 = .ok (.invokevirtual 63, 3) := by decide +kernel
theorem dL_law_595 : decode cL_law 595 = .ok (.aload_n 2, 1) := by decide +kernel
theorem dL_law_596 : decode cL_law 596 = .ok (.aload_n 0, 1) := by decide +kernel
theorem dL_law_597 : decode cL_law 597 = .ok (.iload_n 3, 1) := by decide +kernel
theorem dL_law_598 : decode cL_law 598 = .ok (.iconst 1, 1) := by decide +kernel
theorem dL_law_599 : decode cL_law 599 = .ok (.iadd, 1) := by decide +kernel
theorem dL_law_600 : decode cL_law 600 = .ok (.iaload, 1) := by decide +kernel
theorem dL_law_601 : decode cL_law 601 = .ok (.aload_n 0, 1) := by decide +kernel
theorem dL_law_602 : decode cL_law 602 = .ok (.iload_n 3, 1) := by decide +kernel
theorem dL_law_603 : decode cL_law 603 = .ok (.iconst 2, 1) := by decide +kernel
theorem dL_law_604 : decode cL_law 604 = .ok (.iadd, 1) := by decide +kernel
theorem dL_law_605 : decode cL_law 605 = .ok (.iaload, 1) := by decide +kernel
theorem dL_law_606 : decode cL_law 606 = .ok (.invokevirtual 66, 3) := by decide +kernel
theorem dL_law_609 : decode cL_law 609 = .ok (.if_icmp .eq 363, 3) := by decide +kernel
theorem dL_law_612 : decode cL_law 612 = .ok (.iconst 0, 1) := by decide +kernel
theorem dL_law_613 : decode cL_law 613 = .ok (.ireturn, 1) := by decide +kernel
theorem dL_law_614 : decode cL_law 614 = .ok (.aload_n 1, 1) := by decide +kernel
theorem dL_law_615 : decode cL_law 615 = .ok (.invokevirtual 67, 3) := by decide +kernel
theorem dL_law_618 : decode cL_law 618 = .ok (.aload_n 2, 1) := by decide +kernel
theorem dL_law_619 : decode cL_law 619 = .ok (.invokevirtual 70, 3) := by decide +kernel
theorem dL_law_622 : decode cL_law 622 = .ok (.if_icmp .eq 350, 3) := by decide +kernel
theorem dL_law_625 : decode cL_law 625 = .ok (.iconst 0, 1) := by decide +kernel
theorem dL_law_626 : decode cL_law 626 = .ok (.ireturn, 1) := by decide +kernel
theorem dL_law_627 : decode cL_law 627 = .ok (.aload_n 1, 1) := by decide +kernel
theorem dL_law_628 : decode cL_law 628 = .ok (.aload_n 0, 1) := by decide +kernel
theorem dL_law_629 : decode cL_law 629 = .ok (.iload_n 3, 1) := by decide +kernel
theorem dL_law_630 : decode cL_law 630 = .ok (.iconst 1, 1) := by decide +kernel
theorem dL_law_631 : decode cL_law 631 = .ok (.iadd, 1) := by decide +kernel
theorem dL_law_632 : decode cL_law 632 = .ok (.iaload, 1) := by decide +kernel
theorem dL_law_633 : decode cL_law 633 = .ok (.aload_n 0, 1) := by decide +kernel
theorem dL_law_634 : decode cL_law 634 = .ok (.iload_n 3, 1) := by decide +kernel
theorem dL_law_635 : decode cL_law 635 = .ok (.iconst 2, 1) := by decide +kernel
theorem dL_law_636 : decode cL_law 636 = .ok (.iadd, 1) := by decide +kernel
theorem dL_law_637 : decode cL_law 637 = .ok (.iaload, 1) := by decide +kernel
theorem dL_law_638 : decode cL_law 638 = .ok (.aload_n 0, 1) := by decide +kernel
theorem dL_law_639 : decode cL_law 639 = .ok (.iload_n 3, 1) := by decide +kernel
theorem dL_law_640 : decode cL_law 640 = .ok (.iconst 3, 1) := by decide +kernel
theorem dL_law_641 : decode cL_law 641 = .ok (.iadd, 1) := by decide +kernel
theorem dL_law_642 : decode cL_law 642 = .ok (.iaload, 1) := by decide +kernel
theorem dL_law_643 : decode cL_law 643 = .ok (.aload_n 0, 1) := by decide +kernel
theorem dL_law_644 : decode cL_law 644 = .ok (.iload_n 3, 1) := by decide +kernel
theorem dL_law_645 : decode cL_law 645 = .ok (.iconst 4, 1) := by decide +kernel
theorem dL_law_646 : decode cL_law 646 = .ok (.iadd, 1) := by decide +kernel
theorem dL_law_647 : decode cL_law 647 = .ok (.iaload, 1) := by decide +kernel
theorem dL_law_648 : decode cL_law 648 = .ok (.aload_n 0, 1) := by decide +kernel
theorem dL_law_649 : decode cL_law 649 = .ok (.iload_n 3, 1) := by decide +kernel
theorem dL_law_650 : decode cL_law 650 = .ok (.iconst 5, 1) := by decide +kernel
theorem dL_law_651 : decode cL_law 651 = .ok (.iadd, 1) := by decide +kernel
theorem dL_law_652 : decode cL_law 652 = .ok (.iaload, 1) := by decide +kernel
theorem dL_law_653 : decode cL_law 653 = .ok (.aload_n 0, 1) := by decide +kernel
theorem dL_law_654 : decode cL_law 654 = .ok (.iload_n 3, 1) := by decide +kernel
theorem dL_law_655 : decode cL_law 655 = .ok (.bipush 6, 2) := by decide +kernel
theorem dL_law_657 : decode cL_law 657 = .ok (.iadd, 1) := by decide +kernel
theorem dL_law_658 : decode cL_law 658 = .ok (.iaload, 1) := by decide +kernel
theorem dL_law_659 : decode cL_law 659 = .ok (.invokevirtual 71, 3) := by decide +kernel
theorem dL_law_662 : decode cL_law 662 = .ok (.aload_n 2, 1) := by decide +kernel
theorem dL_law_663 : decode cL_law 663 = .ok (.aload_n 0, 1) := by decide +kernel
theorem dL_law_664 : decode cL_law 664 = .ok (.iload_n 3, 1) := by decide +kernel
theorem dL_law_665 : decode cL_law 665 = .ok (.iconst 1, 1) := by decide +kernel
theorem dL_law_666 : decode cL_law 666 = .ok (.iadd, 1) := by decide +kernel
theorem dL_law_667 : decode cL_law 667 = .ok (.iaload, 1) := by decide +kernel
theorem dL_law_668 : decode cL_law 668 = .ok (.aload_n 0, 1) := by decide +kernel
theorem dL_law_669 : decode cL_law 669 = .ok (.iload_n 3, 1) := by decide +kernel
theorem dL_law_670 : decode cL_law 670 = .ok (.iconst 2, 1) := by decide +kernel
theorem dL_law_671 : decode cL_law 671 = .ok (.iadd, 1) := by decide +kernel
theorem dL_law_672 : decode cL_law 672 = .ok (.iaload, 1) := by decide +kernel
theorem dL_law_673 : decode cL_law 673 = .ok (.aload_n 0, 1) := by decide +kernel
theorem dL_law_674 : decode cL_law 674 = .ok (.iload_n 3, 1) := by decide +kernel
theorem dL_law_675 : decode cL_law 675 = .ok (.iconst 3, 1) := by decide +kernel
theorem dL_law_676 : decode cL_law 676 = .ok (.iadd, 1) := by decide +kernel
theorem dL_law_677 : decode cL_law 677 = .ok (.iaload, 1) := by decide +kernel
theorem dL_law_678 : decode cL_law 678 = .ok (.aload_n 0, 1) := by decide +kernel
theorem dL_law_679 : decode cL_law 679 = .ok (.iload_n 3, 1) := by decide +kernel
theorem dL_law_680 : decode cL_law 680 = .ok (.iconst 4, 1) := by decide +kernel
theorem dL_law_681 : decode cL_law 681 = .ok (.iadd, 1) := by decide +kernel
theorem dL_law_682 : decode cL_law 682 = .ok (.iaload, 1) := by decide +kernel
theorem dL_law_683 : decode cL_law 683 = .ok (.aload_n 0, 1) := by decide +kernel
theorem dL_law_684 : decode cL_law 684 = .ok (.iload_n 3, 1) := by decide +kernel
theorem dL_law_685 : decode cL_law 685 = .ok (.iconst 5, 1) := by decide +kernel
theorem dL_law_686 : decode cL_law 686 = .ok (.iadd, 1) := by decide +kernel
theorem dL_law_687 : decode cL_law 687 = .ok (.iaload, 1) := by decide +kernel
theorem dL_law_688 : decode cL_law 688 = .ok (.aload_n 0, 1) := by decide +kernel
theorem dL_law_689 : decode cL_law 689 = .ok (.iload_n 3, 1) := by decide +kernel
theorem dL_law_690 : decode cL_law 690 = .ok (.bipush 6, 2) := by decide +kernel
theorem dL_law_692 : decode cL_law 692 = .ok (.iadd, 1) := by decide +kernel
theorem dL_law_693 : decode cL_law 693 = .ok (.iaload, 1) := by decide +kernel
theorem dL_law_694 : decode cL_law 694 = .ok (.invokevirtual 75, 3) := by decide +kernel
theorem dL_law_697 : decode cL_law 697 = .ok (.if_icmp .eq 275, 3) := by decide +kernel
theorem dL_law_700 : decode cL_law 700 = .ok (.iconst 0, 1) := by decide +kernel
theorem dL_law_701 : decode cL_law 701 = .ok (.ireturn, 1) := by decide +kernel
theorem dL_law_702 : decode cL_law 702 = .ok (.aload_n 1, 1) := by decide +kernel
theorem dL_law_703 : decode cL_law 703 = .ok (.aload_n 0, 1) := by decide +kernel
theorem dL_law_704 : decode cL_law 704 = .ok (.iload_n 3, 1) := by decide +kernel
theorem dL_law_705 : decode cL_law 705 = .ok (.iconst 1, 1) := by decide +kernel
theorem dL_law_706 : decode cL_law 706 = .ok (.iadd, 1) := by decide +kernel
theorem dL_law_707 : decode cL_law 707 = .ok (.iaload, 1) := by decide +kernel
theorem dL_law_708 : decode cL_law 708 = .ok (.aload_n 0, 1) := by decide +kernel
theorem dL_law_709 : decode cL_law 709 = .ok (.iload_n 3, 1) := by decide +kernel
theorem dL_law_710 : decode cL_law 710 = .ok (.iconst 2, 1) := by decide +kernel
theorem dL_law_711 : decode cL_law 711 = .ok (.iadd, 1) := by decide +kernel
theorem dL_law_712 : decode cL_law 712 = .ok (.iaload, 1) := by decide +kernel
theorem dL_law_713 : decode cL_law 713 = .ok (.aload_n 0, 1) := by decide +kernel
theorem dL_law_714 : decode cL_law 714 = .ok (.iload_n 3, 1) := by decide +kernel
theorem dL_law_715 : decode cL_law 715 = .ok (.iconst 3, 1) := by decide +kernel
theorem dL_law_716 : decode cL_law 716 = .ok (.iadd, 1) := by decide +kernel
theorem dL_law_717 : decode cL_law 717 = .ok (.iaload, 1) := by decide +kernel
theorem dL_law_718 : decode cL_law 718 = .ok (.aload_n 0, 1) := by decide +kernel
theorem dL_law_719 : decode cL_law 719 = .ok (.iload_n 3, 1) := by decide +kernel
theorem dL_law_720 : decode cL_law 720 = .ok (.iconst 4, 1) := by decide +kernel
theorem dL_law_721 : decode cL_law 721 = .ok (.iadd, 1) := by decide +kernel
theorem dL_law_722 : decode cL_law 722 = .ok (.iaload, 1) := by decide +kernel
theorem dL_law_723 : decode cL_law 723 = .ok (.invokevirtual 76, 3) := by decide +kernel
theorem dL_law_726 : decode cL_law 726 = .ok (.aload_n 2, 1) := by decide +kernel
theorem dL_law_727 : decode cL_law 727 = .ok (.aload_n 0, 1) := by decide +kernel
theorem dL_law_728 : decode cL_law 728 = .ok (.iload_n 3, 1) := by decide +kernel
theorem dL_law_729 : decode cL_law 729 = .ok (.iconst 1, 1) := by decide +kernel
theorem dL_law_730 : decode cL_law 730 = .ok (.iadd, 1) := by decide +kernel
theorem dL_law_731 : decode cL_law 731 = .ok (.iaload, 1) := by decide +kernel
theorem dL_law_732 : decode cL_law 732 = .ok (.aload_n 0, 1) := by decide +kernel
theorem dL_law_733 : decode cL_law 733 = .ok (.iload_n 3, 1) := by decide +kernel
theorem dL_law_734 : decode cL_law 734 = .ok (.iconst 2, 1) := by decide +kernel
theorem dL_law_735 : decode cL_law 735 = .ok (.iadd, 1) := by decide +kernel
theorem dL_law_736 : decode cL_law 736 = .ok (.iaload, 1) := by decide +kernel
theorem dL_law_737 : decode cL_law 737 = .ok (.aload_n 0, 1) := by decide +kernel
theorem dL_law_738 : decode cL_law 738 = .ok (.iload_n 3, 1) := by decide +kernel
theorem dL_law_739 : decode cL_law 739 = .ok (.iconst 3, 1) := by decide +kernel
theorem dL_law_740 : decode cL_law 740 = .ok (.iadd, 1) := by decide +kernel
theorem dL_law_741 : decode cL_law 741 = .ok (.iaload, 1) := by decide +kernel
theorem dL_law_742 : decode cL_law 742 = .ok (.aload_n 0, 1) := by decide +kernel
theorem dL_law_743 : decode cL_law 743 = .ok (.iload_n 3, 1) := by decide +kernel
theorem dL_law_744 : decode cL_law 744 = .ok (.iconst 4, 1) := by decide +kernel
theorem dL_law_745 : decode cL_law 745 = .ok (.iadd, 1) := by decide +kernel
theorem dL_law_746 : decode cL_law 746 = .ok (.iaload, 1) := by decide +kernel
theorem dL_law_747 : decode cL_law 747 = .ok (.invokevirtual 79, 3) := by decide +kernel
theorem dL_law_750 : decode cL_law 750 = .ok (.if_icmp .eq 222, 3) := by decide +kernel
theorem dL_law_753 : decode cL_law 753 = .ok (.iconst 0, 1) := by decide +kernel
theorem dL_law_754 : decode cL_law 754 = .ok (.ireturn, 1) := by decide +kernel
theorem dL_law_755 : decode cL_law 755 = .ok (.aload_n 1, 1) := by decide +kernel
theorem dL_law_756 : decode cL_law 756 = .ok (.aload_n 0, 1) := by decide +kernel
theorem dL_law_757 : decode cL_law 757 = .ok (.iload_n 3, 1) := by decide +kernel
theorem dL_law_758 : decode cL_law 758 = .ok (.iconst 1, 1) := by decide +kernel
theorem dL_law_759 : decode cL_law 759 = .ok (.iadd, 1) := by decide +kernel
theorem dL_law_760 : decode cL_law 760 = .ok (.iaload, 1) := by decide +kernel
theorem dL_law_761 : decode cL_law 761 = .ok (.invokevirtual 80, 3) := by decide +kernel
theorem dL_law_764 : decode cL_law 764 = .ok (.aload_n 2, 1) := by decide +kernel
theorem dL_law_765 : decode cL_law 765 = .ok (.aload_n 0, 1) := by decide +kernel
theorem dL_law_766 : decode cL_law 766 = .ok (.iload_n 3, 1) := by decide +kernel
theorem dL_law_767 : decode cL_law 767 = .ok (.iconst 1, 1) := by decide +kernel
theorem dL_law_768 : decode cL_law 768 = .ok (.iadd, 1) := by decide +kernel
theorem dL_law_769 : decode cL_law 769 = .ok (.iaload, 1) := by decide +kernel
theorem dL_law_770 : decode cL_law 770 = .ok (.invokevirtual 83, 3) := by decide +kernel
theorem dL_law_773 : decode cL_law 773 = .ok (.if_icmp .eq 199, 3) := by decide +kernel
theorem dL_law_776 : decode cL_law 776 = .ok (.iconst 0, 1) := by decide +kernel
theorem dL_law_777 : decode cL_law 777 = .ok (.ireturn, 1) := by decide +kernel
theorem dL_law_778 : decode cL_law 778 = .ok (.aload_n 1, 1) := by decide +kernel
theorem dL_law_779 : decode cL_law 779 = .ok (.aload_n 0, 1) := by decide +kernel
theorem dL_law_780 : decode cL_law 780 = .ok (.iload_n 3, 1) := by decide +kernel
theorem dL_law_781 : decode cL_law 781 = .ok (.iconst 1, 1) := by decide +kernel
theorem dL_law_782 : decode cL_law 782 = .ok (.iadd, 1) := by decide +kernel
theorem dL_law_783 : decode cL_law 783 = .ok (.iaload, 1) := by decide +kernel
theorem dL_law_784 : decode cL_law 784 = .ok (.invokevirtual 84, 3) := by decide +kernel
theorem dL_law_787 : decode cL_law 787 = .ok (.aload_n 2, 1) := by decide +kernel
theorem dL_law_788 : decode cL_law 788 = .ok (.aload_n 0, 1) := by decide +kernel
theorem dL_law_789 : decode cL_law 789 = .ok (.iload_n 3, 1) := by decide +kernel
theorem dL_law_790 : decode cL_law 790 = .ok (.iconst 1, 1) := by decide +kernel
theorem dL_law_791 : decode cL_law 791 = .ok (.iadd, 1) := by decide +kernel
theorem dL_law_792 : decode cL_law 792 = .ok (.iaload, 1) := by decide +kernel
theorem dL_law_793 : decode cL_law 793 = .ok (.invokevirtual 87, 3) := by decide +kernel
theorem dL_law_796 : decode cL_law 796 = .ok (.if_icmp .eq 176, 3) := by decide +kernel
theorem dL_law_799 : decode cL_law 799 = .ok (.iconst 0, 1) := by decide +kernel
theorem dL_law_800 : decode cL_law 800 = .ok (.ireturn, 1) := by decide +kernel
theorem dL_law_801 : decode cL_law 801 = .ok (.aload_n 1, 1) := by decide +kernel
theorem dL_law_802 : decode cL_law 802 = .ok (.aload_n 0, 1) := by decide +kernel
theorem dL_law_803 : decode cL_law 803 = .ok (.iload_n 3, 1) := by decide +kernel
theorem dL_law_804 : decode cL_law 804 = .ok (.iconst 1, 1) := by decide +kernel
theorem dL_law_805 : decode cL_law 805 = .ok (.iadd, 1) := by decide +kernel
theorem dL_law_806 : decode cL_law 806 = .ok (.iaload, 1) := by decide +kernel
theorem dL_law_807 : decode cL_law 807 = .ok (.aload_n 0, 1) := by decide +kernel
theorem dL_law_808 : decode cL_law 808 = .ok (.iload_n 3, 1) := by decide +kernel
theorem dL_law_809 : decode cL_law 809 = .ok (.iconst 2, 1) := by decide +kernel
theorem dL_law_810 : decode cL_law 810 = .ok (.iadd, 1) := by decide +kernel
theorem dL_law_811 : decode cL_law 811 = .ok (.iaload, 1) := by decide +kernel
theorem dL_law_812 : decode cL_law 812 = .ok (.invokevirtual 88, 3) := by decide +kernel
theorem dL_law_815 : decode cL_law 815 = .ok (.aload_n 2, 1) := by decide +kernel
theorem dL_law_816 : decode cL_law 816 = .ok (.aload_n 0, 1) := by decide +kernel
theorem dL_law_817 : decode cL_law 817 = .ok (.iload_n 3, 1) := by decide +kernel
theorem dL_law_818 : decode cL_law 818 = .ok (.iconst 1, 1) := by decide +kernel
theorem dL_law_819 : decode cL_law 819 = .ok (.iadd, 1) := by decide +kernel
theorem dL_law_820 : decode cL_law 820 = .ok (.iaload, 1) := by decide +kernel
theorem dL_law_821 : decode cL_law 821 = .ok (.aload_n 0, 1) := by decide +kernel
theorem dL_law_822 : decode cL_law 822 = .ok (.iload_n 3, 1) := by decide +kernel
theorem dL_law_823 : decode cL_law 823 = .ok (.iconst 2, 1) := by decide +kernel
theorem dL_law_824 : decode cL_law 824 = .ok (.iadd, 1) := by decide +kernel
theorem dL_law_825 : decode cL_law 825 = .ok (.iaload, 1) := by decide +kernel
theorem dL_law_826 : decode cL_law 826 = .ok (.invokevirtual 91, 3) := by decide +kernel
theorem dL_law_829 : decode cL_law 829 = .ok (.if_icmp .eq 143, 3) := by decide +kernel
theorem dL_law_832 : decode cL_law 832 = .ok (.iconst 0, 1) := by decide +kernel
theorem dL_law_833 : decode cL_law 833 = .ok (.ireturn, 1) := by decide +kernel
theorem dL_law_834 : decode cL_law 834 = .ok (.aload_n 1, 1) := by decide +kernel
theorem dL_law_835 : decode cL_law 835 = .ok (.aload_n 0, 1) := by decide +kernel
theorem dL_law_836 : decode cL_law 836 = .ok (.iload_n 3, 1) := by decide +kernel
theorem dL_law_837 : decode cL_law 837 = .ok (.iconst 1, 1) := by decide +kernel
theorem dL_law_838 : decode cL_law 838 = .ok (.iadd, 1) := by decide +kernel
theorem dL_law_839 : decode cL_law 839 = .ok (.iaload, 1) := by decide +kernel
theorem dL_law_840 : decode cL_law 840 = .ok (.invokevirtual 92, 3) := by decide +kernel
theorem dL_law_843 : decode cL_law 843 = .ok (.aload_n 2, 1) := by decide +kernel
theorem dL_law_844 : decode cL_law 844 = .ok (.aload_n 0, 1) := by decide +kernel
theorem dL_law_845 : decode cL_law 845 = .ok (.iload_n 3, 1) := by decide +kernel
theorem dL_law_846 : decode cL_law 846 = .ok (.iconst 1, 1) := by decide +kernel
theorem dL_law_847 : decode cL_law 847 = .ok (.iadd, 1) := by decide +kernel
theorem dL_law_848 : decode cL_law 848 = .ok (.iaload, 1) := by decide +kernel
theorem dL_law_849 : decode cL_law 849 = .ok (.invokevirtual 95, 3) := by decide +kernel
theorem dL_law_852 : decode cL_law 852 = .ok (.if_icmp .eq 120, 3) := by decide +kernel
theorem dL_law_855 : decode cL_law 855 = .ok (.iconst 0, 1) := by decide +kernel
theorem dL_law_856 : decode cL_law 856 = .ok (.ireturn, 1) := by decide +kernel
theorem dL_law_857 : decode cL_law 857 = .ok (.aload_n 1, 1) := by decide +kernel
theorem dL_law_858 : decode cL_law 858 = .ok (.aload_n 0, 1) := by decide +kernel
theorem dL_law_859 : decode cL_law 859 = .ok (.iload_n 3, 1) := by decide +kernel
theorem dL_law_860 : decode cL_law 860 = .ok (.iconst 1, 1) := by decide +kernel
theorem dL_law_861 : decode cL_law 861 = .ok (.iadd, 1) := by decide +kernel
theorem dL_law_862 : decode cL_law 862 = .ok (.iaload, 1) := by decide +kernel
theorem dL_law_863 : decode cL_law 863 = .ok (.aload_n 0, 1) := by decide +kernel
theorem dL_law_864 : decode cL_law 864 = .ok (.iload_n 3, 1) := by decide +kernel
theorem dL_law_865 : decode cL_law 865 = .ok (.iconst 2, 1) := by decide +kernel
theorem dL_law_866 : decode cL_law 866 = .ok (.iadd, 1) := by decide +kernel
theorem dL_law_867 : decode cL_law 867 = .ok (.iaload, 1) := by decide +kernel
theorem dL_law_868 : decode cL_law 868 = .ok (.invokevirtual 96, 3) := by decide +kernel
theorem dL_law_871 : decode cL_law 871 = .ok (.aload_n 2, 1) := by decide +kernel
theorem dL_law_872 : decode cL_law 872 = .ok (.aload_n 0, 1) := by decide +kernel
theorem dL_law_873 : decode cL_law 873 = .ok (.iload_n 3, 1) := by decide +kernel
theorem dL_law_874 : decode cL_law 874 = .ok (.iconst 1, 1) := by decide +kernel
theorem dL_law_875 : decode cL_law 875 = .ok (.iadd, 1) := by decide +kernel
theorem dL_law_876 : decode cL_law 876 = .ok (.iaload, 1) := by decide +kernel
theorem dL_law_877 : decode cL_law 877 = .ok (.aload_n 0, 1) := by decide +kernel
theorem dL_law_878 : decode cL_law 878 = .ok (.iload_n 3, 1) := by decide +kernel
theorem dL_law_879 : decode cL_law 879 = .ok (.iconst 2, 1) := by decide +kernel
theorem dL_law_880 : decode cL_law 880 = .ok (.iadd, 1) := by decide +kernel
theorem dL_law_881 : decode cL_law 881 = .ok (.iaload, 1) := by decide +kernel
theorem dL_law_882 : decode cL_law 882 = .ok (.invokevirtual 99, 3) := by decide +kernel
theorem dL_law_885 : decode cL_law 885 = .ok (.if_icmp .eq 87, 3) := by decide +kernel
theorem dL_law_888 : decode cL_law 888 = .ok (.iconst 0, 1) := by decide +kernel
theorem dL_law_889 : decode cL_law 889 = .ok (.ireturn, 1) := by decide +kernel
theorem dL_law_890 : decode cL_law 890 = .ok (.aload_n 1, 1) := by decide +kernel
theorem dL_law_891 : decode cL_law 891 = .ok (.aload_n 0, 1) := by decide +kernel
theorem dL_law_892 : decode cL_law 892 = .ok (.iload_n 3, 1) := by decide +kernel
theorem dL_law_893 : decode cL_law 893 = .ok (.iconst 1, 1) := by decide +kernel
theorem dL_law_894 : decode cL_law 894 = .ok (.iadd, 1) := by decide +kernel
theorem dL_law_895 : decode cL_law 895 = .ok (.iaload, 1) := by decide +kernel
theorem dL_law_896 : decode cL_law 896 = .ok (.invokevirtual 100, 3) := by decide +kernel
theorem dL_law_899 : decode cL_law 899 = .ok (.aload_n 2, 1) := by decide +kernel
theorem dL_law_900 : decode cL_law 900 = .ok (.aload_n 0, 1) := by decide +kernel
theorem dL_law_901 : decode cL_law 901 = .ok (.iload_n 3, 1) := by decide +kernel
theorem dL_law_902 : decode cL_law 902 = .ok (.iconst 1, 1) := by decide +kernel
theorem dL_law_903 : decode cL_law 903 = .ok (.iadd, 1) := by decide +kernel
theorem dL_law_904 : decode cL_law 904 = .ok (.iaload, 1) := by decide +kernel
theorem dL_law_905 : decode cL_law 905 = .ok (.invokevirtual 103, 3) := by decide +kernel
theorem dL_law_908 : decode cL_law 908 = .ok (.if_icmp .eq 64, 3) := by decide +kernel
theorem dL_law_911 : decode cL_law 911 = .ok (.iconst 0, 1) := by decide +kernel
theorem dL_law_912 : decode cL_law 912 = .ok (.ireturn, 1) := by decide +kernel
theorem dL_law_913 : decode cL_law 913 = .ok (.aload_n 1, 1) := by decide +kernel
theorem dL_law_914 : decode cL_law 914 = .ok (.invokevirtual 104, 3) := by decide +kernel
theorem dL_law_917 : decode cL_law 917 = .ok (.aload_n 2, 1) := by decide +kernel
theorem dL_law_918 : decode cL_law 918 = .ok (.invokevirtual 107, 3) := by decide +kernel
theorem dL_law_921 : decode cL_law 921 = .ok (.if_icmp .eq 51, 3) := by decide +kernel
theorem dL_law_924 : decode cL_law 924 = .ok (.iconst 0, 1) := by decide +kernel
theorem dL_law_925 : decode cL_law 925 = .ok (.ireturn, 1) := by decide +kernel
theorem dL_law_926 : decode cL_law 926 = .ok (.aload_n 1, 1) := by decide +kernel
theorem dL_law_927 : decode cL_law 927 = .ok (.aload_n 0, 1) := by decide +kernel
theorem dL_law_928 : decode cL_law 928 = .ok (.iload_n 3, 1) := by decide +kernel
theorem dL_law_929 : decode cL_law 929 = .ok (.iconst 1, 1) := by decide +kernel
theorem dL_law_930 : decode cL_law 930 = .ok (.iadd, 1) := by decide +kernel
theorem dL_law_931 : decode cL_law 931 = .ok (.iaload, 1) := by decide +kernel
theorem dL_law_932 : decode cL_law 932 = .ok (.invokevirtual 108, 3) := by decide +kernel
theorem dL_law_935 : decode cL_law 935 = .ok (.aload_n 2, 1) := by decide +kernel
theorem dL_law_936 : decode cL_law 936 = .ok (.aload_n 0, 1) := by decide +kernel
theorem dL_law_937 : decode cL_law 937 = .ok (.iload_n 3, 1) := by decide +kernel
theorem dL_law_938 : decode cL_law 938 = .ok (.iconst 1, 1) := by decide +kernel
theorem dL_law_939 : decode cL_law 939 = .ok (.iadd, 1) := by decide +kernel
theorem dL_law_940 : decode cL_law 940 = .ok (.iaload, 1) := by decide +kernel
theorem dL_law_941 : decode cL_law 941 = .ok (.invokevirtual 111, 3) := by decide +kernel
theorem dL_law_944 : decode cL_law 944 = .ok (.if_icmp .eq 28, 3) := by decide +kernel
theorem dL_law_947 : decode cL_law 947 = .ok (.iconst 0, 1) := by decide +kernel
theorem dL_law_948 : decode cL_law 948 = .ok (.ireturn, 1) := by decide +kernel
theorem dL_law_949 : decode cL_law 949 = .ok (.aload_n 1, 1) := by decide +kernel
theorem dL_law_950 : decode cL_law 950 = .ok (.aload_n 0, 1) := by decide +kernel
theorem dL_law_951 : decode cL_law 951 = .ok (.iload_n 3, 1) := by decide +kernel
theorem dL_law_952 : decode cL_law 952 = .ok (.iconst 1, 1) := by decide +kernel
theorem dL_law_953 : decode cL_law 953 = .ok (.iadd, 1) := by decide +kernel
theorem dL_law_954 : decode cL_law 954 = .ok (.iaload, 1) := by decide +kernel
theorem dL_law_955 : decode cL_law 955 = .ok (.invokevirtual 112, 3) := by decide +kernel
theorem dL_law_958 : decode cL_law 958 = .ok (.aload_n 2, 1) := by decide +kernel
theorem dL_law_959 : decode cL_law 959 = .ok (.aload_n 0, 1) := by decide +kernel
theorem dL_law_960 : decode cL_law 960 = .ok (.iload_n 3, 1) := by decide +kernel
theorem dL_law_961 : decode cL_law 961 = .ok (.iconst 1, 1) := by decide +kernel
theorem dL_law_962 : decode cL_law 962 = .ok (.iadd, 1) := by decide +kernel
theorem dL_law_963 : decode cL_law 963 = .ok (.iaload, 1) := by decide +kernel
theorem dL_law_964 : decode cL_law 964 = .ok (.invokevirtual 115, 3) := by decide +kernel
theorem dL_law_967 : decode cL_law 967 = .ok (.if_icmp .eq 5, 3) := by decide +kernel
theorem dL_law_970 : decode cL_law 970 = .ok (.iconst 0, 1) := by decide +kernel
theorem dL_law_971 : decode cL_law 971 = .ok (.ireturn, 1) := by decide +kernel
theorem dL_law_972 : decode cL_law 972 = .ok (.iinc 3 7, 3) := by decide +kernel
theorem dL_law_975 : decode cL_law 975 = .ok (.goto (-957), 3) := by decide +kernel
theorem dL_law_978 : decode cL_law 978 = .ok (.iconst 1, 1) := by decide +kernel
theorem dL_law_979 : decode cL_law 979 = .ok (.ireturn, 1) := by decide +kernel
end
section
/-! THE CORE: the form of every contract here (MS), its entry, its ends, its calls. The whole world of a side goes into every call. -/
noncomputable abbrev wsu (y : MethodName) (b : ByteArray) (n : Nat) (r : Option FieldType) : List Cond := Cond.code y b n r :: uT
/-- the classes of the arrays, by number: int, boolean, Hole, Mend, Quarrel, int[] -/
abbrev tysX (cy : Nat → ClassId) : List (ClassId × FieldType) := [(cy 0, .int), (cy 1, .boolean), (cy 2, .object RX2), (cy 3, .object RX3), (cy 4, .object RX7), (cy 5, .array .int)]
def nestL : List (String × Nat × MethodName) := [(RX11, 11, yX5_init), (RX5, 37, yX11_withMember), (RX5, 47, yX11_isIn), (RX9, 46, yX11_isIn), (RX9, 75, yX11_bit), (RX0, 19, yX11_isIn), (RX4, 39, yX11_bit), (RX4, 88, yX11_isIn), (RX6, 103, yX11_isBetween), (RX6, 85, yX11_bit), (RX6, 74, yX11_isIn)]
def ncL : List (String × String) := [(RX0, RX1), (RX0, RX10), (RX1, RX0), (RX1, RX10), (RX2, RX0), (RX2, RX1), (RX2, RX10), (RX8, RX0), (RX8, RX1), (RX8, RX10), (RX10, RX0), (RX10, RX1)]
def ycL : List String := [RX8, RX10, RX1, RX0]
/-- what is said of the machine's tables, for every state of a run: classes, array classes, links among nest mates, casts -/
def KX (D : va_G) (cy : Nat → ClassId) (U : State) : Prop := va_K D vwCl (tysX cy) U ∧ (∀ w ∈ nestL, va_Nw (.methodLinkNest w.1 w.2.1 w.2.2 RX11) U) ∧ (∀ w ∈ ncL, va_Nc w.1 w.2 U) ∧ (∀ w ∈ ycL, va_Nw (.castable w RX2) U)
theorem KX.warm {D : va_G} {cy : Nat → ClassId} {s U : State} (hW : s.WarmedH U.vm) (h : KX D cy s) : KX D cy U := ⟨va_K.moved hW.alike h.1, fun w hw => va_Nw.warmM hW (h.2.1 w hw), fun w hw => va_Nc.moved hW.alike (h.2.2.1 w hw), fun w hw => va_Nw.warmC hW (h.2.2.2 w hw)⟩
theorem KX.same {D : va_G} {cy : Nat → ClassId} {s U : State} (hv : s.vm = U.vm) (h : KX D cy s) : KX D cy U := ⟨va_K.moved (by rw [hv]; exact Vm.Alike.refl _) h.1, fun w hw => va_Nw.same rfl hv (h.2.1 w hw), fun w hw => va_Nc.moved (by rw [hv]; exact Vm.Alike.refl _) (h.2.2.1 w hw), fun w hw => va_Nw.same rfl hv (h.2.2.2 w hw)⟩
/-- the heap holds the world ws, its cells apart and in A, and nothing outside A has changed since H0 -/
abbrev IX (D : va_G) (A : Nat → Prop) (H0 : Heap) (ws : va_W) (H : Heap) (locs : List Loc) : Prop := va_P D vwCl ws H ∧ va_D A ws ∧ va_S A H0 H locs
def QS {α : Type} (D : va_G) (A : Nat → Prop) (post : Option Value → α → Prop) (w1 : α → va_W) : Array Value → State → Outcome → State → Prop := fun _ st oc t => (∃ (v : Option Value) (u : α), oc = .returned v ∧ post v u ∧ va_P D vwCl (w1 u) t.heap ∧ va_D A (w1 u)) ∧ va_F A st t
/-- A CONTRACT: from every state whose heap holds w0, y with the arguments av returns v, 'post v u', and the heap holds 'w1 u' -/
def MS {α : Type} (l : Launch) (D : va_G) (cy : Nat → ClassId) (y : MethodName) (b : ByteArray) (n : Nat) (r : Option FieldType) (rm : Room) (av : List Value) (w0 : va_W) (post : Option Value → α → Prop) (w1 : α → va_W) : Prop :=
  ∀ sz : Nat, Met l y (wsu y b n r) rm (va_Pc av (fun U => U.heap.size = sz ∧ va_P D vwCl w0 U.heap ∧ KX D cy U ∧ va_D (fun _ => True) w0)) (QS D (va_A w0 sz) post w1) rm.cells rm.slots (va_A w0 sz)
theorem MS.mk {α : Type} {l : Launch} {D : va_G} {cy : Nat → ClassId} {y : MethodName} {b : ByteArray} {n : Nat} {r : Option FieldType} {rm : Room} {av : List Value} {w0 : va_W} {post : Option Value → α → Prop} {w1 : α → va_W} (hy : plainName y.cls = true) (hlen : (lg_sl av).length ≤ n) (lv : List (Nat × Value)) (hlv : lv_args 0 av = lv)
    (body : ∀ (p : Program) (e : Env) (s : State) (m : MethodId) (below : List Frame) (meth : Method) (c : Code) (A : Nat → Prop) (ls : Array Slot), CallFix p m c b n s av.toArray (wsu y b n r) y.cls → meth.sig.returnType = r → meth.locks = false → meth.name = y.name → KX D cy s → (∀ q, s.heap.size ≤ q → A q) → IX D A s.heap w0 s.heap [] → lv_has ls n lv →
      W p l e rm s m av.toArray below meth c s.heap [] 0 0 (MQ below (QS D A post w1) av.toArray s rm.cells rm.slots A) (F0 m 0 ls [])) : MS l D cy y b n r rm av w0 post w1 := by
  intro sz
  refine Met.ofW (cc := b) (maxL := n) (ret := r) hy rfl ?_
  intro p e s m args below meth c s₁ B hml hv
  obtain ⟨rfl, hsz, hP, hK, hD0⟩ := hv
  subst hsz
  have hts := atoms_spec (ws := wsu y b n r) B.pre
  have hl := lv_entry av (n := n) hlen
  rw [hlv] at hl
  rw [lg_entry_eq]
  exact body p e s m below meth c (va_A w0 s.heap.size) _ ⟨B.exec, B.bytes, hml, findClass_of_methodNamed B.named, hts⟩ B.returns B.notSynchronized (name_of_methodNamed B.named B.method).1 hK (fun q h => Or.inr h) ⟨hP, hD0.self, va_S.rf⟩ hl
section ENDS
variable {α : Type} {p : Program} {l : Launch} {e : Env} {R : Room} {s : State} {m : MethodId} {args : Array Value} {below : List Frame} {meth : Method} {c : Code} {H : Heap} {locs : List Loc} {cells slots mc ms : Nat} {Q : State → Prop}
variable {cc : ByteArray} {nL pc : Nat} {ls : Array Slot} {rest st : List Value} {D : va_G} {cy : Nat → ClassId} {A : Nat → Prop} {Ts : List Cond} {own : String} {ws : va_W} {post : Option Value → α → Prop} {w1 : α → va_W} {u : α}
theorem rt_i {v : Int32} (S : CallFix p m c cc nL s args Ts own) (hr : meth.sig.returnType = some .int) (hlk : meth.locks = false) (I : IX D A s.heap (w1 u) H locs) (hp : post (some (.int v)) u) (hdg : decode cc pc = .ok (.ireturn, 1)) (hc : cells ≤ mc := by exact Nat.le_refl _) (hs : slots ≤ ms := by exact Nat.le_refl _) : W p l e R s m args below meth c H locs cells slots (MQ below (QS D A post w1) args s mc ms A) (F0 m pc ls [.int v]) :=
  W.widen hc hs (W.iret S.1 S.2.1 hr (fun t ht _ => ⟨⟨_, u, rfl, hp, by rw [ht]; exact I.1, I.2.1⟩, I.2.2.F ht⟩) I.2.2.2.2 hdg hlk)
theorem rt_z {v : Int32} (S : CallFix p m c cc nL s args Ts own) (hr : meth.sig.returnType = some .boolean) (hlk : meth.locks = false) (hz : v = 0 ∨ v = 1) (I : IX D A s.heap (w1 u) H locs) (hp : post (some (.int v)) u) (hdg : decode cc pc = .ok (.ireturn, 1)) (hc : cells ≤ mc := by exact Nat.le_refl _) (hs : slots ≤ ms := by exact Nat.le_refl _) : W p l e R s m args below meth c H locs cells slots (MQ below (QS D A post w1) args s mc ms A) (F0 m pc ls [.int v]) :=
  W.widen hc hs (W.zret S.1 S.2.1 hr (by rcases hz with rfl | rfl <;> rfl) (fun t ht _ => ⟨⟨_, u, rfl, hp, by rw [ht]; exact I.1, I.2.1⟩, I.2.2.F ht⟩) I.2.2.2.2 hdg hlk)
theorem rt_v (S : CallFix p m c cc nL s args Ts own) (hr : meth.sig.returnType = none) (hlk : meth.locks = false) (I : IX D A s.heap (w1 u) H locs) (hp : post none u) (hdg : decode cc pc = .ok (.return_, 1)) (hc : cells ≤ mc := by exact Nat.le_refl _) (hs : slots ≤ ms := by exact Nat.le_refl _) : W p l e R s m args below meth c H locs cells slots (MQ below (QS D A post w1) args s mc ms A) (F0 m pc ls []) :=
  W.widen hc hs (W.vret S.1 S.2.1 hr (fun t ht _ => ⟨⟨_, u, rfl, hp, by rw [ht]; exact I.1, I.2.1⟩, I.2.2.F ht⟩) I.2.2.2.2 hdg hlk)
theorem rt_a {v : Option Nat} {C : String} (S : CallFix p m c cc nL s args Ts own) (hr : meth.sig.returnType = some (.object C)) (hlk : meth.locks = false) (I : IX D A s.heap (w1 u) H locs) (hp : post (some (va_rf v)) u) (hdg : decode cc pc = .ok (.areturn, 1)) (hc : cells ≤ mc := by exact Nat.le_refl _) (hs : slots ≤ ms := by exact Nat.le_refl _) : W p l e R s m args below meth c H locs cells slots (MQ below (QS D A post w1) args s mc ms A) (F0 m pc ls [va_rf v]) :=
  W.widen hc hs (W.aret S.1 S.2.1 hr (Or.inl ⟨C, rfl⟩) (by cases v with | none => exact Or.inl rfl | some a => exact Or.inr ⟨a, rfl⟩) (fun t ht _ => ⟨⟨_, u, rfl, hp, by rw [ht]; exact I.1, I.2.1⟩, I.2.2.F ht⟩) I.2.2.2.2 hdg hlk)
/-- a call's run gives the world behind it -/
theorem va_callS {w0 : va_W} {a : Array Value} (hr : va_Run p l e R s m args below meth c H locs cells slots mc ms (F0 m pc ls st) rest (QS D (va_A w0 H.size) post w1 a) (va_A w0 H.size)) (hA : ∀ q, s.heap.size ≤ q → A q) (I : IX D A s.heap w0 H locs)
    (kk : ∀ (v : Option Value) (u : α) (H1 : Heap) (locs1 : List Loc), post v u → IX D A s.heap (w1 u) H1 locs1 → W p l e R s m args below meth c H1 locs1 (cells + mc) (slots + ms) Q (F0 m (pc + 3) ls (v.toList ++ rest))) : W p l e R s m args below meth c H locs cells slots Q (F0 m pc ls st) := by
  intro T hT X
  obtain ⟨v, st₀, t, T', L, h0, X', hL, e1, e2, ⟨⟨v', u, hv, hp, hP1, hD1⟩, hz, hk⟩, st1⟩ := hr T hT X
  cases hv
  rw [h0] at hz hk
  have hF : ∀ q, va_A w0 H.size q → A q := by
    intro q h
    rcases h with ⟨k, e, h⟩ | h
    · exact I.2.1.2 k (q, e) h
    · exact hA q (Nat.le_trans I.2.2.1 h)
  obtain ⟨t2, a1, b1⟩ := kk v u T'.heap (locs ++ L) hp ⟨by rw [e1]; exact hP1, hD1.weaken (fun k q _ h => hF q.1 h), ⟨Nat.le_trans I.2.2.1 (by rw [e1]; exact hz), fun q h1 h2 => by rw [e1, hk q (Nat.lt_of_lt_of_le h1 I.2.2.1) (fun z => h2 (hF q z))]; exact I.2.2.2.1 q h1 h2, fun q hq => by
      rcases List.mem_append.mp hq with h | h
      · exact I.2.2.2.2 q h
      · exact hF _ (hL q h)⟩⟩ T' rfl X'
  exact ⟨t2, st1 t2 a1, b1⟩
/-- the same, with a rest of the world that the callee doesn't get -/
theorem va_callSF {w0 wr : va_W} {a : Array Value} (hr : va_Run p l e R s m args below meth c H locs cells slots mc ms (F0 m pc ls st) rest (QS D (va_A w0 H.size) post w1 a) (va_A w0 H.size)) (hA : ∀ q, s.heap.size ≤ q → A q) (I : IX D A s.heap (w0 ++ wr) H locs)
    (kk : ∀ (v : Option Value) (u : α) (H1 : Heap) (locs1 : List Loc), post v u → IX D A s.heap (w1 u ++ wr) H1 locs1 → W p l e R s m args below meth c H1 locs1 (cells + mc) (slots + ms) Q (F0 m (pc + 3) ls (v.toList ++ rest))) : W p l e R s m args below meth c H locs cells slots Q (F0 m pc ls st) := by
  intro T hT X
  obtain ⟨v, st₀, t, T', L, h0, X', hL, e1, e2, ⟨⟨v', u, hv, hp, hP1, hD1⟩, hz, hk⟩, st1⟩ := hr T hT X
  cases hv
  rw [h0] at hz hk
  have hF : ∀ q, va_A w0 H.size q → A q := by
    intro q h
    rcases h with ⟨k, e, h⟩ | h
    · exact I.2.1.2 k (q, e) (by rw [List.getElem?_append_left (List.getElem?_eq_some_iff.mp h).1]; exact h)
    · exact hA q (Nat.le_trans I.2.2.1 h)
  have apart : ∀ (k : Nat) (q : Nat × va_E), wr[k]? = some q → q.1 < H.size ∧ ¬ va_A w0 H.size q.1 := by
    intro k q hq
    have h2 : (w0 ++ wr)[w0.length + k]? = some q := by rw [List.getElem?_append_right (Nat.le_add_right _ _), Nat.add_sub_cancel_left]; exact hq
    have hl := (I.1 _ q h2).lt
    refine ⟨hl, fun h => ?_⟩
    rcases h with ⟨k2, e, h⟩ | h
    · have hlt := (List.getElem?_eq_some_iff.mp h).1
      have hij := I.2.1.1 (w0.length + k) k2 q (q.1, e) h2 (by rw [List.getElem?_append_left hlt]; exact h) rfl
      omega
    · omega
  obtain ⟨t2, a1, b1⟩ := kk v u T'.heap (locs ++ L) hp ⟨va_P.app (by rw [e1]; exact hP1) (fun k q hq => by
      obtain ⟨g1, g2⟩ := apart k q hq
      have h2 : (w0 ++ wr)[w0.length + k]? = some q := by rw [List.getElem?_append_right (Nat.le_add_right _ _), Nat.add_sub_cancel_left]; exact hq
      exact (I.1 _ q h2).kept (by rw [e1]; exact hk q.1 g1 g2)), va_D.app (hD1.weaken (fun k q _ h => hF q.1 h)) ⟨fun i j p q hi hj hpq => by
        have hi2 : (w0 ++ wr)[w0.length + i]? = some p := by rw [List.getElem?_append_right (Nat.le_add_right _ _), Nat.add_sub_cancel_left]; exact hi
        have hj2 : (w0 ++ wr)[w0.length + j]? = some q := by rw [List.getElem?_append_right (Nat.le_add_right _ _), Nat.add_sub_cancel_left]; exact hj
        have := I.2.1.1 _ _ p q hi2 hj2 hpq
        omega, fun k q hq => I.2.1.2 (w0.length + k) q (by rw [List.getElem?_append_right (Nat.le_add_right _ _), Nat.add_sub_cancel_left]; exact hq)⟩ (fun i j x y hx hy hxy => (apart j y hy).2 (by rw [← hxy]; exact hD1.2 i x hx)), ⟨Nat.le_trans I.2.2.1 (by rw [e1]; exact hz), fun q h1 h2 => by rw [e1, hk q (Nat.lt_of_lt_of_le h1 I.2.2.1) (fun z => h2 (hF q z))]; exact I.2.2.2.1 q h1 h2, fun q hq => by
      rcases List.mem_append.mp hq with h | h
      · exact I.2.2.2.2 q h
      · exact hF _ (hL q h)⟩⟩ T' rfl X'
  exact ⟨t2, st1 t2 a1, b1⟩
theorem FB {av : List Value} {sz : Nat} {w0 : va_W} : FrameBlind (va_Pc av (fun U => U.heap.size = sz ∧ va_P D vwCl w0 U.heap ∧ KX D cy U ∧ va_D (fun _ => True) w0)) := fun a U g mk q => by
  obtain ⟨q0, q1, qP, qK, qD⟩ := q
  exact ⟨q0, q1, qP, KX.same (s := U) (U := U.calling g mk a) rfl qK, qD⟩
theorem PX {w0 : va_W} (hK : KX D cy s) (I : IX D A s.heap w0 H locs) (av : List Value) : ∀ U : State, U.heap = H → s.WarmedH U.vm → (va_Pc av (fun U => U.heap.size = H.size ∧ va_P D vwCl w0 U.heap ∧ KX D cy U ∧ va_D (fun _ => True) w0)) av.toArray U := fun U hU hW => ⟨rfl, by rw [hU], by rw [hU]; exact I.1, KX.warm hW hK, I.2.1.weaken (fun _ _ _ _ => trivial)⟩
theorem gV {x : Cond} {own C : String} {idx : Nat} {y : MethodName} {b : ByteArray} {n : Nat} {r : Option FieldType} (h1 : Cond.methodLink own idx y ∈ uT) (h2 : Cond.instanceMethod y ∈ uT) (h3 : Cond.selects C y y ∈ uT) (h4 : Cond.initialized C ∈ uT) (h5 : Cond.code y b n r ∈ uT) : GoodIn (x :: uT) (wsV own idx C y (wsu y b n r)) := by
  intro w hw
  have : w ∈ uT := by
    simp only [wsV, List.cons_append, List.nil_append, List.mem_cons] at hw
    rcases hw with rfl | rfl | rfl | rfl | rfl | hw <;> assumption
  exact uT_GI w this
theorem gS {x : Cond} {own : String} {idx : Nat} {y : MethodName} {b : ByteArray} {n : Nat} {r : Option FieldType} (h1 : Cond.methodLink own idx y ∈ uT) (h2 : Cond.static y ∈ uT) (h4 : Cond.initialized own ∈ uT) (h5 : Cond.code y b n r ∈ uT) : GoodIn (x :: uT) (wsS own idx y (wsu y b n r)) := by
  intro w hw
  have : w ∈ uT := by
    simp only [wsS, List.cons_append, List.nil_append, List.mem_cons] at hw
    rcases hw with rfl | rfl | rfl | rfl | hw <;> assumption
  exact uT_GI w this
theorem gC {x : Cond} {y : MethodName} {b : ByteArray} {n : Nat} {r : Option FieldType} (h5 : Cond.code y b n r ∈ uT) : GoodIn (x :: uT) (wsu y b n r) := by
  intro w hw
  have : w ∈ uT := by
    simp only [List.mem_cons] at hw
    rcases hw with rfl | hw <;> assumption
  exact uT_GI w this
/-- a method of an object of a known class, the callee gets the whole world -/
theorem cV {x : Cond} {y : MethodName} {b : ByteArray} {n idx np ci q0 a N : Nat} {r : Option FieldType} {rm : Room} {As : List Value} {w0 : va_W} {T : u_T} {fs : List Value} (S : CallFix p m c cc nL s args (x :: uT) own) (hM : MS l D cy y b n r rm (.ref a :: As) w0 post w1) (hK : KX D cy s) (hA : ∀ q, s.heap.size ≤ q → A q) (I : IX D A s.heap w0 H locs)
    (h1 : Cond.methodLink own idx y ∈ uT) (h2 : Cond.instanceMethod y ∈ uT) (h3 : Cond.selects y.cls y y ∈ uT) (h4 : Cond.initialized y.cls ∈ uT) (h5 : Cond.code y b n r ∈ uT) (hd : y.cls = y.cls ∧ y.cls ≠ "java/lang/invoke/MethodHandle" ∧ y.cls ≠ "java/lang/invoke/VarHandle" ∧ (parseMethodDescriptor y.desc).map (fun d => d.parameters.length) = some np) (hn : As.length = np) (hR : rm.frames + 1 ≤ R.frames ∧ 8 + (n + 11) + rm.locals ≤ R.locals)
    (hc : vwCl[ci]? = some (y.cls, T, N)) (he : w0[q0]? = some (a, .inr (ci, fs))) (hsize : ls.size = nL) (hst : st = As.reverse ++ .ref a :: rest) (hW : (rest.map fun v => v.category).sum ≤ 8) (hdg : decode cc pc = .ok (.invokevirtual idx, 3)) (hf : cells + rm.cells ≤ R.cells ∧ slots + rm.slots ≤ R.slots)
    (kk : ∀ (v : Option Value) (u : α) (H1 : Heap) (locs1 : List Loc), post v u → IX D A s.heap (w1 u) H1 locs1 → W p l e R s m args below meth c H1 locs1 (cells + rm.cells) (slots + rm.slots) Q (F0 m (pc + 3) ls (v.toList ++ rest))) : W p l e R s m args below meth c H locs cells slots Q (F0 m pc ls st) :=
  va_callS (va_runV (As := As) (rest := rest) (b := a) S (hM H.size) (cwV np S.2.2.2.2 (gV h1 h2 h3 h4 h5) rfl rfl rfl hd hR) ⟨FB, va_recv hK.1 I.1 hc he, PX hK I _⟩ rfl hn hsize hst (lv_room hW) hdg hf) hA I kk
theorem cVF {x : Cond} {y : MethodName} {b : ByteArray} {n idx np ci q0 a N : Nat} {r : Option FieldType} {rm : Room} {As : List Value} {w0 wr : va_W} {T : u_T} {fs : List Value} (S : CallFix p m c cc nL s args (x :: uT) own) (hM : MS l D cy y b n r rm (.ref a :: As) w0 post w1) (hK : KX D cy s) (hA : ∀ q, s.heap.size ≤ q → A q) (I : IX D A s.heap (w0 ++ wr) H locs)
    (h1 : Cond.methodLink own idx y ∈ uT) (h2 : Cond.instanceMethod y ∈ uT) (h3 : Cond.selects y.cls y y ∈ uT) (h4 : Cond.initialized y.cls ∈ uT) (h5 : Cond.code y b n r ∈ uT) (hd : y.cls = y.cls ∧ y.cls ≠ "java/lang/invoke/MethodHandle" ∧ y.cls ≠ "java/lang/invoke/VarHandle" ∧ (parseMethodDescriptor y.desc).map (fun d => d.parameters.length) = some np) (hn : As.length = np) (hR : rm.frames + 1 ≤ R.frames ∧ 8 + (n + 11) + rm.locals ≤ R.locals)
    (hc : vwCl[ci]? = some (y.cls, T, N)) (he : w0[q0]? = some (a, .inr (ci, fs))) (hsize : ls.size = nL) (hst : st = As.reverse ++ .ref a :: rest) (hW : (rest.map fun v => v.category).sum ≤ 8) (hdg : decode cc pc = .ok (.invokevirtual idx, 3)) (hf : cells + rm.cells ≤ R.cells ∧ slots + rm.slots ≤ R.slots)
    (kk : ∀ (v : Option Value) (u : α) (H1 : Heap) (locs1 : List Loc), post v u → IX D A s.heap (w1 u ++ wr) H1 locs1 → W p l e R s m args below meth c H1 locs1 (cells + rm.cells) (slots + rm.slots) Q (F0 m (pc + 3) ls (v.toList ++ rest))) : W p l e R s m args below meth c H locs cells slots Q (F0 m pc ls st) := by
  have hlt := (List.getElem?_eq_some_iff.mp he).1
  have J : IX D A s.heap w0 H locs := ⟨fun k q hk => I.1 k q (by rw [List.getElem?_append_left (List.getElem?_eq_some_iff.mp hk).1]; exact hk), ⟨fun i j p q hi hj => I.2.1.1 i j p q (by rw [List.getElem?_append_left (List.getElem?_eq_some_iff.mp hi).1]; exact hi) (by rw [List.getElem?_append_left (List.getElem?_eq_some_iff.mp hj).1]; exact hj), fun k q hk => I.2.1.2 k q (by rw [List.getElem?_append_left (List.getElem?_eq_some_iff.mp hk).1]; exact hk)⟩, I.2.2⟩
  exact va_callSF (va_runV (As := As) (rest := rest) (b := a) S (hM H.size) (cwV np S.2.2.2.2 (gV h1 h2 h3 h4 h5) rfl rfl rfl hd hR) ⟨FB, va_recv hK.1 J.1 hc he, PX hK J _⟩ rfl hn hsize hst (lv_room hW) hdg hf) hA I kk
/-- a static method of the own class -/
theorem cS {x : Cond} {y : MethodName} {b : ByteArray} {n idx np : Nat} {r : Option FieldType} {rm : Room} {As : List Value} {w0 : va_W} (S : CallFix p m c cc nL s args (x :: uT) own) (hM : MS l D cy y b n r rm As w0 post w1) (hK : KX D cy s) (hA : ∀ q, s.heap.size ≤ q → A q) (I : IX D A s.heap w0 H locs)
    (h1 : Cond.methodLink own idx y ∈ uT) (h2 : Cond.static y ∈ uT) (h4 : Cond.initialized own ∈ uT) (h5 : Cond.code y b n r ∈ uT) (hd : y.cls = own ∧ y.cls ≠ "java/lang/invoke/MethodHandle" ∧ y.cls ≠ "java/lang/invoke/VarHandle" ∧ (parseMethodDescriptor y.desc).map (fun d => d.parameters.length) = some np) (hn : As.length = np) (hR : rm.frames + 1 ≤ R.frames ∧ 8 + (n + 11) + rm.locals ≤ R.locals)
    (hsize : ls.size = nL) (hst : st = As.reverse ++ rest) (hW : (rest.map fun v => v.category).sum ≤ 8) (hdg : decode cc pc = .ok (.invokestatic idx, 3)) (hf : cells + rm.cells ≤ R.cells ∧ slots + rm.slots ≤ R.slots)
    (kk : ∀ (v : Option Value) (u : α) (H1 : Heap) (locs1 : List Loc), post v u → IX D A s.heap (w1 u) H1 locs1 → W p l e R s m args below meth c H1 locs1 (cells + rm.cells) (slots + rm.slots) Q (F0 m (pc + 3) ls (v.toList ++ rest))) : W p l e R s m args below meth c H locs cells slots Q (F0 m pc ls st) :=
  va_callS (va_runS (As := As) (rest := rest) S (hM H.size) (cwS np S.2.2.2.2 (gS h1 h2 h4 h5) rfl rfl rfl hd hR) ⟨FB, PX hK I _⟩ rfl hn hsize hst (lv_room hW) hdg hf) hA I kk
/-- a private static method of the nest's host, called by a nest mate -/
theorem cN {x : Cond} {y : MethodName} {b : ByteArray} {n idx np : Nat} {r : Option FieldType} {rm : Room} {As : List Value} {w0 : va_W} (S : CallFix p m c cc nL s args (x :: uT) own) (hM : MS l D cy y b n r rm As w0 post w1) (hK : KX D cy s) (hA : ∀ q, s.heap.size ≤ q → A q) (I : IX D A s.heap w0 H locs)
    (h1 : (own, idx, y) ∈ nestL) (h2 : Cond.static y ∈ uT) (h4 : Cond.initialized y.cls ∈ uT) (h5 : Cond.code y b n r ∈ uT) (hd : y.cls ≠ "java/lang/invoke/MethodHandle" ∧ y.cls ≠ "java/lang/invoke/VarHandle" ∧ (parseMethodDescriptor y.desc).map (fun d => d.parameters.length) = some np) (hn : As.length = np) (hR : rm.frames + 1 ≤ R.frames ∧ 8 + (n + 11) + rm.locals ≤ R.locals)
    (hsize : ls.size = nL) (hst : st = As.reverse ++ rest) (hW : (rest.map fun v => v.category).sum ≤ 8) (hdg : decode cc pc = .ok (.invokestatic idx, 3)) (hf : cells + rm.cells ≤ R.cells ∧ slots + rm.slots ≤ R.slots)
    (kk : ∀ (v : Option Value) (u : α) (H1 : Heap) (locs1 : List Loc), post v u → IX D A s.heap (w1 u) H1 locs1 → W p l e R s m args below meth c H1 locs1 (cells + rm.cells) (slots + rm.slots) Q (F0 m (pc + 3) ls (v.toList ++ rest))) : W p l e R s m args below meth c H locs cells slots Q (F0 m pc ls st) :=
  va_callS (va_runSN (host := RX11) (As := As) (rest := rest) S (hM H.size) ⟨va_cnB np S.2.2.2.2 (gC h5) rfl rfl rfl (hK.2.1 _ h1) (S.2.2.2.2 _ (List.mem_cons_of_mem _ h4)) hd hR, S.2.2.2.2 _ (List.mem_cons_of_mem _ h2), trivial⟩ ⟨FB, PX hK I _⟩ rfl hn hsize hst (lv_room hW) hdg hf) hA I kk
/-- a field of an object in the world -/
theorem rg {x : Cond} {C ref : String} {T : u_T} {N ci q0 a idx : Nat} (k : Nat) {fs : List Value} {v : Value} (S : CallFix p m c cc nL s args (x :: uT) own) (hK : KX D cy s) (I : IX D A s.heap ws H locs) (hcl : ∀ w ∈ u_ws C T N, w ∈ uT) (hc : vwCl[ci]? = some (C, T, N)) (hw : Cond.fieldLink own idx ref (T k).2.1 (T k).2.2.1 ∈ uT) (hk : k < N) (hs : (T k).1 = ref)
    (he : ws[q0]? = some (a, .inr (ci, fs))) (hv : fs[k]? = some v) (hdg : decode cc pc = .ok (.getfield idx, 3)) (kk : W p l e R s m args below meth c H locs cells slots Q (F0 m (pc + 3) ls (v :: rest))) : W p l e R s m args below meth c H locs cells slots Q (F0 m pc ls (.ref a :: rest)) :=
  va_get (D := D) S.1 S.2.1 S.2.2.2.2 (fun w h => List.mem_cons_of_mem _ (hcl w h)) S.2.2.2.1 hK.1 I.1 q0 he hc k hk (S.2.2.2.2 _ (List.mem_cons_of_mem _ hw)) (fun _ h9 => by rw [← hs]; exact h9) hv hdg kk
theorem rp {x : Cond} {C ref : String} {T : u_T} {N ci q0 a idx : Nat} (k : Nat) {fs : List Value} {v : Value} {ty : FieldType} (S : CallFix p m c cc nL s args (x :: uT) own) (hK : KX D cy s) (I : IX D A s.heap ws H locs) (hcl : ∀ w ∈ u_ws C T N, w ∈ uT) (hc : vwCl[ci]? = some (C, T, N)) (hw : Cond.fieldLink own idx ref (T k).2.1 (T k).2.2.1 ∈ uT) (hk : k < N) (hs : (T k).1 = ref) {ty0 : Nat → FieldType} (hty : ∀ k, k < N → parseFieldDescriptor (T k).2.2.1 = some (ty0 k)) (hnm : ∀ a, a < N → ∀ b, b < N → a ≠ b → (T a).2.1 ≠ (T b).2.1) (hfin : (T k).2.2.2 = false) (hd : parseFieldDescriptor (T k).2.2.1 = some ty) (hn : narrow ty v = v) (hfit : fits ty v = true) (hl : k < fs.length)
    (he : ws[q0]? = some (a, .inr (ci, fs))) (hdg : decode cc pc = .ok (.putfield idx, 3)) (kk : ∀ (H1 : Heap) (locs1 : List Loc), IX D A s.heap (ws.set q0 (a, .inr (ci, fs.set k v))) H1 locs1 → W p l e R s m args below meth c H1 locs1 cells slots Q (F0 m (pc + 3) ls rest)) : W p l e R s m args below meth c H locs cells slots Q (F0 m pc ls (v :: .ref a :: rest)) :=
  va_put (D := D) S.1 S.2.1 S.2.2.2.2 (fun w h => List.mem_cons_of_mem _ (hcl w h)) ty0 hty hnm S.2.2.2.1 hK.1 I.1 I.2.1 I.2.2 q0 he hc k hk (S.2.2.2.2 _ (List.mem_cons_of_mem _ hw)) (fun _ h9 => by rw [← hs]; exact h9) hfin hd hn hfit hl hdg (fun H1 locs1 a b d => kk H1 locs1 ⟨a, b, d⟩)
/-- an int of an array of the world, at a place that is a number -/
theorem ri {q0 a n : Nat} {f : Nat → Int32} {i : Int32} (k : Nat) (S : CallFix p m c cc nL s args Ts own) (hK : KX D cy s) (I : IX D A s.heap ws H locs) (ha : ws[q0]? = some (a, .inl (cy 0, n, .inl f))) (hi : i = nI k) (hk : k < n) (hn : n < 2 ^ 31) (hdg : decode cc pc = .ok (.iaload, 1))
    (kk : W p l e R s m args below meth c H locs cells slots Q (F0 m (pc + 1) ls (.int (f k) :: rest))) : W p l e R s m args below meth c H locs cells slots Q (F0 m pc ls (.int i :: .ref a :: rest)) := by
  subst hi
  refine va_iald S.1 S.2.1 hK.1 I.1 q0 0 ha rfl (vp_in_nI hk hn) hdg ?_
  rw [nI_clamp (Nat.lt_trans hk hn)]
  exact kk
theorem rz {q0 a n : Nat} {f : Nat → Int32} {i : Int32} (k : Nat) (S : CallFix p m c cc nL s args Ts own) (hK : KX D cy s) (I : IX D A s.heap ws H locs) (ha : ws[q0]? = some (a, .inl (cy 1, n, .inl f))) (hi : i = nI k) (hk : k < n) (hn : n < 2 ^ 31) (hdg : decode cc pc = .ok (.baload, 1))
    (kk : W p l e R s m args below meth c H locs cells slots Q (F0 m (pc + 1) ls (.int (f k) :: rest))) : W p l e R s m args below meth c H locs cells slots Q (F0 m pc ls (.int i :: .ref a :: rest)) := by
  subst hi
  refine va_zald S.1 S.2.1 hK.1 I.1 q0 1 ha rfl (vp_in_nI hk hn) hdg ?_
  rw [nI_clamp (Nat.lt_trans hk hn)]
  exact kk
theorem si {q0 a n : Nat} {f : Nat → Int32} {i v : Int32} (k : Nat) (S : CallFix p m c cc nL s args Ts own) (hK : KX D cy s) (I : IX D A s.heap ws H locs) (ha : ws[q0]? = some (a, .inl (cy 0, n, .inl f))) (hi : i = nI k) (hk : k < n) (hn : n < 2 ^ 31) (hdg : decode cc pc = .ok (.iastore, 1))
    (kk : ∀ (H1 : Heap) (locs1 : List Loc), IX D A s.heap (ws.set q0 (a, .inl (cy 0, n, .inl (upd f k v)))) H1 locs1 → W p l e R s m args below meth c H1 locs1 cells slots Q (F0 m (pc + 1) ls rest)) : W p l e R s m args below meth c H locs cells slots Q (F0 m pc ls (.int v :: .int i :: .ref a :: rest)) := by
  subst hi
  refine va_iast S.1 S.2.1 hK.1 I.1 I.2.1 I.2.2 q0 0 ha rfl (vp_in_nI hk hn) hdg (fun H1 locs1 a b d => ?_)
  rw [nI_clamp (Nat.lt_trans hk hn)] at a b
  exact kk H1 locs1 ⟨a, b, d⟩
theorem sz {q0 a n : Nat} {f : Nat → Int32} {i v : Int32} (k : Nat) (S : CallFix p m c cc nL s args Ts own) (hK : KX D cy s) (I : IX D A s.heap ws H locs) (ha : ws[q0]? = some (a, .inl (cy 1, n, .inl f))) (hi : i = nI k) (hk : k < n) (hn : n < 2 ^ 31) (hz : v = 0 ∨ v = 1) (hdg : decode cc pc = .ok (.bastore, 1))
    (kk : ∀ (H1 : Heap) (locs1 : List Loc), IX D A s.heap (ws.set q0 (a, .inl (cy 1, n, .inl (upd f k v)))) H1 locs1 → W p l e R s m args below meth c H1 locs1 cells slots Q (F0 m (pc + 1) ls rest)) : W p l e R s m args below meth c H locs cells slots Q (F0 m pc ls (.int v :: .int i :: .ref a :: rest)) := by
  subst hi
  refine va_zast S.1 S.2.1 hK.1 I.1 I.2.1 I.2.2 q0 1 ha rfl (vp_in_nI hk hn) hdg (fun H1 locs1 a b d => ?_)
  rw [nI_clamp (Nat.lt_trans hk hn), show vp_nar .boolean v = v by rcases hz with rfl | rfl <;> rfl] at a b
  exact kk H1 locs1 ⟨a, b, d⟩
end ENDS
end
section
abbrev rm_X0_init : Room := { frames := 2, cells := 0, slots := 0, locals := 63 }
abbrev rm_X0_kind : Room := { frames := 0, cells := 0, slots := 0, locals := 0 }
abbrev rm_X0_isFreed : Room := { frames := 1, cells := 0, slots := 0, locals := 21 }
abbrev rm_X1_init : Room := { frames := 2, cells := 0, slots := 0, locals := 63 }
abbrev rm_X1_kind : Room := { frames := 0, cells := 0, slots := 0, locals := 0 }
abbrev rm_X1_stands : Room := { frames := 1, cells := 0, slots := 0, locals := 21 }
abbrev rm_X2_init : Room := { frames := 1, cells := 0, slots := 0, locals := 40 }
abbrev rm_X2_kind : Room := { frames := 0, cells := 0, slots := 0, locals := 0 }
abbrev rm_X2_stands : Room := { frames := 1, cells := 0, slots := 0, locals := 21 }
abbrev rm_X2_isFreed : Room := { frames := 0, cells := 0, slots := 0, locals := 0 }
abbrev rm_X2_isOfVersion : Room := { frames := 0, cells := 0, slots := 0, locals := 0 }
abbrev rm_X3_init : Room := { frames := 1, cells := 0, slots := 0, locals := 40 }
abbrev rm_X4_init : Room := { frames := 1, cells := 3, slots := 24, locals := 40 }
abbrev rm_X4_mendAt : Room := { frames := 0, cells := 0, slots := 0, locals := 0 }
abbrev rm_X4_isSet : Room := { frames := 1, cells := 0, slots := 0, locals := 20 }
abbrev rm_X4_addMend : Room := { frames := 0, cells := 0, slots := 0, locals := 0 }
abbrev rm_X4_addQuarrel : Room := { frames := 0, cells := 0, slots := 0, locals := 0 }
abbrev rm_X4_riskAfter : Room := { frames := 4, cells := 0, slots := 0, locals := 94 }
abbrev rm_X4_isSound : Room := { frames := 3, cells := 0, slots := 0, locals := 86 }
abbrev rm_X4_quarrelHolds : Room := { frames := 2, cells := 0, slots := 0, locals := 63 }
abbrev rm_X4_needIsMet : Room := { frames := 1, cells := 0, slots := 0, locals := 21 }
abbrev rm_X4_hasAllNeeds : Room := { frames := 1, cells := 0, slots := 0, locals := 21 }
abbrev rm_X4_fillVersions : Room := { frames := 1, cells := 0, slots := 0, locals := 40 }
abbrev rm_X5_init : Room := { frames := 1, cells := 4, slots := 36, locals := 40 }
abbrev rm_X5_hasPart : Room := { frames := 0, cells := 0, slots := 0, locals := 0 }
abbrev rm_X5_holeAt : Room := { frames := 0, cells := 0, slots := 0, locals := 0 }
abbrev rm_X5_addPart : Room := { frames := 2, cells := 0, slots := 0, locals := 42 }
abbrev rm_X5_addHole : Room := { frames := 0, cells := 0, slots := 0, locals := 0 }
abbrev rm_X5_standsNow : Room := { frames := 2, cells := 0, slots := 0, locals := 43 }
abbrev rm_X6_init : Room := { frames := 1, cells := 13, slots := 2332, locals := 40 }
abbrev rm_X6_weighSets : Room := { frames := 5, cells := 0, slots := 0, locals := 115 }
abbrev rm_X6_findSums : Room := { frames := 1, cells := 0, slots := 0, locals := 40 }
abbrev rm_X6_leastSum : Room := { frames := 0, cells := 0, slots := 0, locals := 0 }
abbrev rm_X6_fixWeeks : Room := { frames := 2, cells := 0, slots := 0, locals := 42 }
abbrev rm_X6_putInWeek : Room := { frames := 1, cells := 0, slots := 0, locals := 20 }
abbrev rm_X6_bestSet : Room := { frames := 0, cells := 0, slots := 0, locals := 0 }
abbrev rm_X6_findAllowed : Room := { frames := 1, cells := 0, slots := 0, locals := 22 }
abbrev rm_X6_handsOf : Room := { frames := 1, cells := 0, slots := 0, locals := 21 }
abbrev rm_X7_init : Room := { frames := 1, cells := 0, slots := 0, locals := 40 }
abbrev rm_X7_holds : Room := { frames := 0, cells := 0, slots := 0, locals := 0 }
abbrev rm_X8_init : Room := { frames := 2, cells := 0, slots := 0, locals := 63 }
abbrev rm_X8_kind : Room := { frames := 0, cells := 0, slots := 0, locals := 0 }
abbrev rm_X8_stands : Room := { frames := 1, cells := 0, slots := 0, locals := 21 }
abbrev rm_X9_init : Room := { frames := 1, cells := 3, slots := 24, locals := 40 }
abbrev rm_X9_run : Room := { frames := 3, cells := 0, slots := 0, locals := 70 }
abbrev rm_X9_sumOfWorths : Room := { frames := 1, cells := 0, slots := 0, locals := 21 }
abbrev rm_X9_findStanding : Room := { frames := 2, cells := 0, slots := 0, locals := 43 }
abbrev rm_X9_takeStep : Room := { frames := 2, cells := 0, slots := 0, locals := 44 }
abbrev rm_X9_isReached : Room := { frames := 1, cells := 0, slots := 0, locals := 21 }
abbrev rm_X9_leastOf : Room := { frames := 1, cells := 0, slots := 0, locals := 21 }
abbrev rm_X10_init : Room := { frames := 3, cells := 0, slots := 0, locals := 86 }
abbrev rm_X10_kind : Room := { frames := 0, cells := 0, slots := 0, locals := 0 }
abbrev rm_X10_stands : Room := { frames := 1, cells := 0, slots := 0, locals := 21 }
abbrev rm_X11_init : Room := { frames := 2, cells := 27, slots := 2447, locals := 62 }
abbrev rm_X11_part : Room := { frames := 3, cells := 0, slots := 0, locals := 65 }
abbrev rm_X11_link : Room := { frames := 2, cells := 0, slots := 0, locals := 42 }
abbrev rm_X11_guard : Room := { frames := 2, cells := 0, slots := 0, locals := 42 }
abbrev rm_X11_version : Room := { frames := 2, cells := 0, slots := 0, locals := 42 }
abbrev rm_X11_hole : Room := { frames := 5, cells := 1, slots := 5, locals := 132 }
abbrev rm_X11_chained : Room := { frames := 3, cells := 1, slots := 5, locals := 88 }
abbrev rm_X11_wake : Room := { frames := 1, cells := 0, slots := 0, locals := 21 }
abbrev rm_X11_chain : Room := { frames := 1, cells := 0, slots := 0, locals := 21 }
abbrev rm_X11_told : Room := { frames := 3, cells := 0, slots := 0, locals := 64 }
abbrev rm_X11_risk : Room := { frames := 5, cells := 0, slots := 0, locals := 114 }
abbrev rm_X11_taken : Room := { frames := 5, cells := 0, slots := 0, locals := 114 }
abbrev rm_X11_way : Room := { frames := 5, cells := 0, slots := 0, locals := 114 }
abbrev rm_X11_bestGuard : Room := { frames := 5, cells := 0, slots := 0, locals := 114 }
abbrev rm_X11_mend : Room := { frames := 2, cells := 1, slots := 6, locals := 66 }
abbrev rm_X11_quarrel : Room := { frames := 2, cells := 1, slots := 4, locals := 64 }
abbrev rm_X11_riskWith : Room := { frames := 5, cells := 0, slots := 0, locals := 115 }
abbrev rm_X11_sound : Room := { frames := 4, cells := 0, slots := 0, locals := 107 }
abbrev rm_X11_gain : Room := { frames := 5, cells := 0, slots := 0, locals := 115 }
abbrev rm_X11_next : Room := { frames := 5, cells := 0, slots := 0, locals := 115 }
abbrev rm_X11_plan : Room := { frames := 6, cells := 0, slots := 0, locals := 138 }
abbrev rm_X11_week : Room := { frames := 1, cells := 0, slots := 0, locals := 21 }
abbrev rm_X11_moved : Room := { frames := 0, cells := 0, slots := 0, locals := 0 }
abbrev rm_X11_make : Room := { frames := 5, cells := 0, slots := 0, locals := 114 }
abbrev rm_X11_count : Room := { frames := 5, cells := 0, slots := 0, locals := 114 }
abbrev rm_X11_spreadNow : Room := { frames := 4, cells := 0, slots := 0, locals := 94 }
abbrev rm_X11_isBetween : Room := { frames := 0, cells := 0, slots := 0, locals := 0 }
abbrev rm_X11_isVersion : Room := { frames := 1, cells := 0, slots := 0, locals := 22 }
abbrev rm_X11_isSpan : Room := { frames := 2, cells := 0, slots := 0, locals := 42 }
abbrev rm_X11_asNumber : Room := { frames := 0, cells := 0, slots := 0, locals := 0 }
abbrev rm_X11_bit : Room := { frames := 0, cells := 0, slots := 0, locals := 0 }
abbrev rm_X11_isIn : Room := { frames := 0, cells := 0, slots := 0, locals := 0 }
abbrev rm_X11_withMember : Room := { frames := 1, cells := 0, slots := 0, locals := 20 }
abbrev rm_X11_newHole : Room := { frames := 4, cells := 1, slots := 5, locals := 109 }
abbrev rm_X12_init : Room := { frames := 1, cells := 28, slots := 4392, locals := 40 }
abbrev rm_X12_in : Room := { frames := 0, cells := 0, slots := 0, locals := 0 }
abbrev rm_X12_isPart : Room := { frames := 1, cells := 0, slots := 0, locals := 22 }
abbrev rm_X12_isVersion : Room := { frames := 1, cells := 0, slots := 0, locals := 22 }
abbrev rm_X12_part : Room := { frames := 2, cells := 0, slots := 0, locals := 42 }
abbrev rm_X12_link : Room := { frames := 2, cells := 0, slots := 0, locals := 43 }
abbrev rm_X12_guard : Room := { frames := 2, cells := 0, slots := 0, locals := 43 }
abbrev rm_X12_version : Room := { frames := 2, cells := 0, slots := 0, locals := 43 }
abbrev rm_X12_add : Room := { frames := 0, cells := 0, slots := 0, locals := 0 }
abbrev rm_X12_isSpan : Room := { frames := 2, cells := 0, slots := 0, locals := 43 }
abbrev rm_X12_isHole : Room := { frames := 1, cells := 0, slots := 0, locals := 22 }
abbrev rm_X12_hole : Room := { frames := 3, cells := 0, slots := 0, locals := 66 }
abbrev rm_X12_chained : Room := { frames := 3, cells := 0, slots := 0, locals := 66 }
abbrev rm_X12_wake : Room := { frames := 2, cells := 0, slots := 0, locals := 43 }
abbrev rm_X12_chain : Room := { frames := 2, cells := 0, slots := 0, locals := 43 }
abbrev rm_X12_takeVersions : Room := { frames := 0, cells := 0, slots := 0, locals := 0 }
abbrev rm_X12_stands : Room := { frames := 1, cells := 0, slots := 0, locals := 22 }
abbrev rm_X12_opens : Room := { frames := 2, cells := 0, slots := 0, locals := 45 }
abbrev rm_X12_fromFor : Room := { frames := 0, cells := 0, slots := 0, locals := 0 }
abbrev rm_X12_take : Room := { frames := 3, cells := 0, slots := 0, locals := 69 }
abbrev rm_X12_riskNow : Room := { frames := 4, cells := 0, slots := 0, locals := 94 }
abbrev rm_X12_riskOf : Room := { frames := 5, cells := 0, slots := 0, locals := 118 }
abbrev rm_X12_told : Room := { frames := 2, cells := 0, slots := 0, locals := 45 }
abbrev rm_X12_risk : Room := { frames := 6, cells := 0, slots := 0, locals := 139 }
abbrev rm_X12_taken : Room := { frames := 6, cells := 0, slots := 0, locals := 139 }
abbrev rm_X12_way : Room := { frames := 6, cells := 0, slots := 0, locals := 139 }
abbrev rm_X12_bestGuard : Room := { frames := 6, cells := 0, slots := 0, locals := 139 }
abbrev rm_X12_isMend : Room := { frames := 1, cells := 0, slots := 0, locals := 22 }
abbrev rm_X12_mend : Room := { frames := 2, cells := 0, slots := 0, locals := 43 }
abbrev rm_X12_quarrel : Room := { frames := 2, cells := 0, slots := 0, locals := 43 }
abbrev rm_X12_isSet : Room := { frames := 1, cells := 0, slots := 0, locals := 22 }
abbrev rm_X12_isQuarrelling : Room := { frames := 0, cells := 0, slots := 0, locals := 0 }
abbrev rm_X12_isSound : Room := { frames := 1, cells := 0, slots := 0, locals := 22 }
abbrev rm_X12_riskWith : Room := { frames := 6, cells := 0, slots := 0, locals := 139 }
abbrev rm_X12_sound : Room := { frames := 2, cells := 0, slots := 0, locals := 44 }
abbrev rm_X12_gain : Room := { frames := 6, cells := 0, slots := 0, locals := 139 }
abbrev rm_X12_next : Room := { frames := 6, cells := 0, slots := 0, locals := 139 }
abbrev rm_X12_mayIn : Room := { frames := 1, cells := 0, slots := 0, locals := 22 }
abbrev rm_X12_planFrom : Room := { frames := 2, cells := 0, slots := 0, locals := 47 }
abbrev rm_X12_plan : Room := { frames := 6, cells := 0, slots := 0, locals := 139 }
abbrev rm_X12_week : Room := { frames := 2, cells := 0, slots := 0, locals := 43 }
abbrev rm_X12_moved : Room := { frames := 0, cells := 0, slots := 0, locals := 0 }
abbrev rm_X12_make : Room := { frames := 6, cells := 0, slots := 0, locals := 139 }
abbrev rm_X12_count : Room := { frames := 6, cells := 0, slots := 0, locals := 139 }
abbrev rm_J6_bitCount_0f7a4 : Room := { frames := 0, cells := 0, slots := 0, locals := 0 }
abbrev rm_J9_max_7cf53 : Room := { frames := 0, cells := 0, slots := 0, locals := 0 }
abbrev rm_J7_fill_53178 : Room := { frames := 0, cells := 0, slots := 0, locals := 0 }
theorem hd_X0_init : yX0_init.cls ≠ "java/lang/invoke/MethodHandle" ∧ yX0_init.cls ≠ "java/lang/invoke/VarHandle" ∧ (parseMethodDescriptor yX0_init.desc).map (fun d => d.parameters.length) = some 5 := by decide +kernel
theorem hd_X0_kind : yX0_kind.cls ≠ "java/lang/invoke/MethodHandle" ∧ yX0_kind.cls ≠ "java/lang/invoke/VarHandle" ∧ (parseMethodDescriptor yX0_kind.desc).map (fun d => d.parameters.length) = some 0 := by decide +kernel
theorem hd_X0_isFreed : yX0_isFreed.cls ≠ "java/lang/invoke/MethodHandle" ∧ yX0_isFreed.cls ≠ "java/lang/invoke/VarHandle" ∧ (parseMethodDescriptor yX0_isFreed.desc).map (fun d => d.parameters.length) = some 3 := by decide +kernel
theorem hd_X1_init : yX1_init.cls ≠ "java/lang/invoke/MethodHandle" ∧ yX1_init.cls ≠ "java/lang/invoke/VarHandle" ∧ (parseMethodDescriptor yX1_init.desc).map (fun d => d.parameters.length) = some 3 := by decide +kernel
theorem hd_X1_kind : yX1_kind.cls ≠ "java/lang/invoke/MethodHandle" ∧ yX1_kind.cls ≠ "java/lang/invoke/VarHandle" ∧ (parseMethodDescriptor yX1_kind.desc).map (fun d => d.parameters.length) = some 0 := by decide +kernel
theorem hd_X1_stands : yX1_stands.cls ≠ "java/lang/invoke/MethodHandle" ∧ yX1_stands.cls ≠ "java/lang/invoke/VarHandle" ∧ (parseMethodDescriptor yX1_stands.desc).map (fun d => d.parameters.length) = some 2 := by decide +kernel
theorem hd_X2_init : yX2_init.cls ≠ "java/lang/invoke/MethodHandle" ∧ yX2_init.cls ≠ "java/lang/invoke/VarHandle" ∧ (parseMethodDescriptor yX2_init.desc).map (fun d => d.parameters.length) = some 3 := by decide +kernel
theorem hd_X2_kind : yX2_kind.cls ≠ "java/lang/invoke/MethodHandle" ∧ yX2_kind.cls ≠ "java/lang/invoke/VarHandle" ∧ (parseMethodDescriptor yX2_kind.desc).map (fun d => d.parameters.length) = some 0 := by decide +kernel
theorem hd_X2_stands : yX2_stands.cls ≠ "java/lang/invoke/MethodHandle" ∧ yX2_stands.cls ≠ "java/lang/invoke/VarHandle" ∧ (parseMethodDescriptor yX2_stands.desc).map (fun d => d.parameters.length) = some 2 := by decide +kernel
theorem hd_X2_isFreed : yX2_isFreed.cls ≠ "java/lang/invoke/MethodHandle" ∧ yX2_isFreed.cls ≠ "java/lang/invoke/VarHandle" ∧ (parseMethodDescriptor yX2_isFreed.desc).map (fun d => d.parameters.length) = some 3 := by decide +kernel
theorem hd_X2_isOfVersion : yX2_isOfVersion.cls ≠ "java/lang/invoke/MethodHandle" ∧ yX2_isOfVersion.cls ≠ "java/lang/invoke/VarHandle" ∧ (parseMethodDescriptor yX2_isOfVersion.desc).map (fun d => d.parameters.length) = some 1 := by decide +kernel
theorem hd_X3_init : yX3_init.cls ≠ "java/lang/invoke/MethodHandle" ∧ yX3_init.cls ≠ "java/lang/invoke/VarHandle" ∧ (parseMethodDescriptor yX3_init.desc).map (fun d => d.parameters.length) = some 6 := by decide +kernel
theorem hd_X4_init : yX4_init.cls ≠ "java/lang/invoke/MethodHandle" ∧ yX4_init.cls ≠ "java/lang/invoke/VarHandle" ∧ (parseMethodDescriptor yX4_init.desc).map (fun d => d.parameters.length) = some 2 := by decide +kernel
theorem hd_X4_mendAt : yX4_mendAt.cls ≠ "java/lang/invoke/MethodHandle" ∧ yX4_mendAt.cls ≠ "java/lang/invoke/VarHandle" ∧ (parseMethodDescriptor yX4_mendAt.desc).map (fun d => d.parameters.length) = some 1 := by decide +kernel
theorem hd_X4_isSet : yX4_isSet.cls ≠ "java/lang/invoke/MethodHandle" ∧ yX4_isSet.cls ≠ "java/lang/invoke/VarHandle" ∧ (parseMethodDescriptor yX4_isSet.desc).map (fun d => d.parameters.length) = some 1 := by decide +kernel
theorem hd_X4_addMend : yX4_addMend.cls ≠ "java/lang/invoke/MethodHandle" ∧ yX4_addMend.cls ≠ "java/lang/invoke/VarHandle" ∧ (parseMethodDescriptor yX4_addMend.desc).map (fun d => d.parameters.length) = some 1 := by decide +kernel
theorem hd_X4_addQuarrel : yX4_addQuarrel.cls ≠ "java/lang/invoke/MethodHandle" ∧ yX4_addQuarrel.cls ≠ "java/lang/invoke/VarHandle" ∧ (parseMethodDescriptor yX4_addQuarrel.desc).map (fun d => d.parameters.length) = some 1 := by decide +kernel
theorem hd_X4_riskAfter : yX4_riskAfter.cls ≠ "java/lang/invoke/MethodHandle" ∧ yX4_riskAfter.cls ≠ "java/lang/invoke/VarHandle" ∧ (parseMethodDescriptor yX4_riskAfter.desc).map (fun d => d.parameters.length) = some 1 := by decide +kernel
theorem hd_X4_isSound : yX4_isSound.cls ≠ "java/lang/invoke/MethodHandle" ∧ yX4_isSound.cls ≠ "java/lang/invoke/VarHandle" ∧ (parseMethodDescriptor yX4_isSound.desc).map (fun d => d.parameters.length) = some 1 := by decide +kernel
theorem hd_X4_quarrelHolds : yX4_quarrelHolds.cls ≠ "java/lang/invoke/MethodHandle" ∧ yX4_quarrelHolds.cls ≠ "java/lang/invoke/VarHandle" ∧ (parseMethodDescriptor yX4_quarrelHolds.desc).map (fun d => d.parameters.length) = some 1 := by decide +kernel
theorem hd_X4_needIsMet : yX4_needIsMet.cls ≠ "java/lang/invoke/MethodHandle" ∧ yX4_needIsMet.cls ≠ "java/lang/invoke/VarHandle" ∧ (parseMethodDescriptor yX4_needIsMet.desc).map (fun d => d.parameters.length) = some 1 := by decide +kernel
theorem hd_X4_hasAllNeeds : yX4_hasAllNeeds.cls ≠ "java/lang/invoke/MethodHandle" ∧ yX4_hasAllNeeds.cls ≠ "java/lang/invoke/VarHandle" ∧ (parseMethodDescriptor yX4_hasAllNeeds.desc).map (fun d => d.parameters.length) = some 1 := by decide +kernel
theorem hd_X4_fillVersions : yX4_fillVersions.cls ≠ "java/lang/invoke/MethodHandle" ∧ yX4_fillVersions.cls ≠ "java/lang/invoke/VarHandle" ∧ (parseMethodDescriptor yX4_fillVersions.desc).map (fun d => d.parameters.length) = some 1 := by decide +kernel
theorem hd_X5_init : yX5_init.cls ≠ "java/lang/invoke/MethodHandle" ∧ yX5_init.cls ≠ "java/lang/invoke/VarHandle" ∧ (parseMethodDescriptor yX5_init.desc).map (fun d => d.parameters.length) = some 0 := by decide +kernel
theorem hd_X5_hasPart : yX5_hasPart.cls ≠ "java/lang/invoke/MethodHandle" ∧ yX5_hasPart.cls ≠ "java/lang/invoke/VarHandle" ∧ (parseMethodDescriptor yX5_hasPart.desc).map (fun d => d.parameters.length) = some 1 := by decide +kernel
theorem hd_X5_holeAt : yX5_holeAt.cls ≠ "java/lang/invoke/MethodHandle" ∧ yX5_holeAt.cls ≠ "java/lang/invoke/VarHandle" ∧ (parseMethodDescriptor yX5_holeAt.desc).map (fun d => d.parameters.length) = some 1 := by decide +kernel
theorem hd_X5_addPart : yX5_addPart.cls ≠ "java/lang/invoke/MethodHandle" ∧ yX5_addPart.cls ≠ "java/lang/invoke/VarHandle" ∧ (parseMethodDescriptor yX5_addPart.desc).map (fun d => d.parameters.length) = some 3 := by decide +kernel
theorem hd_X5_addHole : yX5_addHole.cls ≠ "java/lang/invoke/MethodHandle" ∧ yX5_addHole.cls ≠ "java/lang/invoke/VarHandle" ∧ (parseMethodDescriptor yX5_addHole.desc).map (fun d => d.parameters.length) = some 1 := by decide +kernel
theorem hd_X5_standsNow : yX5_standsNow.cls ≠ "java/lang/invoke/MethodHandle" ∧ yX5_standsNow.cls ≠ "java/lang/invoke/VarHandle" ∧ (parseMethodDescriptor yX5_standsNow.desc).map (fun d => d.parameters.length) = some 1 := by decide +kernel
theorem hd_X6_init : yX6_init.cls ≠ "java/lang/invoke/MethodHandle" ∧ yX6_init.cls ≠ "java/lang/invoke/VarHandle" ∧ (parseMethodDescriptor yX6_init.desc).map (fun d => d.parameters.length) = some 1 := by decide +kernel
theorem hd_X6_weighSets : yX6_weighSets.cls ≠ "java/lang/invoke/MethodHandle" ∧ yX6_weighSets.cls ≠ "java/lang/invoke/VarHandle" ∧ (parseMethodDescriptor yX6_weighSets.desc).map (fun d => d.parameters.length) = some 2 := by decide +kernel
theorem hd_X6_findSums : yX6_findSums.cls ≠ "java/lang/invoke/MethodHandle" ∧ yX6_findSums.cls ≠ "java/lang/invoke/VarHandle" ∧ (parseMethodDescriptor yX6_findSums.desc).map (fun d => d.parameters.length) = some 1 := by decide +kernel
theorem hd_X6_leastSum : yX6_leastSum.cls ≠ "java/lang/invoke/MethodHandle" ∧ yX6_leastSum.cls ≠ "java/lang/invoke/VarHandle" ∧ (parseMethodDescriptor yX6_leastSum.desc).map (fun d => d.parameters.length) = some 0 := by decide +kernel
theorem hd_X6_fixWeeks : yX6_fixWeeks.cls ≠ "java/lang/invoke/MethodHandle" ∧ yX6_fixWeeks.cls ≠ "java/lang/invoke/VarHandle" ∧ (parseMethodDescriptor yX6_fixWeeks.desc).map (fun d => d.parameters.length) = some 1 := by decide +kernel
theorem hd_X6_putInWeek : yX6_putInWeek.cls ≠ "java/lang/invoke/MethodHandle" ∧ yX6_putInWeek.cls ≠ "java/lang/invoke/VarHandle" ∧ (parseMethodDescriptor yX6_putInWeek.desc).map (fun d => d.parameters.length) = some 2 := by decide +kernel
theorem hd_X6_bestSet : yX6_bestSet.cls ≠ "java/lang/invoke/MethodHandle" ∧ yX6_bestSet.cls ≠ "java/lang/invoke/VarHandle" ∧ (parseMethodDescriptor yX6_bestSet.desc).map (fun d => d.parameters.length) = some 2 := by decide +kernel
theorem hd_X6_findAllowed : yX6_findAllowed.cls ≠ "java/lang/invoke/MethodHandle" ∧ yX6_findAllowed.cls ≠ "java/lang/invoke/VarHandle" ∧ (parseMethodDescriptor yX6_findAllowed.desc).map (fun d => d.parameters.length) = some 1 := by decide +kernel
theorem hd_X6_handsOf : yX6_handsOf.cls ≠ "java/lang/invoke/MethodHandle" ∧ yX6_handsOf.cls ≠ "java/lang/invoke/VarHandle" ∧ (parseMethodDescriptor yX6_handsOf.desc).map (fun d => d.parameters.length) = some 1 := by decide +kernel
theorem hd_X7_init : yX7_init.cls ≠ "java/lang/invoke/MethodHandle" ∧ yX7_init.cls ≠ "java/lang/invoke/VarHandle" ∧ (parseMethodDescriptor yX7_init.desc).map (fun d => d.parameters.length) = some 4 := by decide +kernel
theorem hd_X7_holds : yX7_holds.cls ≠ "java/lang/invoke/MethodHandle" ∧ yX7_holds.cls ≠ "java/lang/invoke/VarHandle" ∧ (parseMethodDescriptor yX7_holds.desc).map (fun d => d.parameters.length) = some 1 := by decide +kernel
theorem hd_X8_init : yX8_init.cls ≠ "java/lang/invoke/MethodHandle" ∧ yX8_init.cls ≠ "java/lang/invoke/VarHandle" ∧ (parseMethodDescriptor yX8_init.desc).map (fun d => d.parameters.length) = some 3 := by decide +kernel
theorem hd_X8_kind : yX8_kind.cls ≠ "java/lang/invoke/MethodHandle" ∧ yX8_kind.cls ≠ "java/lang/invoke/VarHandle" ∧ (parseMethodDescriptor yX8_kind.desc).map (fun d => d.parameters.length) = some 0 := by decide +kernel
theorem hd_X8_stands : yX8_stands.cls ≠ "java/lang/invoke/MethodHandle" ∧ yX8_stands.cls ≠ "java/lang/invoke/VarHandle" ∧ (parseMethodDescriptor yX8_stands.desc).map (fun d => d.parameters.length) = some 2 := by decide +kernel
theorem hd_X9_init : yX9_init.cls ≠ "java/lang/invoke/MethodHandle" ∧ yX9_init.cls ≠ "java/lang/invoke/VarHandle" ∧ (parseMethodDescriptor yX9_init.desc).map (fun d => d.parameters.length) = some 1 := by decide +kernel
theorem hd_X9_run : yX9_run.cls ≠ "java/lang/invoke/MethodHandle" ∧ yX9_run.cls ≠ "java/lang/invoke/VarHandle" ∧ (parseMethodDescriptor yX9_run.desc).map (fun d => d.parameters.length) = some 2 := by decide +kernel
theorem hd_X9_sumOfWorths : yX9_sumOfWorths.cls ≠ "java/lang/invoke/MethodHandle" ∧ yX9_sumOfWorths.cls ≠ "java/lang/invoke/VarHandle" ∧ (parseMethodDescriptor yX9_sumOfWorths.desc).map (fun d => d.parameters.length) = some 0 := by decide +kernel
theorem hd_X9_findStanding : yX9_findStanding.cls ≠ "java/lang/invoke/MethodHandle" ∧ yX9_findStanding.cls ≠ "java/lang/invoke/VarHandle" ∧ (parseMethodDescriptor yX9_findStanding.desc).map (fun d => d.parameters.length) = some 2 := by decide +kernel
theorem hd_X9_takeStep : yX9_takeStep.cls ≠ "java/lang/invoke/MethodHandle" ∧ yX9_takeStep.cls ≠ "java/lang/invoke/VarHandle" ∧ (parseMethodDescriptor yX9_takeStep.desc).map (fun d => d.parameters.length) = some 1 := by decide +kernel
theorem hd_X9_isReached : yX9_isReached.cls ≠ "java/lang/invoke/MethodHandle" ∧ yX9_isReached.cls ≠ "java/lang/invoke/VarHandle" ∧ (parseMethodDescriptor yX9_isReached.desc).map (fun d => d.parameters.length) = some 1 := by decide +kernel
theorem hd_X9_leastOf : yX9_leastOf.cls ≠ "java/lang/invoke/MethodHandle" ∧ yX9_leastOf.cls ≠ "java/lang/invoke/VarHandle" ∧ (parseMethodDescriptor yX9_leastOf.desc).map (fun d => d.parameters.length) = some 1 := by decide +kernel
theorem hd_X10_init : yX10_init.cls ≠ "java/lang/invoke/MethodHandle" ∧ yX10_init.cls ≠ "java/lang/invoke/VarHandle" ∧ (parseMethodDescriptor yX10_init.desc).map (fun d => d.parameters.length) = some 3 := by decide +kernel
theorem hd_X10_kind : yX10_kind.cls ≠ "java/lang/invoke/MethodHandle" ∧ yX10_kind.cls ≠ "java/lang/invoke/VarHandle" ∧ (parseMethodDescriptor yX10_kind.desc).map (fun d => d.parameters.length) = some 0 := by decide +kernel
theorem hd_X10_stands : yX10_stands.cls ≠ "java/lang/invoke/MethodHandle" ∧ yX10_stands.cls ≠ "java/lang/invoke/VarHandle" ∧ (parseMethodDescriptor yX10_stands.desc).map (fun d => d.parameters.length) = some 2 := by decide +kernel
theorem hd_X11_init : yX11_init.cls ≠ "java/lang/invoke/MethodHandle" ∧ yX11_init.cls ≠ "java/lang/invoke/VarHandle" ∧ (parseMethodDescriptor yX11_init.desc).map (fun d => d.parameters.length) = some 0 := by decide +kernel
theorem hd_X11_part : yX11_part.cls ≠ "java/lang/invoke/MethodHandle" ∧ yX11_part.cls ≠ "java/lang/invoke/VarHandle" ∧ (parseMethodDescriptor yX11_part.desc).map (fun d => d.parameters.length) = some 3 := by decide +kernel
theorem hd_X11_link : yX11_link.cls ≠ "java/lang/invoke/MethodHandle" ∧ yX11_link.cls ≠ "java/lang/invoke/VarHandle" ∧ (parseMethodDescriptor yX11_link.desc).map (fun d => d.parameters.length) = some 3 := by decide +kernel
theorem hd_X11_guard : yX11_guard.cls ≠ "java/lang/invoke/MethodHandle" ∧ yX11_guard.cls ≠ "java/lang/invoke/VarHandle" ∧ (parseMethodDescriptor yX11_guard.desc).map (fun d => d.parameters.length) = some 2 := by decide +kernel
theorem hd_X11_version : yX11_version.cls ≠ "java/lang/invoke/MethodHandle" ∧ yX11_version.cls ≠ "java/lang/invoke/VarHandle" ∧ (parseMethodDescriptor yX11_version.desc).map (fun d => d.parameters.length) = some 2 := by decide +kernel
theorem hd_X11_hole : yX11_hole.cls ≠ "java/lang/invoke/MethodHandle" ∧ yX11_hole.cls ≠ "java/lang/invoke/VarHandle" ∧ (parseMethodDescriptor yX11_hole.desc).map (fun d => d.parameters.length) = some 4 := by decide +kernel
theorem hd_X11_chained : yX11_chained.cls ≠ "java/lang/invoke/MethodHandle" ∧ yX11_chained.cls ≠ "java/lang/invoke/VarHandle" ∧ (parseMethodDescriptor yX11_chained.desc).map (fun d => d.parameters.length) = some 4 := by decide +kernel
theorem hd_X11_wake : yX11_wake.cls ≠ "java/lang/invoke/MethodHandle" ∧ yX11_wake.cls ≠ "java/lang/invoke/VarHandle" ∧ (parseMethodDescriptor yX11_wake.desc).map (fun d => d.parameters.length) = some 2 := by decide +kernel
theorem hd_X11_chain : yX11_chain.cls ≠ "java/lang/invoke/MethodHandle" ∧ yX11_chain.cls ≠ "java/lang/invoke/VarHandle" ∧ (parseMethodDescriptor yX11_chain.desc).map (fun d => d.parameters.length) = some 1 := by decide +kernel
theorem hd_X11_told : yX11_told.cls ≠ "java/lang/invoke/MethodHandle" ∧ yX11_told.cls ≠ "java/lang/invoke/VarHandle" ∧ (parseMethodDescriptor yX11_told.desc).map (fun d => d.parameters.length) = some 2 := by decide +kernel
theorem hd_X11_risk : yX11_risk.cls ≠ "java/lang/invoke/MethodHandle" ∧ yX11_risk.cls ≠ "java/lang/invoke/VarHandle" ∧ (parseMethodDescriptor yX11_risk.desc).map (fun d => d.parameters.length) = some 0 := by decide +kernel
theorem hd_X11_taken : yX11_taken.cls ≠ "java/lang/invoke/MethodHandle" ∧ yX11_taken.cls ≠ "java/lang/invoke/VarHandle" ∧ (parseMethodDescriptor yX11_taken.desc).map (fun d => d.parameters.length) = some 0 := by decide +kernel
theorem hd_X11_way : yX11_way.cls ≠ "java/lang/invoke/MethodHandle" ∧ yX11_way.cls ≠ "java/lang/invoke/VarHandle" ∧ (parseMethodDescriptor yX11_way.desc).map (fun d => d.parameters.length) = some 2 := by decide +kernel
theorem hd_X11_bestGuard : yX11_bestGuard.cls ≠ "java/lang/invoke/MethodHandle" ∧ yX11_bestGuard.cls ≠ "java/lang/invoke/VarHandle" ∧ (parseMethodDescriptor yX11_bestGuard.desc).map (fun d => d.parameters.length) = some 0 := by decide +kernel
theorem hd_X11_mend : yX11_mend.cls ≠ "java/lang/invoke/MethodHandle" ∧ yX11_mend.cls ≠ "java/lang/invoke/VarHandle" ∧ (parseMethodDescriptor yX11_mend.desc).map (fun d => d.parameters.length) = some 6 := by decide +kernel
theorem hd_X11_quarrel : yX11_quarrel.cls ≠ "java/lang/invoke/MethodHandle" ∧ yX11_quarrel.cls ≠ "java/lang/invoke/VarHandle" ∧ (parseMethodDescriptor yX11_quarrel.desc).map (fun d => d.parameters.length) = some 4 := by decide +kernel
theorem hd_X11_riskWith : yX11_riskWith.cls ≠ "java/lang/invoke/MethodHandle" ∧ yX11_riskWith.cls ≠ "java/lang/invoke/VarHandle" ∧ (parseMethodDescriptor yX11_riskWith.desc).map (fun d => d.parameters.length) = some 1 := by decide +kernel
theorem hd_X11_sound : yX11_sound.cls ≠ "java/lang/invoke/MethodHandle" ∧ yX11_sound.cls ≠ "java/lang/invoke/VarHandle" ∧ (parseMethodDescriptor yX11_sound.desc).map (fun d => d.parameters.length) = some 1 := by decide +kernel
theorem hd_X11_gain : yX11_gain.cls ≠ "java/lang/invoke/MethodHandle" ∧ yX11_gain.cls ≠ "java/lang/invoke/VarHandle" ∧ (parseMethodDescriptor yX11_gain.desc).map (fun d => d.parameters.length) = some 2 := by decide +kernel
theorem hd_X11_next : yX11_next.cls ≠ "java/lang/invoke/MethodHandle" ∧ yX11_next.cls ≠ "java/lang/invoke/VarHandle" ∧ (parseMethodDescriptor yX11_next.desc).map (fun d => d.parameters.length) = some 1 := by decide +kernel
theorem hd_X11_plan : yX11_plan.cls ≠ "java/lang/invoke/MethodHandle" ∧ yX11_plan.cls ≠ "java/lang/invoke/VarHandle" ∧ (parseMethodDescriptor yX11_plan.desc).map (fun d => d.parameters.length) = some 2 := by decide +kernel
theorem hd_X11_week : yX11_week.cls ≠ "java/lang/invoke/MethodHandle" ∧ yX11_week.cls ≠ "java/lang/invoke/VarHandle" ∧ (parseMethodDescriptor yX11_week.desc).map (fun d => d.parameters.length) = some 1 := by decide +kernel
theorem hd_X11_moved : yX11_moved.cls ≠ "java/lang/invoke/MethodHandle" ∧ yX11_moved.cls ≠ "java/lang/invoke/VarHandle" ∧ (parseMethodDescriptor yX11_moved.desc).map (fun d => d.parameters.length) = some 0 := by decide +kernel
theorem hd_X11_make : yX11_make.cls ≠ "java/lang/invoke/MethodHandle" ∧ yX11_make.cls ≠ "java/lang/invoke/VarHandle" ∧ (parseMethodDescriptor yX11_make.desc).map (fun d => d.parameters.length) = some 1 := by decide +kernel
theorem hd_X11_count : yX11_count.cls ≠ "java/lang/invoke/MethodHandle" ∧ yX11_count.cls ≠ "java/lang/invoke/VarHandle" ∧ (parseMethodDescriptor yX11_count.desc).map (fun d => d.parameters.length) = some 1 := by decide +kernel
theorem hd_X11_spreadNow : yX11_spreadNow.cls ≠ "java/lang/invoke/MethodHandle" ∧ yX11_spreadNow.cls ≠ "java/lang/invoke/VarHandle" ∧ (parseMethodDescriptor yX11_spreadNow.desc).map (fun d => d.parameters.length) = some 0 := by decide +kernel
theorem hd_X11_isBetween : yX11_isBetween.cls ≠ "java/lang/invoke/MethodHandle" ∧ yX11_isBetween.cls ≠ "java/lang/invoke/VarHandle" ∧ (parseMethodDescriptor yX11_isBetween.desc).map (fun d => d.parameters.length) = some 3 := by decide +kernel
theorem hd_X11_isVersion : yX11_isVersion.cls ≠ "java/lang/invoke/MethodHandle" ∧ yX11_isVersion.cls ≠ "java/lang/invoke/VarHandle" ∧ (parseMethodDescriptor yX11_isVersion.desc).map (fun d => d.parameters.length) = some 1 := by decide +kernel
theorem hd_X11_isSpan : yX11_isSpan.cls ≠ "java/lang/invoke/MethodHandle" ∧ yX11_isSpan.cls ≠ "java/lang/invoke/VarHandle" ∧ (parseMethodDescriptor yX11_isSpan.desc).map (fun d => d.parameters.length) = some 2 := by decide +kernel
theorem hd_X11_asNumber : yX11_asNumber.cls ≠ "java/lang/invoke/MethodHandle" ∧ yX11_asNumber.cls ≠ "java/lang/invoke/VarHandle" ∧ (parseMethodDescriptor yX11_asNumber.desc).map (fun d => d.parameters.length) = some 1 := by decide +kernel
theorem hd_X11_bit : yX11_bit.cls ≠ "java/lang/invoke/MethodHandle" ∧ yX11_bit.cls ≠ "java/lang/invoke/VarHandle" ∧ (parseMethodDescriptor yX11_bit.desc).map (fun d => d.parameters.length) = some 1 := by decide +kernel
theorem hd_X11_isIn : yX11_isIn.cls ≠ "java/lang/invoke/MethodHandle" ∧ yX11_isIn.cls ≠ "java/lang/invoke/VarHandle" ∧ (parseMethodDescriptor yX11_isIn.desc).map (fun d => d.parameters.length) = some 2 := by decide +kernel
theorem hd_X11_withMember : yX11_withMember.cls ≠ "java/lang/invoke/MethodHandle" ∧ yX11_withMember.cls ≠ "java/lang/invoke/VarHandle" ∧ (parseMethodDescriptor yX11_withMember.desc).map (fun d => d.parameters.length) = some 3 := by decide +kernel
theorem hd_X11_newHole : yX11_newHole.cls ≠ "java/lang/invoke/MethodHandle" ∧ yX11_newHole.cls ≠ "java/lang/invoke/VarHandle" ∧ (parseMethodDescriptor yX11_newHole.desc).map (fun d => d.parameters.length) = some 4 := by decide +kernel
theorem hd_X12_init : yX12_init.cls ≠ "java/lang/invoke/MethodHandle" ∧ yX12_init.cls ≠ "java/lang/invoke/VarHandle" ∧ (parseMethodDescriptor yX12_init.desc).map (fun d => d.parameters.length) = some 0 := by decide +kernel
theorem hd_X12_in : yX12_in.cls ≠ "java/lang/invoke/MethodHandle" ∧ yX12_in.cls ≠ "java/lang/invoke/VarHandle" ∧ (parseMethodDescriptor yX12_in.desc).map (fun d => d.parameters.length) = some 3 := by decide +kernel
theorem hd_X12_isPart : yX12_isPart.cls ≠ "java/lang/invoke/MethodHandle" ∧ yX12_isPart.cls ≠ "java/lang/invoke/VarHandle" ∧ (parseMethodDescriptor yX12_isPart.desc).map (fun d => d.parameters.length) = some 1 := by decide +kernel
theorem hd_X12_isVersion : yX12_isVersion.cls ≠ "java/lang/invoke/MethodHandle" ∧ yX12_isVersion.cls ≠ "java/lang/invoke/VarHandle" ∧ (parseMethodDescriptor yX12_isVersion.desc).map (fun d => d.parameters.length) = some 1 := by decide +kernel
theorem hd_X12_part : yX12_part.cls ≠ "java/lang/invoke/MethodHandle" ∧ yX12_part.cls ≠ "java/lang/invoke/VarHandle" ∧ (parseMethodDescriptor yX12_part.desc).map (fun d => d.parameters.length) = some 3 := by decide +kernel
theorem hd_X12_link : yX12_link.cls ≠ "java/lang/invoke/MethodHandle" ∧ yX12_link.cls ≠ "java/lang/invoke/VarHandle" ∧ (parseMethodDescriptor yX12_link.desc).map (fun d => d.parameters.length) = some 3 := by decide +kernel
theorem hd_X12_guard : yX12_guard.cls ≠ "java/lang/invoke/MethodHandle" ∧ yX12_guard.cls ≠ "java/lang/invoke/VarHandle" ∧ (parseMethodDescriptor yX12_guard.desc).map (fun d => d.parameters.length) = some 2 := by decide +kernel
theorem hd_X12_version : yX12_version.cls ≠ "java/lang/invoke/MethodHandle" ∧ yX12_version.cls ≠ "java/lang/invoke/VarHandle" ∧ (parseMethodDescriptor yX12_version.desc).map (fun d => d.parameters.length) = some 2 := by decide +kernel
theorem hd_X12_add : yX12_add.cls ≠ "java/lang/invoke/MethodHandle" ∧ yX12_add.cls ≠ "java/lang/invoke/VarHandle" ∧ (parseMethodDescriptor yX12_add.desc).map (fun d => d.parameters.length) = some 5 := by decide +kernel
theorem hd_X12_isSpan : yX12_isSpan.cls ≠ "java/lang/invoke/MethodHandle" ∧ yX12_isSpan.cls ≠ "java/lang/invoke/VarHandle" ∧ (parseMethodDescriptor yX12_isSpan.desc).map (fun d => d.parameters.length) = some 3 := by decide +kernel
theorem hd_X12_isHole : yX12_isHole.cls ≠ "java/lang/invoke/MethodHandle" ∧ yX12_isHole.cls ≠ "java/lang/invoke/VarHandle" ∧ (parseMethodDescriptor yX12_isHole.desc).map (fun d => d.parameters.length) = some 1 := by decide +kernel
theorem hd_X12_hole : yX12_hole.cls ≠ "java/lang/invoke/MethodHandle" ∧ yX12_hole.cls ≠ "java/lang/invoke/VarHandle" ∧ (parseMethodDescriptor yX12_hole.desc).map (fun d => d.parameters.length) = some 4 := by decide +kernel
theorem hd_X12_chained : yX12_chained.cls ≠ "java/lang/invoke/MethodHandle" ∧ yX12_chained.cls ≠ "java/lang/invoke/VarHandle" ∧ (parseMethodDescriptor yX12_chained.desc).map (fun d => d.parameters.length) = some 4 := by decide +kernel
theorem hd_X12_wake : yX12_wake.cls ≠ "java/lang/invoke/MethodHandle" ∧ yX12_wake.cls ≠ "java/lang/invoke/VarHandle" ∧ (parseMethodDescriptor yX12_wake.desc).map (fun d => d.parameters.length) = some 2 := by decide +kernel
theorem hd_X12_chain : yX12_chain.cls ≠ "java/lang/invoke/MethodHandle" ∧ yX12_chain.cls ≠ "java/lang/invoke/VarHandle" ∧ (parseMethodDescriptor yX12_chain.desc).map (fun d => d.parameters.length) = some 1 := by decide +kernel
theorem hd_X12_takeVersions : yX12_takeVersions.cls ≠ "java/lang/invoke/MethodHandle" ∧ yX12_takeVersions.cls ≠ "java/lang/invoke/VarHandle" ∧ (parseMethodDescriptor yX12_takeVersions.desc).map (fun d => d.parameters.length) = some 1 := by decide +kernel
theorem hd_X12_stands : yX12_stands.cls ≠ "java/lang/invoke/MethodHandle" ∧ yX12_stands.cls ≠ "java/lang/invoke/VarHandle" ∧ (parseMethodDescriptor yX12_stands.desc).map (fun d => d.parameters.length) = some 1 := by decide +kernel
theorem hd_X12_opens : yX12_opens.cls ≠ "java/lang/invoke/MethodHandle" ∧ yX12_opens.cls ≠ "java/lang/invoke/VarHandle" ∧ (parseMethodDescriptor yX12_opens.desc).map (fun d => d.parameters.length) = some 2 := by decide +kernel
theorem hd_X12_fromFor : yX12_fromFor.cls ≠ "java/lang/invoke/MethodHandle" ∧ yX12_fromFor.cls ≠ "java/lang/invoke/VarHandle" ∧ (parseMethodDescriptor yX12_fromFor.desc).map (fun d => d.parameters.length) = some 2 := by decide +kernel
theorem hd_X12_take : yX12_take.cls ≠ "java/lang/invoke/MethodHandle" ∧ yX12_take.cls ≠ "java/lang/invoke/VarHandle" ∧ (parseMethodDescriptor yX12_take.desc).map (fun d => d.parameters.length) = some 0 := by decide +kernel
theorem hd_X12_riskNow : yX12_riskNow.cls ≠ "java/lang/invoke/MethodHandle" ∧ yX12_riskNow.cls ≠ "java/lang/invoke/VarHandle" ∧ (parseMethodDescriptor yX12_riskNow.desc).map (fun d => d.parameters.length) = some 0 := by decide +kernel
theorem hd_X12_riskOf : yX12_riskOf.cls ≠ "java/lang/invoke/MethodHandle" ∧ yX12_riskOf.cls ≠ "java/lang/invoke/VarHandle" ∧ (parseMethodDescriptor yX12_riskOf.desc).map (fun d => d.parameters.length) = some 1 := by decide +kernel
theorem hd_X12_told : yX12_told.cls ≠ "java/lang/invoke/MethodHandle" ∧ yX12_told.cls ≠ "java/lang/invoke/VarHandle" ∧ (parseMethodDescriptor yX12_told.desc).map (fun d => d.parameters.length) = some 2 := by decide +kernel
theorem hd_X12_risk : yX12_risk.cls ≠ "java/lang/invoke/MethodHandle" ∧ yX12_risk.cls ≠ "java/lang/invoke/VarHandle" ∧ (parseMethodDescriptor yX12_risk.desc).map (fun d => d.parameters.length) = some 0 := by decide +kernel
theorem hd_X12_taken : yX12_taken.cls ≠ "java/lang/invoke/MethodHandle" ∧ yX12_taken.cls ≠ "java/lang/invoke/VarHandle" ∧ (parseMethodDescriptor yX12_taken.desc).map (fun d => d.parameters.length) = some 0 := by decide +kernel
theorem hd_X12_way : yX12_way.cls ≠ "java/lang/invoke/MethodHandle" ∧ yX12_way.cls ≠ "java/lang/invoke/VarHandle" ∧ (parseMethodDescriptor yX12_way.desc).map (fun d => d.parameters.length) = some 2 := by decide +kernel
theorem hd_X12_bestGuard : yX12_bestGuard.cls ≠ "java/lang/invoke/MethodHandle" ∧ yX12_bestGuard.cls ≠ "java/lang/invoke/VarHandle" ∧ (parseMethodDescriptor yX12_bestGuard.desc).map (fun d => d.parameters.length) = some 0 := by decide +kernel
theorem hd_X12_isMend : yX12_isMend.cls ≠ "java/lang/invoke/MethodHandle" ∧ yX12_isMend.cls ≠ "java/lang/invoke/VarHandle" ∧ (parseMethodDescriptor yX12_isMend.desc).map (fun d => d.parameters.length) = some 1 := by decide +kernel
theorem hd_X12_mend : yX12_mend.cls ≠ "java/lang/invoke/MethodHandle" ∧ yX12_mend.cls ≠ "java/lang/invoke/VarHandle" ∧ (parseMethodDescriptor yX12_mend.desc).map (fun d => d.parameters.length) = some 6 := by decide +kernel
theorem hd_X12_quarrel : yX12_quarrel.cls ≠ "java/lang/invoke/MethodHandle" ∧ yX12_quarrel.cls ≠ "java/lang/invoke/VarHandle" ∧ (parseMethodDescriptor yX12_quarrel.desc).map (fun d => d.parameters.length) = some 4 := by decide +kernel
theorem hd_X12_isSet : yX12_isSet.cls ≠ "java/lang/invoke/MethodHandle" ∧ yX12_isSet.cls ≠ "java/lang/invoke/VarHandle" ∧ (parseMethodDescriptor yX12_isSet.desc).map (fun d => d.parameters.length) = some 1 := by decide +kernel
theorem hd_X12_isQuarrelling : yX12_isQuarrelling.cls ≠ "java/lang/invoke/MethodHandle" ∧ yX12_isQuarrelling.cls ≠ "java/lang/invoke/VarHandle" ∧ (parseMethodDescriptor yX12_isQuarrelling.desc).map (fun d => d.parameters.length) = some 0 := by decide +kernel
theorem hd_X12_isSound : yX12_isSound.cls ≠ "java/lang/invoke/MethodHandle" ∧ yX12_isSound.cls ≠ "java/lang/invoke/VarHandle" ∧ (parseMethodDescriptor yX12_isSound.desc).map (fun d => d.parameters.length) = some 1 := by decide +kernel
theorem hd_X12_riskWith : yX12_riskWith.cls ≠ "java/lang/invoke/MethodHandle" ∧ yX12_riskWith.cls ≠ "java/lang/invoke/VarHandle" ∧ (parseMethodDescriptor yX12_riskWith.desc).map (fun d => d.parameters.length) = some 1 := by decide +kernel
theorem hd_X12_sound : yX12_sound.cls ≠ "java/lang/invoke/MethodHandle" ∧ yX12_sound.cls ≠ "java/lang/invoke/VarHandle" ∧ (parseMethodDescriptor yX12_sound.desc).map (fun d => d.parameters.length) = some 1 := by decide +kernel
theorem hd_X12_gain : yX12_gain.cls ≠ "java/lang/invoke/MethodHandle" ∧ yX12_gain.cls ≠ "java/lang/invoke/VarHandle" ∧ (parseMethodDescriptor yX12_gain.desc).map (fun d => d.parameters.length) = some 2 := by decide +kernel
theorem hd_X12_next : yX12_next.cls ≠ "java/lang/invoke/MethodHandle" ∧ yX12_next.cls ≠ "java/lang/invoke/VarHandle" ∧ (parseMethodDescriptor yX12_next.desc).map (fun d => d.parameters.length) = some 1 := by decide +kernel
theorem hd_X12_mayIn : yX12_mayIn.cls ≠ "java/lang/invoke/MethodHandle" ∧ yX12_mayIn.cls ≠ "java/lang/invoke/VarHandle" ∧ (parseMethodDescriptor yX12_mayIn.desc).map (fun d => d.parameters.length) = some 3 := by decide +kernel
theorem hd_X12_planFrom : yX12_planFrom.cls ≠ "java/lang/invoke/MethodHandle" ∧ yX12_planFrom.cls ≠ "java/lang/invoke/VarHandle" ∧ (parseMethodDescriptor yX12_planFrom.desc).map (fun d => d.parameters.length) = some 4 := by decide +kernel
theorem hd_X12_plan : yX12_plan.cls ≠ "java/lang/invoke/MethodHandle" ∧ yX12_plan.cls ≠ "java/lang/invoke/VarHandle" ∧ (parseMethodDescriptor yX12_plan.desc).map (fun d => d.parameters.length) = some 2 := by decide +kernel
theorem hd_X12_week : yX12_week.cls ≠ "java/lang/invoke/MethodHandle" ∧ yX12_week.cls ≠ "java/lang/invoke/VarHandle" ∧ (parseMethodDescriptor yX12_week.desc).map (fun d => d.parameters.length) = some 1 := by decide +kernel
theorem hd_X12_moved : yX12_moved.cls ≠ "java/lang/invoke/MethodHandle" ∧ yX12_moved.cls ≠ "java/lang/invoke/VarHandle" ∧ (parseMethodDescriptor yX12_moved.desc).map (fun d => d.parameters.length) = some 0 := by decide +kernel
theorem hd_X12_make : yX12_make.cls ≠ "java/lang/invoke/MethodHandle" ∧ yX12_make.cls ≠ "java/lang/invoke/VarHandle" ∧ (parseMethodDescriptor yX12_make.desc).map (fun d => d.parameters.length) = some 1 := by decide +kernel
theorem hd_X12_count : yX12_count.cls ≠ "java/lang/invoke/MethodHandle" ∧ yX12_count.cls ≠ "java/lang/invoke/VarHandle" ∧ (parseMethodDescriptor yX12_count.desc).map (fun d => d.parameters.length) = some 1 := by decide +kernel
theorem hd_J6_bitCount_0f7a4 : yJ6_bitCount_0f7a4.cls ≠ "java/lang/invoke/MethodHandle" ∧ yJ6_bitCount_0f7a4.cls ≠ "java/lang/invoke/VarHandle" ∧ (parseMethodDescriptor yJ6_bitCount_0f7a4.desc).map (fun d => d.parameters.length) = some 1 := by decide +kernel
theorem hd_J9_max_7cf53 : yJ9_max_7cf53.cls ≠ "java/lang/invoke/MethodHandle" ∧ yJ9_max_7cf53.cls ≠ "java/lang/invoke/VarHandle" ∧ (parseMethodDescriptor yJ9_max_7cf53.desc).map (fun d => d.parameters.length) = some 2 := by decide +kernel
theorem hd_J7_fill_53178 : yJ7_fill_53178.cls ≠ "java/lang/invoke/MethodHandle" ∧ yJ7_fill_53178.cls ≠ "java/lang/invoke/VarHandle" ∧ (parseMethodDescriptor yJ7_fill_53178.desc).map (fun d => d.parameters.length) = some 2 := by decide +kernel
/-- the reference's world: the object at q 33, the array of its slot k at q k; N its numbers, R its lasting rows, X those that it reckons in, all by the slots -/
def wM (cy : Nat → ClassId) (q : Nat → Nat) (N : Nat → Nat) (R X : Nat → Nat → Int32) : va_W := [(q 33, .inr (12, [.int (nI (N 0)), .ref (q 1), .ref (q 2), .ref (q 3), .ref (q 4), .ref (q 5), .int (nI (N 6)), .ref (q 7), .ref (q 8), .ref (q 9), .ref (q 10), .ref (q 11), .ref (q 12), .ref (q 13), .ref (q 14), .ref (q 15), .ref (q 16), .int (nI (N 17)), .ref (q 18), .ref (q 19), .ref (q 20), .ref (q 21), .ref (q 22), .ref (q 23), .int (nI (N 24)), .ref (q 25), .ref (q 26), .ref (q 27), .ref (q 28), .ref (q 29), .int (nI (N 30)), .ref (q 31), .ref (q 32)])), (q 1, .inl (cy 0, 8, .inl (R 1))), (q 2, .inl (cy 0, 8, .inl (R 2))), (q 3, .inl (cy 1, 8, .inl (R 3))), (q 4, .inl (cy 1, 8, .inl (R 4))), (q 5, .inl (cy 1, 64, .inl (R 5))), (q 7, .inl (cy 0, 12, .inl (R 7))), (q 8, .inl (cy 0, 12, .inl (R 8))), (q 9, .inl (cy 0, 12, .inl (R 9))), (q 10, .inl (cy 0, 12, .inl (R 10))), (q 11, .inl (cy 0, 12, .inl (R 11))), (q 12, .inl (cy 1, 12, .inl (R 12))), (q 13, .inl (cy 0, 8, .inl (X 13))), (q 14, .inl (cy 0, 8, .inl (X 14))), (q 15, .inl (cy 0, 8, .inl (X 15))), (q 16, .inl (cy 0, 8, .inl (X 16))), (q 18, .inl (cy 0, 8, .inl (R 18))), (q 19, .inl (cy 0, 8, .inl (R 19))), (q 20, .inl (cy 0, 8, .inl (R 20))), (q 21, .inl (cy 0, 8, .inl (R 21))), (q 22, .inl (cy 0, 8, .inl (R 22))), (q 23, .inl (cy 0, 8, .inl (R 23))), (q 25, .inl (cy 0, 32, .inl (R 25))), (q 26, .inl (cy 0, 256, .inl (X 26))), (q 27, .inl (cy 1, 256, .inl (X 27))), (q 28, .inl (cy 0, 1792, .inl (X 28))), (q 29, .inl (cy 0, 1792, .inl (X 29))), (q 31, .inl (cy 0, 8, .inl (R 31))), (q 32, .inl (cy 0, 8, .inl (R 32)))]
/-! what the rows that a program lays use -/
def bI (b : Bool) : Int32 := if b then 1 else 0
theorem bI_f {b : Bool} (h : bI b = 0) : b = false := by cases b; rfl; exact absurd h (by decide)
theorem bI_t {b : Bool} (h : ¬ bI b = 0) : b = true := by cases b; exact absurd rfl h; rfl
theorem bI_01 (b : Bool) : bI b = 0 ∨ bI b = 1 := by cases b; exact Or.inl rfl; exact Or.inr rfl
theorem bI_T {b : Bool} (h : b = true) : 1 = bI b := by rw [h]; rfl
theorem bI_F {b : Bool} (h : b = false) : 0 = bI b := by rw [h]; rfl
theorem nI_ceqT {a b : Nat} (ha : a < 2147483648) (hb : b < 2147483648) (h : nI a = nI b) : a = b := (nI_eq ha hb).mp h
theorem nI_ceqF {a b : Nat} (_ : a < 2147483648) (_ : b < 2147483648) (h : ¬ nI a = nI b) : ¬ a = b := fun q => h (by rw [q])
theorem nI_cneT {a b : Nat} (_ : a < 2147483648) (_ : b < 2147483648) (h : ¬ nI a = nI b) : ¬ a = b := fun q => h (by rw [q])
theorem nI_cneF {a b : Nat} (ha : a < 2147483648) (hb : b < 2147483648) (h : nI a = nI b) : a = b := (nI_eq ha hb).mp h
theorem nI_cleT {a b : Nat} (ha : a < 2147483648) (hb : b < 2147483648) (h : nI a ≤ nI b) : a ≤ b := (nI_leI ha hb).mp h
theorem nI_cleF {a b : Nat} (ha : a < 2147483648) (hb : b < 2147483648) (h : ¬ nI a ≤ nI b) : ¬ a ≤ b := fun q => h ((nI_leI ha hb).mpr q)
theorem nI_cltT {a b : Nat} (ha : a < 2147483648) (hb : b < 2147483648) (h : nI a < nI b) : a < b := (nI_ltI ha hb).mp h
theorem nI_cltF {a b : Nat} (ha : a < 2147483648) (hb : b < 2147483648) (h : ¬ nI a < nI b) : ¬ a < b := fun q => h ((nI_ltI ha hb).mpr q)
theorem nI_cgtT {a b : Nat} (ha : a < 2147483648) (hb : b < 2147483648) (h : nI b < nI a) : b < a := (nI_ltI hb ha).mp h
theorem nI_cgtF {a b : Nat} (ha : a < 2147483648) (hb : b < 2147483648) (h : ¬ nI b < nI a) : ¬ b < a := fun q => h ((nI_ltI hb ha).mpr q)
theorem nI_cgeT {a b : Nat} (ha : a < 2147483648) (hb : b < 2147483648) (h : nI b ≤ nI a) : b ≤ a := (nI_leI hb ha).mp h
theorem nI_cgeF {a b : Nat} (ha : a < 2147483648) (hb : b < 2147483648) (h : ¬ nI b ≤ nI a) : ¬ b ≤ a := fun q => h ((nI_leI hb ha).mpr q)
theorem nI_zeqT {a : Nat} (ha : a < 2147483648) (h : nI a = 0) : a = 0 := by
  rcases Nat.eq_zero_or_pos a with q | q
  · exact q
  · exact absurd h (nI_ne0 q ha)
theorem nI_zeqF {a : Nat} (_ : a < 2147483648) (h : ¬ nI a = 0) : ¬ a = 0 := fun q => h (by rw [q]; rfl)
theorem nI_zneT {a : Nat} (ha : a < 2147483648) (h : ¬ nI a = 0) : ¬ a = 0 := nI_zeqF ha h
theorem nI_zneF {a : Nat} (ha : a < 2147483648) (h : nI a = 0) : a = 0 := nI_zeqT ha h
theorem nI_zleT {a : Nat} (ha : a < 2147483648) (h : nI a ≤ 0) : a = 0 := by
  rcases Nat.eq_zero_or_pos a with q | q
  · exact q
  · exact absurd h (nI_nle q ha)
theorem nI_zleF {a : Nat} (ha : a < 2147483648) (h : ¬ nI a ≤ 0) : 0 < a := by
  rcases Nat.eq_zero_or_pos a with q | q
  · subst q; exact absurd (by decide) h
  · exact q
theorem nI_zgtT {a : Nat} (ha : a < 2147483648) (h : 0 < nI a) : 0 < a := by
  rcases Nat.eq_zero_or_pos a with q | q
  · subst q; exact absurd h (by decide)
  · exact q
theorem nI_zgtF {a : Nat} (ha : a < 2147483648) (h : ¬ 0 < nI a) : a = 0 := by
  rcases Nat.eq_zero_or_pos a with q | q
  · exact q
  · exact absurd (nI_lt (a := 0) q ha) h
/-- the cases of a switch over 0 .. n - 1 -/
theorem sw_5 (x : Int32) : x = 0 ∨ x = 1 ∨ x = 2 ∨ x = 3 ∨ x = 4 ∨ ((¬ x = 0 ∧ ¬ x = 1 ∧ ¬ x = 2 ∧ ¬ x = 3 ∧ ¬ x = 4) ∧ (x.toInt < 0 ∨ 4 < x.toInt)) := by
  by_cases h0 : x = 0; · exact Or.inl h0
  by_cases h1 : x = 1; · exact Or.inr (Or.inl h1)
  by_cases h2 : x = 2; · exact Or.inr (Or.inr (Or.inl h2))
  by_cases h3 : x = 3; · exact Or.inr (Or.inr (Or.inr (Or.inl h3)))
  by_cases h4 : x = 4; · exact Or.inr (Or.inr (Or.inr (Or.inr (Or.inl h4))))
  refine Or.inr (Or.inr (Or.inr (Or.inr (Or.inr ⟨⟨h0, h1, h2, h3, h4⟩, ?_⟩))))
  have a0 : x.toInt ≠ 0 := fun q => h0 (Int32.toInt_inj.mp q)
  have a1 : x.toInt ≠ 1 := fun q => h1 (Int32.toInt_inj.mp q)
  have a2 : x.toInt ≠ 2 := fun q => h2 (Int32.toInt_inj.mp q)
  have a3 : x.toInt ≠ 3 := fun q => h3 (Int32.toInt_inj.mp q)
  have a4 : x.toInt ≠ 4 := fun q => h4 (Int32.toInt_inj.mp q)
  omega
theorem sw_6 (x : Int32) : x = 0 ∨ x = 1 ∨ x = 2 ∨ x = 3 ∨ x = 4 ∨ x = 5 ∨ ((¬ x = 0 ∧ ¬ x = 1 ∧ ¬ x = 2 ∧ ¬ x = 3 ∧ ¬ x = 4 ∧ ¬ x = 5) ∧ (x.toInt < 0 ∨ 5 < x.toInt)) := by
  rcases sw_5 x with h | h | h | h | h | ⟨⟨h0, h1, h2, h3, h4⟩, h⟩
  · exact Or.inl h
  · exact Or.inr (Or.inl h)
  · exact Or.inr (Or.inr (Or.inl h))
  · exact Or.inr (Or.inr (Or.inr (Or.inl h)))
  · exact Or.inr (Or.inr (Or.inr (Or.inr (Or.inl h))))
  · by_cases h5 : x = 5
    · exact Or.inr (Or.inr (Or.inr (Or.inr (Or.inr (Or.inl h5)))))
    · refine Or.inr (Or.inr (Or.inr (Or.inr (Or.inr (Or.inr ⟨⟨h0, h1, h2, h3, h4, h5⟩, ?_⟩)))))
      have a5 : x.toInt ≠ 5 := fun q => h5 (Int32.toInt_inj.mp q)
      omega
section ROWS2
variable {α : Type} {p : Program} {l : Launch} {e : Env} {R : Room} {s : State} {m : MethodId} {args : Array Value} {below : List Frame} {meth : Method} {c : Code} {H : Heap} {locs : List Loc} {cells slots mc ms : Nat} {Q : State → Prop}
variable {cc : ByteArray} {nL pc : Nat} {ls : Array Slot} {rest st : List Value} {D : va_G} {cy : Nat → ClassId} {A : Nat → Prop} {Ts : List Cond} {own : String} {ws : va_W} {post : Option Value → α → Prop} {w1 : α → va_W} {u : α}
theorem tI {x y : Int32} (h : x = y) (k : W p l e R s m args below meth c H locs cells slots Q (F0 m pc ls (.int y :: rest))) : W p l e R s m args below meth c H locs cells slots Q (F0 m pc ls (.int x :: rest)) := by rw [h]; exact k
end ROWS2
theorem MS.mk2 {α : Type} {l : Launch} {D : va_G} {cy : Nat → ClassId} {y : MethodName} {b : ByteArray} {n : Nat} {r : Option FieldType} {rm : Room} {av : List Value} {w0 : va_W} {post : Option Value → α → Prop} {w1 : α → va_W} (hy : plainName y.cls = true) (hlen : (lg_sl av).length ≤ n) (lv : List (Nat × Value)) (hlv : lv_args 0 av = lv)
    (body : ∀ (p : Program) (e : Env) (s : State) (m : MethodId) (args : Array Value) (below : List Frame) (meth : Method) (c : Code) (A : Nat → Prop) (ls : Array Slot) (Q : State → Prop), Q = MQ below (QS D A post w1) args s rm.cells rm.slots A → CallFix p m c b n s args (wsu y b n r) y.cls → meth.sig.returnType = r → meth.locks = false → meth.name = y.name → KX D cy s → (∀ q, s.heap.size ≤ q → A q) → IX D A s.heap w0 s.heap [] → lv_has ls n lv →
      W p l e rm s m args below meth c s.heap [] 0 0 Q (F0 m 0 ls [])) : MS l D cy y b n r rm av w0 post w1 :=
  MS.mk hy hlen lv hlv (fun p e s m below meth c A ls S h1 h2 h3 hK hA I hl => body p e s m _ below meth c A ls _ rfl S h1 h2 h3 hK hA I hl)
section ENDS2
variable {α : Type} {p : Program} {l : Launch} {e : Env} {R : Room} {s : State} {m : MethodId} {args : Array Value} {below : List Frame} {meth : Method} {c : Code} {H : Heap} {locs : List Loc} {cells slots mc ms : Nat} {Q : State → Prop}
variable {cc : ByteArray} {nL pc : Nat} {ls : Array Slot} {rest st : List Value} {D : va_G} {cy : Nat → ClassId} {A : Nat → Prop} {Ts : List Cond} {own : String} {ws : va_W} {post : Option Value → α → Prop} {w1 : α → va_W} {u : α}
theorem ru_i {v : Int32} (hQ : Q = MQ below (QS D A post w1) args s mc ms A) (S : CallFix p m c cc nL s args Ts own) (hr : meth.sig.returnType = some .int) (hlk : meth.locks = false) {u : α} (I : IX D A s.heap (w1 u) H locs) (hp : post (some (.int v)) u) (hdg : decode cc pc = .ok (.ireturn, 1)) (hc : cells ≤ mc := by exact Nat.le_of_ble_eq_true rfl) (hs : slots ≤ ms := by exact Nat.le_of_ble_eq_true rfl) : W p l e R s m args below meth c H locs cells slots Q (F0 m pc ls [.int v]) := by
  subst hQ; exact rt_i S hr hlk I hp hdg hc hs
theorem ru_z {v : Int32} (hQ : Q = MQ below (QS D A post w1) args s mc ms A) (S : CallFix p m c cc nL s args Ts own) (hr : meth.sig.returnType = some .boolean) (hlk : meth.locks = false) (hz : v = 0 ∨ v = 1) {u : α} (I : IX D A s.heap (w1 u) H locs) (hp : post (some (.int v)) u) (hdg : decode cc pc = .ok (.ireturn, 1)) (hc : cells ≤ mc := by exact Nat.le_of_ble_eq_true rfl) (hs : slots ≤ ms := by exact Nat.le_of_ble_eq_true rfl) : W p l e R s m args below meth c H locs cells slots Q (F0 m pc ls [.int v]) := by
  subst hQ; exact rt_z S hr hlk hz I hp hdg hc hs
theorem ru_v (hQ : Q = MQ below (QS D A post w1) args s mc ms A) (S : CallFix p m c cc nL s args Ts own) (hr : meth.sig.returnType = none) (hlk : meth.locks = false) {u : α} (I : IX D A s.heap (w1 u) H locs) (hp : post none u) (hdg : decode cc pc = .ok (.return_, 1)) (hc : cells ≤ mc := by exact Nat.le_of_ble_eq_true rfl) (hs : slots ≤ ms := by exact Nat.le_of_ble_eq_true rfl) : W p l e R s m args below meth c H locs cells slots Q (F0 m pc ls []) := by
  subst hQ; exact rt_v S hr hlk I hp hdg hc hs
theorem ru_a {v : Option Nat} {C : String} (hQ : Q = MQ below (QS D A post w1) args s mc ms A) (S : CallFix p m c cc nL s args Ts own) (hr : meth.sig.returnType = some (.object C)) (hlk : meth.locks = false) {u : α} (I : IX D A s.heap (w1 u) H locs) (hp : post (some (va_rf v)) u) (hdg : decode cc pc = .ok (.areturn, 1)) (hc : cells ≤ mc := by exact Nat.le_of_ble_eq_true rfl) (hs : slots ≤ ms := by exact Nat.le_of_ble_eq_true rfl) : W p l e R s m args below meth c H locs cells slots Q (F0 m pc ls [va_rf v]) := by
  subst hQ; exact rt_a S hr hlk I hp hdg hc hs
end ENDS2
end
section
/-! plain facts on numbers and arrays, to paste: each family by itself; over the kit's rows on nI and upd -/
/-! ===== order of ints, in all its forms, and through longs ===== -/
theorem fa_lt (a b : Int32) : a < b ↔ a.toInt < b.toInt := Int32.lt_iff_toInt_lt
theorem fa_le (a b : Int32) : a ≤ b ↔ a.toInt ≤ b.toInt := Int32.le_iff_toInt_le
theorem fa_eq (a b : Int32) : a = b ↔ a.toInt = b.toInt := Int32.toInt_inj.symm
theorem fa_lt64 (a b : Int64) : a < b ↔ a.toInt < b.toInt := Int64.lt_iff_toInt_lt
theorem fa_le64 (a b : Int64) : a ≤ b ↔ a.toInt ≤ b.toInt := Int64.le_iff_toInt_le
theorem fa_eq64 (a b : Int64) : a = b ↔ a.toInt = b.toInt := Int64.toInt_inj.symm
/-- a comparison of two ints taken as longs -/
theorem fa_wide_lt (a b : Int32) : a.toInt64 < b.toInt64 ↔ a < b := by rw [fa_lt64, fa_lt, Int32.toInt_toInt64, Int32.toInt_toInt64]
theorem fa_wide_le (a b : Int32) : a.toInt64 ≤ b.toInt64 ↔ a ≤ b := by rw [fa_le64, fa_le, Int32.toInt_toInt64, Int32.toInt_toInt64]
theorem fa_wide_eq (a b : Int32) : a.toInt64 = b.toInt64 ↔ a = b := by rw [fa_eq64, fa_eq, Int32.toInt_toInt64, Int32.toInt_toInt64]
/-- one strict comparison gives all the others -/
theorem fa_of_lt {a b : Int32} (h : a < b) : a ≤ b ∧ ¬ b ≤ a ∧ ¬ b < a ∧ a ≠ b ∧ b ≠ a := by
  rw [fa_lt] at h
  refine ⟨?_, ?_, ?_, ?_, ?_⟩
  · rw [fa_le]; omega
  · rw [fa_le]; omega
  · rw [fa_lt]; omega
  · intro e; rw [fa_eq] at e; omega
  · intro e; rw [fa_eq] at e; omega
theorem fa_of_nlt {a b : Int32} (h : ¬ a < b) : b ≤ a := by
  rw [fa_lt] at h
  rw [fa_le]
  omega
theorem fa_of_nle {a b : Int32} (h : ¬ a ≤ b) : b < a := by
  rw [fa_le] at h
  rw [fa_lt]
  omega
theorem fa_le_ne {a b : Int32} (h : a ≤ b) (h2 : a ≠ b) : a < b := by
  rw [fa_le] at h
  rw [fa_lt]
  have h3 : a.toInt ≠ b.toInt := fun e => h2 ((fa_eq a b).mpr e)
  omega
theorem fa_three (a b : Int32) : a < b ∨ a = b ∨ b < a := by
  rw [fa_lt, fa_lt, fa_eq]
  omega
theorem fa_trans {a b c : Int32} (h : a < b) (h2 : b ≤ c) : a < c := by
  rw [fa_lt] at *
  rw [fa_le] at h2
  omega
/-! ===== small literals as numbers ===== -/
theorem fa_lit (n : Nat) : (OfNat.ofNat n : Int32) = nI n := rfl
theorem fa_litL (n : Nat) : (OfNat.ofNat n : Int64) = lN n := rfl
/-! ===== bits of a number: 'or', masks, one bit ===== -/
theorem fa_and (a b : Nat) : nI a &&& nI b = nI (a &&& b) := by
  apply Int32.toBitVec_inj.1
  show BitVec.ofNat 32 a &&& BitVec.ofNat 32 b = BitVec.ofNat 32 (a &&& b)
  apply BitVec.eq_of_getLsbD_eq
  intro i hi
  simp [hi]
theorem fa_or (a b : Nat) : nI a ||| nI b = nI (a ||| b) := by
  apply Int32.toBitVec_inj.1
  show BitVec.ofNat 32 a ||| BitVec.ofNat 32 b = BitVec.ofNat 32 (a ||| b)
  apply BitVec.eq_of_getLsbD_eq
  intro i hi
  simp [hi]
/-- a remainder by a power of two, as a mask -/
theorem fa_mask (n k : Nat) : nI n &&& nI (2 ^ k - 1) = nI (n % 2 ^ k) := by rw [fa_and, Nat.and_two_pow_sub_one_eq_mod]
/-- 'or' of a high part and a low one that don't meet is their sum -/
theorem fa_or_sum {a k : Nat} (b : Nat) (h : a < 2 ^ k) : nI (2 ^ k * b) ||| nI a = nI (2 ^ k * b + a) := by rw [fa_or, Nat.two_pow_add_eq_or_of_lt h]
/-- one bit, by 'and' with a power of two -/
theorem fa_bit {n j : Nat} (hj : j < 31) : nI n &&& nI (2 ^ j) = 0 ↔ n.testBit j = false := by
  have h2 : (2 : Nat) ^ j < 2 ^ 31 := Nat.pow_lt_pow_right (by decide) hj
  have hle : n &&& 2 ^ j ≤ 2 ^ j := Nat.and_le_right
  have e : n &&& 2 ^ j = 0 ↔ n.testBit j = false := by
    constructor
    · intro h
      have h1 : (n &&& 2 ^ j).testBit j = false := by rw [h]; simp
      rw [Nat.testBit_and] at h1
      first | simpa using h1 | simpa [Nat.testBit_two_pow_self] using h1 | simpa [Nat.testBit_two_pow] using h1
    · intro h
      apply Nat.eq_of_testBit_eq
      intro i
      rw [Nat.testBit_and]
      by_cases hi : j = i
      · subst hi; simp [h]
      · first | (simp [Nat.testBit_two_pow, hi]; done) | (simp [Nat.testBit_two_pow_of_ne hi]; done)
  rw [fa_and]
  constructor
  · intro h
    apply e.mp
    rcases Nat.eq_zero_or_pos (n &&& 2 ^ j) with z | z
    · exact z
    · exact absurd h (nI_ne0 z (Nat.lt_of_le_of_lt hle h2))
  · intro h
    rw [e.mpr h]; exact nI_0
/-- a remainder by a power of two of a number that isn't negative, as Java divides -/
theorem fa_rem {a k : Nat} (ha : a < 2 ^ 31) (hk : k < 31) : nI a - nI a / nI (2 ^ k) * nI (2 ^ k) = nI (a % 2 ^ k) := pk_rem ha (Nat.two_pow_pos k) (Nat.pow_lt_pow_right (by decide) hk)
/-! ===== cuts to a byte, a short ===== -/
theorem fa_byte_xor (x y : Int32) : (x ^^^ y).toInt8 = x.toInt8 ^^^ y.toInt8 := by
  apply Int8.toBitVec_inj.1
  apply BitVec.eq_of_getLsbD_eq
  intro i hi
  first | (simp [hi]; done) | (simp [hi, BitVec.getLsbD_setWidth, BitVec.getLsbD_signExtend]; done)
theorem fa_short_xor (x y : Int32) : (x ^^^ y).toInt16 = x.toInt16 ^^^ y.toInt16 := by
  apply Int16.toBitVec_inj.1
  apply BitVec.eq_of_getLsbD_eq
  intro i hi
  first | (simp [hi]; done) | (simp [hi, BitVec.getLsbD_setWidth, BitVec.getLsbD_signExtend]; done)
/-- the cut to a byte sees the low byte alone -/
theorem fa_byte_low (x : Int32) : (x &&& 255).toInt8 = x.toInt8 := by
  apply Int8.toBitVec_inj.1
  apply BitVec.eq_of_getLsbD_eq
  intro i hi
  have h2 : (255 : Int32).toBitVec.getLsbD i = true := by
    have : ∀ j : Fin 8, (255 : Int32).toBitVec.getLsbD j.val = true := by decide +kernel
    exact this ⟨i, hi⟩
  have h4 : (x &&& 255).toBitVec.getLsbD i = x.toBitVec.getLsbD i := by
    show (x.toBitVec &&& (255 : Int32).toBitVec).getLsbD i = _
    rw [BitVec.getLsbD_and, h2, Bool.and_true]
  have h3 : i < 32 := by omega
  first
    | (show (((x &&& 255).toBitVec).signExtend 8).getLsbD i = (x.toBitVec.signExtend 8).getLsbD i; rw [BitVec.getLsbD_signExtend, BitVec.getLsbD_signExtend, if_pos h3, if_pos h3, h4])
    | (show (((x &&& 255).toBitVec).setWidth 8).getLsbD i = (x.toBitVec.setWidth 8).getLsbD i; rw [BitVec.getLsbD_setWidth, BitVec.getLsbD_setWidth, h4])
    | (simp [hi, h3, h4]; done)
theorem fa_short_low (x : Int32) : (x &&& 65535).toInt16 = x.toInt16 := by
  apply Int16.toBitVec_inj.1
  apply BitVec.eq_of_getLsbD_eq
  intro i hi
  have h2 : (65535 : Int32).toBitVec.getLsbD i = true := by
    have : ∀ j : Fin 16, (65535 : Int32).toBitVec.getLsbD j.val = true := by decide +kernel
    exact this ⟨i, hi⟩
  have h4 : (x &&& 65535).toBitVec.getLsbD i = x.toBitVec.getLsbD i := by
    show (x.toBitVec &&& (65535 : Int32).toBitVec).getLsbD i = _
    rw [BitVec.getLsbD_and, h2, Bool.and_true]
  have h3 : i < 32 := by omega
  first
    | (show (((x &&& 65535).toBitVec).signExtend 16).getLsbD i = (x.toBitVec.signExtend 16).getLsbD i; rw [BitVec.getLsbD_signExtend, BitVec.getLsbD_signExtend, if_pos h3, if_pos h3, h4])
    | (show (((x &&& 65535).toBitVec).setWidth 16).getLsbD i = (x.toBitVec.setWidth 16).getLsbD i; rw [BitVec.getLsbD_setWidth, BitVec.getLsbD_setWidth, h4])
    | (simp [hi, h3, h4]; done)
/-- a small number is its own byte, its own short -/
theorem fa_byte_small {n : Nat} (h : n < 128) : (nI n).toInt8.toInt32 = nI n := by
  have : ∀ j : Fin 128, (nI j.val).toInt8.toInt32 = nI j.val := by decide +kernel
  exact this ⟨n, h⟩
/-! ===== absolute difference ===== -/
theorem fa_absdiff {a b : Nat} (ha : a < 2 ^ 31) (hb : b < 2 ^ 31) : (if nI a < nI b then nI b - nI a else nI a - nI b) = nI (if a < b then b - a else a - b) := by
  by_cases h : a < b
  · rw [if_pos (nI_lt h hb), if_pos h]
    exact pk_sub (Nat.le_of_lt h)
  · rw [if_neg (nI_nlt (Nat.le_of_not_lt h) ha), if_neg h]
    exact pk_sub (Nat.le_of_not_lt h)
/-! ===== an array behind i stores, a conditional store, a row copied ===== -/
/-- f where k < i, what stood there else -/
def fa_fill {α : Type} (f g : Nat → α) (i : Nat) : Nat → α := fun k => if k < i then f k else g k
theorem fa_fill_0 {α : Type} (f g : Nat → α) : fa_fill f g 0 = g := funext fun k => if_neg (Nat.not_lt_zero k)
theorem fa_fill_in {α : Type} {f g : Nat → α} {i k : Nat} (h : k < i) : fa_fill f g i k = f k := if_pos h
theorem fa_fill_out {α : Type} {f g : Nat → α} {i k : Nat} (h : i ≤ k) : fa_fill f g i k = g k := if_neg (Nat.not_lt.mpr h)
theorem fa_fill_succ (f g : Nat → Int32) (i : Nat) : upd (fa_fill f g i) i (f i) = fa_fill f g (i + 1) := by
  funext k
  by_cases e : k = i
  · subst e
    rw [pk_us]
    exact (if_pos (Nat.lt_succ_self k)).symm
  · rw [pk_un e]
    by_cases h : k < i
    · rw [fa_fill_in h, fa_fill_in (Nat.lt_succ_of_lt h)]
    · rw [fa_fill_out (Nat.le_of_not_lt h), fa_fill_out (by omega)]
/-- a store that changes nothing -/
theorem fa_upd_same {f : Nat → Int32} {i : Nat} {x : Int32} (h : f i = x) : upd f i x = f := by
  funext k
  by_cases e : k = i
  · subst e
    rw [pk_us, h]
  · rw [pk_un e]
/-- a store under a condition, told as one -/
theorem fa_upd_if (c : Prop) [Decidable c] (f : Nat → Int32) (i : Nat) (x : Int32) : (if c then upd f i x else f) = upd f i (if c then x else f i) := by
  by_cases h : c
  · rw [if_pos h, if_pos h]
  · rw [if_neg h, if_neg h, fa_upd_same rfl]
/-- two stores at one place, at two -/
theorem fa_upd_twice (f : Nat → Int32) (i : Nat) (x y : Int32) : upd (upd f i x) i y = upd f i y := by
  funext k
  by_cases e : k = i
  · subst e
    rw [pk_us, pk_us]
  · rw [pk_un e, pk_un e, pk_un e]
theorem fa_upd_swap (f : Nat → Int32) {i j : Nat} (h : i ≠ j) (x y : Int32) : upd (upd f i x) j y = upd (upd f j y) i x := by
  funext k
  by_cases e : k = i
  · subst e
    rw [pk_un h, pk_us, pk_us]
  · by_cases e2 : k = j
    · subst e2
      rw [pk_us, pk_un e, pk_us]
    · rw [pk_un e2, pk_un e, pk_un e, pk_un e2]
/-! ===== the first index with a property; a count ===== -/
/-- the first k < n with p k, n if there is none -/
def fa_first (p : Nat → Bool) : Nat → Nat
  | 0 => 0
  | n + 1 => if fa_first p n < n then fa_first p n else if p n then n else n + 1
theorem fa_first_le (p : Nat → Bool) : ∀ n, fa_first p n ≤ n
  | 0 => Nat.le_refl 0
  | n + 1 => by
    have ih := fa_first_le p n
    unfold fa_first
    split
    · omega
    · split
      · omega
      · omega
theorem fa_first_no (p : Nat → Bool) : ∀ n k, k < fa_first p n → p k = false
  | 0, k, h => absurd h (Nat.not_lt_zero k)
  | n + 1, k, h => by
    have ih := fa_first_no p n
    have hl := fa_first_le p n
    unfold fa_first at h
    split at h
    · exact ih k h
    · rename_i h1
      split at h
      · exact ih k (by omega)
      · rename_i h2
        by_cases e : k = n
        · subst e
          exact Bool.eq_false_iff.mpr h2
        · exact ih k (by omega)
theorem fa_first_yes (p : Nat → Bool) : ∀ n, fa_first p n < n → p (fa_first p n) = true
  | 0, h => absurd h (Nat.not_lt_zero _)
  | n + 1, h => by
    have ih := fa_first_yes p n
    have hl := fa_first_le p n
    unfold fa_first at h ⊢
    split at h
    · rename_i h1
      rw [if_pos h1]
      exact ih h1
    · rename_i h1
      rw [if_neg h1]
      split at h
      · rename_i h2
        rw [if_pos h2]
        exact h2
      · omega
/-- how many k < n have p k -/
def fa_cnt (p : Nat → Bool) : Nat → Nat
  | 0 => 0
  | n + 1 => fa_cnt p n + if p n then 1 else 0
theorem fa_cnt_le (p : Nat → Bool) : ∀ n, fa_cnt p n ≤ n
  | 0 => Nat.le_refl 0
  | n + 1 => by
    have ih := fa_cnt_le p n
    unfold fa_cnt
    split
    · omega
    · omega
theorem fa_cnt_yes {p : Nat → Bool} {n : Nat} (h : p n = true) : fa_cnt p (n + 1) = fa_cnt p n + 1 := by rw [fa_cnt, if_pos h]
theorem fa_cnt_no {p : Nat → Bool} {n : Nat} (h : p n = false) : fa_cnt p (n + 1) = fa_cnt p n := by rw [fa_cnt, if_neg (by rw [h]; decide)]; rfl
theorem fa_cnt_cong {p q : Nat → Bool} : ∀ {n : Nat}, (∀ k, k < n → p k = q k) → fa_cnt p n = fa_cnt q n
  | 0, _ => rfl
  | n + 1, h => by rw [fa_cnt, fa_cnt, fa_cnt_cong (fun k hk => h k (Nat.lt_succ_of_lt hk)), h n (Nat.lt_succ_self n)]
/-! ===== an answer carried into a post; a branch on a boolean answer ===== -/
theorem fa_post {α : Type} {P : α → Prop} {x y : α} (h : x = y) (hp : P y) : P x := h ▸ hp
theorem fa_post2 {α β : Type} {P : α → β → Prop} {x y : α} {u v : β} (h : x = y) (h2 : u = v) (hp : P y v) : P x u := h ▸ h2 ▸ hp
theorem fa_bool {r : Int32} {b : Bool} (h : r = if b then 1 else 0) : (r = 0 ↔ b = false) ∧ (¬ r = 0 ↔ b = true) := by
  subst h
  cases b
  · exact ⟨⟨fun _ => rfl, fun _ => rfl⟩, ⟨fun h => absurd rfl h, fun h => absurd h (by decide)⟩⟩
  · exact ⟨⟨fun h => absurd h (by decide), fun h => absurd h (by decide)⟩, ⟨fun _ => rfl, fun _ => by decide⟩⟩
/-- a boolean's narrowing changes nothing -/
theorem fa_bool_and {r : Int32} (h : r = 0 ∨ r = 1) : r &&& 1 = r := by
  rcases h with rfl | rfl
  · decide
  · decide
theorem fa_bool_prop {c : Prop} [Decidable c] {r : Int32} (h : r = if c then 1 else 0) : (r = 0 ↔ ¬ c) ∧ (¬ r = 0 ↔ c) := by
  subst h
  by_cases hc : c
  · rw [if_pos hc]
    exact ⟨⟨fun h => absurd h (by decide), fun h => absurd hc h⟩, ⟨fun _ => hc, fun _ => by decide⟩⟩
  · rw [if_neg hc]
    exact ⟨⟨fun _ => hc, fun _ => rfl⟩, ⟨fun h => absurd rfl h, fun h => absurd h hc⟩⟩
end
section
/-! plain facts to paste, each family by itself; over the kit's nI, lN and upd -/
/-! ===== drawers: more things than places ===== -/
theorem fb_holes : ∀ (m n : Nat) (f : Nat → Nat), (∀ i, i < n → f i < m) → (∀ i j, i < j → j < n → f i ≠ f j) → n ≤ m := by
  intro m
  induction m with
  | zero =>
    intro n f h1 _
    rcases Nat.eq_zero_or_pos n with h | h
    · omega
    · exact absurd (h1 0 h) (Nat.not_lt_zero _)
  | succ m ih =>
    intro n f h1 h2
    by_cases hx : ∃ i, i < n ∧ f i = m
    · obtain ⟨a, ha, hfa⟩ := hx
      have hg := ih (n - 1) (fun i => if i < a then f i else f (i + 1)) (by
        intro i hi
        by_cases q : i < a
        · simp only [if_pos q]
          have b1 := h1 i (by omega)
          have b2 := h2 i a q ha
          omega
        · simp only [if_neg q]
          have b1 := h1 (i + 1) (by omega)
          have b2 := h2 a (i + 1) (by omega) (by omega)
          omega) (by
        intro i j hij hj
        by_cases q : i < a
        · by_cases r : j < a
          · simp only [if_pos q, if_pos r]
            exact h2 i j hij (by omega)
          · simp only [if_pos q, if_neg r]
            exact h2 i (j + 1) (by omega) (by omega)
        · have r : ¬ j < a := by omega
          simp only [if_neg q, if_neg r]
          exact h2 (i + 1) (j + 1) (by omega) (by omega))
      omega
    · have hg := ih n f (fun i hi => by
        have b1 := h1 i hi
        have b2 : f i ≠ m := fun e => hx ⟨i, hi, e⟩
        omega) h2
      omega
/-- two of them in one place -/
theorem fb_twice {m n : Nat} {f : Nat → Nat} (h : ∀ i, i < n → f i < m) (hm : m < n) : ∃ i j, i < j ∧ j < n ∧ f i = f j := by
  refine Classical.byContradiction fun hx => ?_
  have := fb_holes m n f h (fun i j hij hj e => hx ⟨i, j, hij, hj, e⟩)
  omega
/-- as many as places, none twice: each place is taken -/
theorem fb_onto {n : Nat} {f : Nat → Nat} (h : ∀ i, i < n → f i < n) (h2 : ∀ i j, i < j → j < n → f i ≠ f j) {y : Nat} (hy : y < n) : ∃ i, i < n ∧ f i = y := by
  refine Classical.byContradiction fun hx => ?_
  have hne : ∀ i, i < n → f i ≠ y := fun i hi e => hx ⟨i, hi, e⟩
  have := fb_holes (n - 1) n (fun i => if f i < y then f i else f i - 1) (by
    intro i hi
    have b1 := h i hi
    have b2 := hne i hi
    by_cases q : f i < y
    · simp only [if_pos q]; omega
    · simp only [if_neg q]; omega) (by
    intro i j hij hj
    have b1 := hne i (by omega)
    have b2 := hne j hj
    have b3 := h2 i j hij hj
    by_cases q : f i < y
    · by_cases r : f j < y
      · simp only [if_pos q, if_pos r]; exact b3
      · simp only [if_pos q, if_neg r]; omega
    · by_cases r : f j < y
      · simp only [if_neg q, if_pos r]; omega
      · simp only [if_neg q, if_neg r]; omega)
  omega
/-! ===== how many places have a property ===== -/
def fb_ct (p : Nat → Bool) : Nat → Nat
  | 0 => 0
  | n + 1 => fb_ct p n + (if p n then 1 else 0)
theorem fb_ct_succ (p : Nat → Bool) (n : Nat) : fb_ct p (n + 1) = fb_ct p n + (if p n then 1 else 0) := rfl
theorem fb_ct_le (p : Nat → Bool) : ∀ n, fb_ct p n ≤ n
  | 0 => Nat.le_refl _
  | n + 1 => by
    have h := fb_ct_le p n
    rw [fb_ct_succ]
    split <;> omega
theorem fb_ct_step (p : Nat → Bool) (m : Nat) : ∀ n, fb_ct p m ≤ fb_ct p (m + n)
  | 0 => Nat.le_refl _
  | n + 1 => by
    have h := fb_ct_step p m n
    show fb_ct p m ≤ fb_ct p (m + n + 1)
    rw [fb_ct_succ]
    omega
theorem fb_ct_mono (p : Nat → Bool) {m n : Nat} (h : m ≤ n) : fb_ct p m ≤ fb_ct p n := by
  have := fb_ct_step p m (n - m)
  rwa [Nat.add_sub_cancel' h] at this
theorem fb_ct_cong {p q : Nat → Bool} : ∀ {n : Nat}, (∀ k, k < n → p k = q k) → fb_ct p n = fb_ct q n
  | 0, _ => rfl
  | n + 1, h => by
    rw [fb_ct_succ, fb_ct_succ, fb_ct_cong (fun k hk => h k (by omega)), h n (by omega)]
/-- one place changed -/
theorem fb_ct_out (p : Nat → Bool) (b : Bool) {i n : Nat} (h : n ≤ i) : fb_ct (fun k => if k = i then b else p k) n = fb_ct p n :=
  fb_ct_cong fun k hk => if_neg (by omega)
theorem fb_ct_upd (p : Nat → Bool) (b : Bool) {i : Nat} : ∀ {n : Nat}, i < n → fb_ct (fun k => if k = i then b else p k) n + (if p i then 1 else 0) = fb_ct p n + (if b then 1 else 0)
  | 0, h => absurd h (Nat.not_lt_zero i)
  | n + 1, h => by
    rw [fb_ct_succ, fb_ct_succ]
    rcases Nat.lt_or_ge i n with q | q
    · have := fb_ct_upd p b q
      have e : (if n = i then b else p n) = p n := if_neg (by omega)
      rw [e]
      omega
    · have e : i = n := by omega
      subst e
      rw [fb_ct_out p b (Nat.le_refl _)]
      simp only [if_true]
      omega
theorem fb_ct_sub {p q : Nat → Bool} : ∀ {n : Nat}, (∀ k, k < n → p k = true → q k = true) → fb_ct p n ≤ fb_ct q n
  | 0, _ => Nat.le_refl _
  | n + 1, h => by
    have h1 := fb_ct_sub (n := n) (p := p) (q := q) (fun k hk => h k (by omega))
    have h2 := h n (by omega)
    rw [fb_ct_succ, fb_ct_succ]
    cases hp : p n <;> cases hq : q n <;> simp_all <;> omega
theorem fb_ct_or {p q : Nat → Bool} : ∀ {n : Nat}, (∀ k, k < n → ¬ (p k = true ∧ q k = true)) → fb_ct (fun k => p k || q k) n = fb_ct p n + fb_ct q n
  | 0, _ => rfl
  | n + 1, h => by
    have h1 := fb_ct_or (n := n) (p := p) (q := q) (fun k hk => h k (by omega))
    have h2 := h n (by omega)
    rw [fb_ct_succ, fb_ct_succ, fb_ct_succ, h1]
    cases hp : p n <;> cases hq : q n <;> simp_all <;> omega
theorem fb_ct_not (p : Nat → Bool) : ∀ n, fb_ct p n + fb_ct (fun k => !p k) n = n
  | 0 => rfl
  | n + 1 => by
    have h := fb_ct_not p n
    rw [fb_ct_succ, fb_ct_succ]
    cases p n <;> simp <;> omega
theorem fb_ct_split (p : Nat → Bool) (m : Nat) : ∀ n, fb_ct p (m + n) = fb_ct p m + fb_ct (fun k => p (m + k)) n
  | 0 => rfl
  | n + 1 => by
    have h := fb_ct_split p m n
    show fb_ct p (m + n + 1) = _
    rw [fb_ct_succ, fb_ct_succ, h, Nat.add_assoc]
theorem fb_ct_zero {p : Nat → Bool} : ∀ {n : Nat}, fb_ct p n = 0 ↔ ∀ k, k < n → p k = false
  | 0 => ⟨fun _ k hk => absurd hk (Nat.not_lt_zero k), fun _ => rfl⟩
  | n + 1 => by
    have h := fb_ct_zero (p := p) (n := n)
    rw [fb_ct_succ]
    constructor
    · intro e k hk
      have e1 : fb_ct p n = 0 := by omega
      rcases Nat.lt_or_ge k n with q | q
      · exact h.mp e1 k q
      · have ek : k = n := by omega
        subst ek
        cases hp : p k
        · rfl
        · simp [hp] at e
    · intro a
      rw [h.mpr (fun k hk => a k (by omega)), a n (by omega)]
      rfl
theorem fb_ct_pos {p : Nat → Bool} {n : Nat} : 0 < fb_ct p n ↔ ∃ k, k < n ∧ p k = true := by
  constructor
  · intro h
    refine Classical.byContradiction fun hx => ?_
    have := fb_ct_zero.mpr (fun k hk => by
      cases hp : p k
      · rfl
      · exact absurd ⟨k, hk, hp⟩ hx : ∀ k, k < n → p k = false)
    omega
  · rintro ⟨k, hk, hp⟩
    rcases Nat.eq_zero_or_pos (fb_ct p n) with e | e
    · have := fb_ct_zero.mp e k hk
      rw [this] at hp
      cases hp
    · exact e
theorem fb_ct_all {p : Nat → Bool} {n : Nat} : fb_ct p n = n ↔ ∀ k, k < n → p k = true := by
  have h := fb_ct_not p n
  constructor
  · intro e k hk
    have z : fb_ct (fun k => !p k) n = 0 := by omega
    have := fb_ct_zero.mp z k hk
    cases hp : p k
    · simp [hp] at this
    · rfl
  · intro a
    have z : fb_ct (fun k => !p k) n = 0 := fb_ct_zero.mpr (fun k hk => by simp [a k hk])
    omega
/-- the k-th place with the property -/
theorem fb_ct_kth {p : Nat → Bool} {k : Nat} : ∀ {n : Nat}, k < fb_ct p n → ∃ i, i < n ∧ p i = true ∧ fb_ct p i = k
  | 0, h => absurd h (Nat.not_lt_zero k)
  | n + 1, h => by
    rcases Nat.lt_or_ge k (fb_ct p n) with q | q
    · obtain ⟨i, h1, h2⟩ := fb_ct_kth q
      exact ⟨i, by omega, h2⟩
    · rw [fb_ct_succ] at h
      cases hp : p n
      · simp [hp] at h; omega
      · simp [hp] at h
        exact ⟨n, by omega, hp, by omega⟩
theorem fb_ct_kth_one {p : Nat → Bool} {i j : Nat} (hi : p i = true) (hj : p j = true) (e : fb_ct p i = fb_ct p j) : i = j := by
  have key : ∀ a b : Nat, a < b → p a = true → fb_ct p a < fb_ct p b := by
    intro a b hab ha
    have h := fb_ct_mono p (show a + 1 ≤ b from hab)
    rw [fb_ct_succ, ha] at h
    simp at h
    omega
  rcases Nat.lt_trichotomy i j with q | q | q
  · have := key i j q hi; omega
  · exact q
  · have := key j i q hj; omega
/-! ===== sums over a range: one place changed, parts, bounds ===== -/
def fb_sm (f : Nat → Nat) : Nat → Nat
  | 0 => 0
  | n + 1 => fb_sm f n + f n
theorem fb_sm_succ (f : Nat → Nat) (n : Nat) : fb_sm f (n + 1) = fb_sm f n + f n := rfl
theorem fb_sm_cong {f g : Nat → Nat} : ∀ {n : Nat}, (∀ k, k < n → f k = g k) → fb_sm f n = fb_sm g n
  | 0, _ => rfl
  | n + 1, h => by rw [fb_sm_succ, fb_sm_succ, fb_sm_cong (fun k hk => h k (by omega)), h n (by omega)]
theorem fb_sm_out (f : Nat → Nat) (v : Nat) {i n : Nat} (h : n ≤ i) : fb_sm (fun k => if k = i then v else f k) n = fb_sm f n :=
  fb_sm_cong fun k hk => if_neg (by omega)
theorem fb_sm_upd (f : Nat → Nat) (v : Nat) {i : Nat} : ∀ {n : Nat}, i < n → fb_sm (fun k => if k = i then v else f k) n + f i = fb_sm f n + v
  | 0, h => absurd h (Nat.not_lt_zero i)
  | n + 1, h => by
    rw [fb_sm_succ, fb_sm_succ]
    rcases Nat.lt_or_ge i n with q | q
    · have := fb_sm_upd f v q
      have e : (if n = i then v else f n) = f n := if_neg (by omega)
      rw [e]
      omega
    · have e : i = n := by omega
      subst e
      rw [fb_sm_out f v (Nat.le_refl _)]
      simp only [if_true]
      omega
theorem fb_sm_add (f g : Nat → Nat) : ∀ n, fb_sm (fun k => f k + g k) n = fb_sm f n + fb_sm g n
  | 0 => rfl
  | n + 1 => by
    have h := fb_sm_add f g n
    rw [fb_sm_succ, fb_sm_succ, fb_sm_succ, h]
    omega
theorem fb_sm_le {f g : Nat → Nat} : ∀ {n : Nat}, (∀ k, k < n → f k ≤ g k) → fb_sm f n ≤ fb_sm g n
  | 0, _ => Nat.le_refl _
  | n + 1, h => by
    have h1 := fb_sm_le (n := n) (f := f) (g := g) (fun k hk => h k (by omega))
    have h2 := h n (by omega)
    rw [fb_sm_succ, fb_sm_succ]
    omega
theorem fb_sm_const (c : Nat) : ∀ n, fb_sm (fun _ => c) n = n * c
  | 0 => by rw [Nat.zero_mul]; rfl
  | n + 1 => by rw [fb_sm_succ, fb_sm_const c n, Nat.succ_mul]
theorem fb_sm_bound {f : Nat → Nat} {c n : Nat} (h : ∀ k, k < n → f k ≤ c) : fb_sm f n ≤ n * c := by
  rw [← fb_sm_const c n]
  exact fb_sm_le h
theorem fb_sm_mono (f : Nat → Nat) (m : Nat) : ∀ n, fb_sm f m ≤ fb_sm f (m + n)
  | 0 => Nat.le_refl _
  | n + 1 => by
    have h := fb_sm_mono f m n
    show fb_sm f m ≤ fb_sm f (m + n + 1)
    rw [fb_sm_succ]
    omega
theorem fb_sm_part (f : Nat → Nat) {i n : Nat} (h : i < n) : fb_sm f i + f i ≤ fb_sm f n := by
  have := fb_sm_mono f (i + 1) (n - (i + 1))
  rw [fb_sm_succ, show i + 1 + (n - (i + 1)) = n by omega] at this
  exact this
theorem fb_sm_split (f : Nat → Nat) (m : Nat) : ∀ n, fb_sm f (m + n) = fb_sm f m + fb_sm (fun k => f (m + k)) n
  | 0 => rfl
  | n + 1 => by
    have h := fb_sm_split f m n
    show fb_sm f (m + n + 1) = _
    rw [fb_sm_succ, fb_sm_succ, h, Nat.add_assoc]
theorem fb_sm_zero {f : Nat → Nat} {n : Nat} (h : fb_sm f n = 0) : ∀ k, k < n → f k = 0 := fun k hk => by
  have := fb_sm_part f hk
  omega
/-- the same over whole numbers -/
def fb_si (f : Nat → Int) : Nat → Int
  | 0 => 0
  | n + 1 => fb_si f n + f n
theorem fb_si_succ (f : Nat → Int) (n : Nat) : fb_si f (n + 1) = fb_si f n + f n := rfl
theorem fb_si_cong {f g : Nat → Int} : ∀ {n : Nat}, (∀ k, k < n → f k = g k) → fb_si f n = fb_si g n
  | 0, _ => rfl
  | n + 1, h => by rw [fb_si_succ, fb_si_succ, fb_si_cong (fun k hk => h k (by omega)), h n (by omega)]
theorem fb_si_out (f : Nat → Int) (v : Int) {i n : Nat} (h : n ≤ i) : fb_si (fun k => if k = i then v else f k) n = fb_si f n :=
  fb_si_cong fun k hk => if_neg (by omega)
theorem fb_si_upd (f : Nat → Int) (v : Int) {i : Nat} : ∀ {n : Nat}, i < n → fb_si (fun k => if k = i then v else f k) n = fb_si f n - f i + v
  | 0, h => absurd h (Nat.not_lt_zero i)
  | n + 1, h => by
    rw [fb_si_succ, fb_si_succ]
    rcases Nat.lt_or_ge i n with q | q
    · have := fb_si_upd f v q
      have e : (if n = i then v else f n) = f n := if_neg (by omega)
      rw [e]
      omega
    · have e : i = n := by omega
      subst e
      rw [fb_si_out f v (Nat.le_refl _)]
      simp only [if_true]
      omega
theorem fb_si_add (f g : Nat → Int) : ∀ n, fb_si (fun k => f k + g k) n = fb_si f n + fb_si g n
  | 0 => rfl
  | n + 1 => by
    have h := fb_si_add f g n
    rw [fb_si_succ, fb_si_succ, fb_si_succ, h]
    omega
theorem fb_si_sub (f g : Nat → Int) : ∀ n, fb_si (fun k => f k - g k) n = fb_si f n - fb_si g n
  | 0 => rfl
  | n + 1 => by
    have h := fb_si_sub f g n
    rw [fb_si_succ, fb_si_succ, fb_si_succ, h]
    omega
theorem fb_si_mul (c : Int) (f : Nat → Int) : ∀ n, fb_si (fun k => c * f k) n = c * fb_si f n
  | 0 => (Int.mul_zero c).symm
  | n + 1 => by
    have h := fb_si_mul c f n
    rw [fb_si_succ, fb_si_succ, h, Int.mul_add]
theorem fb_si_split (f : Nat → Int) (m : Nat) : ∀ n, fb_si f (m + n) = fb_si f m + fb_si (fun k => f (m + k)) n
  | 0 => (Int.add_zero _).symm
  | n + 1 => by
    have h := fb_si_split f m n
    show fb_si f (m + n + 1) = _
    rw [fb_si_succ, fb_si_succ, h, Int.add_assoc]
theorem fb_si_nat (f : Nat → Nat) : ∀ n, fb_si (fun k => (f k : Int)) n = (fb_sm f n : Int)
  | 0 => rfl
  | n + 1 => by
    have h := fb_si_nat f n
    rw [fb_si_succ, fb_sm_succ, h]
    omega
theorem fb_si_bound {f : Nat → Int} {c : Int} (hc : 0 ≤ c) : ∀ {n : Nat}, (∀ k, k < n → -c ≤ f k ∧ f k ≤ c) → -(n * c) ≤ fb_si f n ∧ fb_si f n ≤ n * c
  | 0, _ => by simp [fb_si]
  | n + 1, h => by
    have h1 := fb_si_bound (n := n) (f := f) hc (fun k hk => h k (by omega))
    have h2 := h n (by omega)
    have e : ((n + 1 : Nat) : Int) * c = n * c + c := by rw [Int.natCast_add, Int.add_mul]; simp
    rw [fb_si_succ, e]
    omega
/-! ===== bits of a long that isn't negative ===== -/
theorem fb_andL (a b : Nat) : lN a &&& lN b = lN (a &&& b) := by
  apply Int64.toBitVec_inj.1
  show BitVec.ofNat 64 a &&& BitVec.ofNat 64 b = BitVec.ofNat 64 (a &&& b)
  apply BitVec.eq_of_getLsbD_eq
  intro i hi
  simp [hi]
theorem fb_orL (a b : Nat) : lN a ||| lN b = lN (a ||| b) := by
  apply Int64.toBitVec_inj.1
  show BitVec.ofNat 64 a ||| BitVec.ofNat 64 b = BitVec.ofNat 64 (a ||| b)
  apply BitVec.eq_of_getLsbD_eq
  intro i hi
  simp [hi]
theorem fb_xorL (a b : Nat) : lN a ^^^ lN b = lN (a ^^^ b) := by
  apply Int64.toBitVec_inj.1
  show BitVec.ofNat 64 a ^^^ BitVec.ofNat 64 b = BitVec.ofNat 64 (a ^^^ b)
  apply BitVec.eq_of_getLsbD_eq
  intro i hi
  simp [hi]
theorem fb_xorI (a b : Nat) : nI a ^^^ nI b = nI (a ^^^ b) := by
  apply Int32.toBitVec_inj.1
  show BitVec.ofNat 32 a ^^^ BitVec.ofNat 32 b = BitVec.ofNat 32 (a ^^^ b)
  apply BitVec.eq_of_getLsbD_eq
  intro i hi
  simp [hi]
theorem fb_maskL (n k : Nat) : lN n &&& lN (2 ^ k - 1) = lN (n % 2 ^ k) := by rw [fb_andL, Nat.and_two_pow_sub_one_eq_mod]
theorem fb_or_sumL {a k : Nat} (b : Nat) (h : a < 2 ^ k) : lN (2 ^ k * b) ||| lN a = lN (2 ^ k * b + a) := by rw [fb_orL, Nat.two_pow_add_eq_or_of_lt h]
theorem fb_lN_inj {a b : Nat} (ha : a < 2 ^ 63) (hb : b < 2 ^ 63) : lN a = lN b ↔ a = b := by
  constructor
  · intro h
    have h1 : (BitVec.ofNat 64 a).toNat = (BitVec.ofNat 64 b).toNat := congrArg (fun x : Int64 => x.toBitVec.toNat) h
    rw [BitVec.toNat_ofNat, BitVec.toNat_ofNat, Nat.mod_eq_of_lt (by omega), Nat.mod_eq_of_lt (by omega)] at h1
    exact h1
  · rintro rfl; rfl
theorem fb_bit_nat (n j : Nat) : n &&& 2 ^ j = 0 ↔ n.testBit j = false := by
  constructor
  · intro h
    have h1 : (n &&& 2 ^ j).testBit j = false := by rw [h]; simp
    rw [Nat.testBit_and] at h1
    simpa using h1
  · intro h
    apply Nat.eq_of_testBit_eq
    intro i
    rw [Nat.testBit_and]
    by_cases hi : j = i
    · subst hi; simp [h]
    · first | (simp [Nat.testBit_two_pow, hi]; done) | (simp [Nat.testBit_two_pow_of_ne hi]; done)
/-- one bit of a long -/
theorem fb_bitL {n j : Nat} (hj : j < 63) : lN n &&& lN (2 ^ j) = 0 ↔ n.testBit j = false := by
  have h2 : (2 : Nat) ^ j < 2 ^ 63 := Nat.pow_lt_pow_right (by decide) hj
  have hle : n &&& 2 ^ j ≤ 2 ^ j := Nat.and_le_right
  rw [fb_andL, ← fb_bit_nat, show (0 : Int64) = lN 0 from rfl]
  exact fb_lN_inj (by omega) (by decide)
/-- a bit set, a bit taken off -/
theorem fb_bit_set (n j i : Nat) : (n ||| 2 ^ j).testBit i = (n.testBit i || decide (i = j)) := by
  rw [Nat.testBit_or]
  by_cases h : j = i
  · subst h; simp
  · have h2 : ¬ i = j := fun e => h e.symm
    first | (simp [Nat.testBit_two_pow, h, h2]; done) | (simp [Nat.testBit_two_pow_of_ne h, h2]; done)
theorem fb_bit_flip (n j i : Nat) : (n ^^^ 2 ^ j).testBit i = (n.testBit i ^^ decide (i = j)) := by
  rw [Nat.testBit_xor]
  by_cases h : j = i
  · subst h; simp
  · have h2 : ¬ i = j := fun e => h e.symm
    first | (simp [Nat.testBit_two_pow, h, h2]; done) | (simp [Nat.testBit_two_pow_of_ne h, h2]; done)
/-! ===== a stretch of an array written over by a function ===== -/
def fb_put {α : Type} (f g : Nat → α) (a n : Nat) : Nat → α := fun k => if a ≤ k ∧ k < a + n then g (k - a) else f k
theorem fb_put_0 {α : Type} (f g : Nat → α) (a : Nat) : fb_put f g a 0 = f := funext fun k => if_neg (by omega)
theorem fb_put_in {α : Type} {f g : Nat → α} {a n k : Nat} (h1 : a ≤ k) (h2 : k < a + n) : fb_put f g a n k = g (k - a) := if_pos ⟨h1, h2⟩
theorem fb_put_out {α : Type} {f g : Nat → α} {a n k : Nat} (h : k < a ∨ a + n ≤ k) : fb_put f g a n k = f k := if_neg (by omega)
theorem fb_put_succ (f g : Nat → Int32) (a n : Nat) : upd (fb_put f g a n) (a + n) (g n) = fb_put f g a (n + 1) := by
  funext k
  by_cases h : k = a + n
  · subst h
    simp [upd, fb_put]
  · by_cases h1 : a ≤ k ∧ k < a + n
    · have h2 : a ≤ k ∧ k < a + (n + 1) := by omega
      simp only [upd, fb_put, if_neg h, if_pos h1, if_pos h2]
    · have h2 : ¬ (a ≤ k ∧ k < a + (n + 1)) := by omega
      simp only [upd, fb_put, if_neg h, if_neg h1, if_neg h2]
/-- .. from the far end down -/
theorem fb_put_down (f g : Nat → Int32) {a n m : Nat} (h : m < n) : upd (fb_put f (fun k => g (k + (m + 1))) (a + (m + 1)) (n - (m + 1))) (a + m) (g m) = fb_put f (fun k => g (k + m)) (a + m) (n - m) := by
  funext k
  by_cases h0 : k = a + m
  · subst h0
    simp only [upd, if_true]
    rw [fb_put_in (by omega) (by omega)]
    exact congrArg g (by omega)
  · simp only [upd, if_neg h0]
    by_cases h1 : a + (m + 1) ≤ k ∧ k < a + (m + 1) + (n - (m + 1))
    · rw [fb_put_in h1.1 h1.2, fb_put_in (by omega) (by omega)]
      exact congrArg g (by omega)
    · rw [fb_put_out (by omega), fb_put_out (by omega)]
theorem fb_put_cong {α : Type} {f f2 g g2 : Nat → α} {a n : Nat} (hf : ∀ k, (k < a ∨ a + n ≤ k) → f k = f2 k) (hg : ∀ k, k < n → g k = g2 k) : fb_put f g a n = fb_put f2 g2 a n := by
  funext k
  by_cases h : a ≤ k ∧ k < a + n
  · rw [fb_put_in h.1 h.2, fb_put_in h.1 h.2, hg _ (by omega)]
  · rw [fb_put_out (by omega), fb_put_out (by omega), hf _ (by omega)]
/-! ===== the least, the first, the best so far; that there is one alone ===== -/
theorem fb_first {p : Nat → Prop} [DecidablePred p] : ∀ {n : Nat}, (∃ i, i < n ∧ p i) → ∃ i, i < n ∧ p i ∧ ∀ j, j < i → ¬ p j
  | 0, h => by obtain ⟨i, hi, -⟩ := h; exact absurd hi (Nat.not_lt_zero i)
  | n + 1, h => by
    by_cases q : ∃ i, i < n ∧ p i
    · obtain ⟨i, h1, h2⟩ := fb_first q
      exact ⟨i, by omega, h2⟩
    · obtain ⟨i, h1, h2⟩ := h
      have e : i = n := by
        rcases Nat.lt_or_ge i n with r | r
        · exact absurd ⟨i, r, h2⟩ q
        · omega
      subst e
      exact ⟨i, by omega, h2, fun j hj hp => q ⟨j, hj, hp⟩⟩
theorem fb_first_one {p : Nat → Prop} {i j : Nat} (hi : p i) (hi2 : ∀ k, k < i → ¬ p k) (hj : p j) (hj2 : ∀ k, k < j → ¬ p k) : i = j := by
  rcases Nat.lt_trichotomy i j with q | q | q
  · exact absurd hi (hj2 i q)
  · exact q
  · exact absurd hj (hi2 j q)
theorem fb_last {p : Nat → Prop} [DecidablePred p] : ∀ {n : Nat}, (∃ i, i < n ∧ p i) → ∃ i, i < n ∧ p i ∧ ∀ j, i < j → j < n → ¬ p j
  | 0, h => by obtain ⟨i, hi, -⟩ := h; exact absurd hi (Nat.not_lt_zero i)
  | n + 1, h => by
    by_cases q : p n
    · exact ⟨n, by omega, q, fun j h1 h2 => by omega⟩
    · obtain ⟨i, h1, h2⟩ := h
      have hi : i < n := by
        rcases Nat.lt_or_ge i n with r | r
        · exact r
        · have e : i = n := by omega
          subst e
          exact absurd h2 q
      obtain ⟨i2, a1, a2, a3⟩ := fb_last (n := n) ⟨i, hi, h2⟩
      refine ⟨i2, by omega, a2, fun j b1 b2 => ?_⟩
      rcases Nat.lt_or_ge j n with r | r
      · exact a3 j b1 r
      · have e : j = n := by omega
        subst e
        exact q
/-- the first greatest -/
theorem fb_best (f : Nat → Int) : ∀ {n : Nat}, 0 < n → ∃ i, i < n ∧ (∀ j, j < n → f j ≤ f i) ∧ ∀ j, j < i → f j < f i
  | 0, h => absurd h (Nat.lt_irrefl 0)
  | 1, _ => ⟨0, by omega, fun j hj => by have e : j = 0 := by omega
                                         subst e; exact Int.le_refl _, fun j hj => absurd hj (Nat.not_lt_zero j)⟩
  | n + 2, _ => by
    obtain ⟨i, h1, h2, h3⟩ := fb_best f (n := n + 1) (by omega)
    by_cases q : f i < f (n + 1)
    · refine ⟨n + 1, by omega, fun j hj => ?_, fun j hj => ?_⟩
      · rcases Nat.lt_or_ge j (n + 1) with r | r
        · have := h2 j r; omega
        · have e : j = n + 1 := by omega
          subst e; exact Int.le_refl _
      · have := h2 j hj; omega
    · refine ⟨i, by omega, fun j hj => ?_, h3⟩
      rcases Nat.lt_or_ge j (n + 1) with r | r
      · exact h2 j r
      · have e : j = n + 1 := by omega
        subst e; omega
theorem fb_best_one {f : Nat → Int} {n i j : Nat} (hi : i < n) (hi2 : ∀ k, k < n → f k ≤ f i) (hi3 : ∀ k, k < i → f k < f i) (hj : j < n) (hj2 : ∀ k, k < n → f k ≤ f j) (hj3 : ∀ k, k < j → f k < f j) : i = j := by
  rcases Nat.lt_trichotomy i j with q | q | q
  · have a := hj3 i q
    have b := hi2 j hj
    omega
  · exact q
  · have a := hi3 j q
    have b := hj2 i hi
    omega
/-- the first least -/
theorem fb_low (f : Nat → Int) {n : Nat} (h : 0 < n) : ∃ i, i < n ∧ (∀ j, j < n → f i ≤ f j) ∧ ∀ j, j < i → f i < f j := by
  obtain ⟨i, h1, h2, h3⟩ := fb_best (fun k => -f k) h
  exact ⟨i, h1, fun j hj => by have := h2 j hj; omega, fun j hj => by have := h3 j hj; omega⟩
/-! ===== signed ints as whole numbers, within bounds ===== -/
theorem fb_rng (x : Int32) : -2147483648 ≤ x.toInt ∧ x.toInt < 2147483648 := by
  have h1 := Int32.le_toInt x
  have h2 := Int32.toInt_lt x
  omega
theorem fb_bmod {z : Int} (h1 : -2147483648 ≤ z) (h2 : z < 2147483648) : z.bmod (2 ^ 32) = z := by
  rw [Int.bmod_eq_of_le (by omega) (by omega)]
theorem fb_addI {x y : Int32} (h1 : -2147483648 ≤ x.toInt + y.toInt) (h2 : x.toInt + y.toInt < 2147483648) : (x + y).toInt = x.toInt + y.toInt := by
  rw [Int32.toInt_add, fb_bmod h1 h2]
theorem fb_subI {x y : Int32} (h1 : -2147483648 ≤ x.toInt - y.toInt) (h2 : x.toInt - y.toInt < 2147483648) : (x - y).toInt = x.toInt - y.toInt := by
  rw [Int32.toInt_sub, fb_bmod h1 h2]
theorem fb_mulI {x y : Int32} (h1 : -2147483648 ≤ x.toInt * y.toInt) (h2 : x.toInt * y.toInt < 2147483648) : (x * y).toInt = x.toInt * y.toInt := by
  rw [Int32.toInt_mul, fb_bmod h1 h2]
theorem fb_negI {x : Int32} (h : x.toInt ≠ -2147483648) : (-x).toInt = -x.toInt := by
  have := fb_rng x
  rw [Int32.toInt_neg, fb_bmod (by omega) (by omega)]
theorem fb_ofI {z : Int} (h1 : -2147483648 ≤ z) (h2 : z < 2147483648) : (Int32.ofInt z).toInt = z := by
  rw [Int32.toInt_ofInt, fb_bmod h1 h2]
theorem fb_asI (x : Int32) : Int32.ofInt x.toInt = x := Int32.ofInt_toInt x
theorem fb_rngL (x : Int64) : -9223372036854775808 ≤ x.toInt ∧ x.toInt < 9223372036854775808 := by
  have h1 := Int64.le_toInt x
  have h2 := Int64.toInt_lt x
  omega
theorem fb_bmodL {z : Int} (h1 : -9223372036854775808 ≤ z) (h2 : z < 9223372036854775808) : z.bmod (2 ^ 64) = z := by
  rw [Int.bmod_eq_of_le (by omega) (by omega)]
theorem fb_addL {x y : Int64} (h1 : -9223372036854775808 ≤ x.toInt + y.toInt) (h2 : x.toInt + y.toInt < 9223372036854775808) : (x + y).toInt = x.toInt + y.toInt := by
  rw [Int64.toInt_add, fb_bmodL h1 h2]
theorem fb_subL {x y : Int64} (h1 : -9223372036854775808 ≤ x.toInt - y.toInt) (h2 : x.toInt - y.toInt < 9223372036854775808) : (x - y).toInt = x.toInt - y.toInt := by
  rw [Int64.toInt_sub, fb_bmodL h1 h2]
theorem fb_mulL {x y : Int64} (h1 : -9223372036854775808 ≤ x.toInt * y.toInt) (h2 : x.toInt * y.toInt < 9223372036854775808) : (x * y).toInt = x.toInt * y.toInt := by
  rw [Int64.toInt_mul, fb_bmodL h1 h2]
/-! ===== cuts of what is narrow already ===== -/
theorem fb_byte {x : Int32} (h1 : -128 ≤ x.toInt) (h2 : x.toInt < 128) : x.toInt8.toInt32 = x := by
  apply Int32.toInt_inj.1
  rw [Int8.toInt_toInt32, Int32.toInt_toInt8, Int.bmod_eq_of_le (by omega) (by omega)]
theorem fb_short {x : Int32} (h1 : -32768 ≤ x.toInt) (h2 : x.toInt < 32768) : x.toInt16.toInt32 = x := by
  apply Int32.toInt_inj.1
  rw [Int16.toInt_toInt32, Int32.toInt_toInt16, Int.bmod_eq_of_le (by omega) (by omega)]
theorem fb_byte_rng (x : Int32) : -128 ≤ x.toInt8.toInt32.toInt ∧ x.toInt8.toInt32.toInt < 128 := by
  rw [Int8.toInt_toInt32]
  have h1 := Int8.le_toInt x.toInt8
  have h2 := Int8.toInt_lt x.toInt8
  omega
theorem fb_short_rng (x : Int32) : -32768 ≤ x.toInt16.toInt32.toInt ∧ x.toInt16.toInt32.toInt < 32768 := by
  rw [Int16.toInt_toInt32]
  have h1 := Int16.le_toInt x.toInt16
  have h2 := Int16.toInt_lt x.toInt16
  omega
theorem fb_byte_twice (x : Int32) : x.toInt8.toInt32.toInt8.toInt32 = x.toInt8.toInt32 := fb_byte (fb_byte_rng x).1 (fb_byte_rng x).2
theorem fb_short_twice (x : Int32) : x.toInt16.toInt32.toInt16.toInt32 = x.toInt16.toInt32 := fb_short (fb_short_rng x).1 (fb_short_rng x).2
theorem fb_char {n : Nat} (h : n < 65536) : (nI n).toUInt32.toUInt16.toUInt32.toInt32 = nI n := by
  apply Int32.toBitVec_inj.1
  apply BitVec.eq_of_toNat_eq
  have e1 : (nI n).toBitVec.toNat = n := by
    show (BitVec.ofNat 32 n).toNat = n
    rw [BitVec.toNat_ofNat, Nat.mod_eq_of_lt (by omega)]
  have e2 : ((nI n).toUInt32.toUInt16.toUInt32).toNat = n := by
    rw [UInt16.toNat_toUInt32, UInt32.toNat_toUInt16]
    show (nI n).toBitVec.toNat % 2 ^ 16 = n
    rw [e1, Nat.mod_eq_of_lt (by omega)]
  rw [e1]
  exact e2
end
section
/-! rows on bits, shifts and unsigned numbers, to paste: each family out of a closed proof of our own, whole with what it rests on; each by itself clean at Lean in its own claim (generation 39, form 5). Take a family whole -/
/-! ===== Int32 by its bits: bt x i ===== -/
def bt (x : Int32) (i : Nat) : Bool := x.toBitVec.getLsbD i
theorem b_ext {x y : Int32} (h : ∀ i, i < 32 → bt x i = bt y i) : x = y := Int32.toBitVec_inj.mp (BitVec.eq_of_getLsbD_eq (fun i hi => h i hi))
theorem b_or (x y : Int32) (i : Nat) : bt (x ||| y) i = (bt x i || bt y i) := by unfold bt; rw [Int32.toBitVec_or, BitVec.getLsbD_or]
theorem b_and (x y : Int32) (i : Nat) : bt (x &&& y) i = (bt x i && bt y i) := by unfold bt; rw [Int32.toBitVec_and, BitVec.getLsbD_and]
theorem b_xor (x y : Int32) (i : Nat) : bt (x ^^^ y) i = (bt x i ^^ bt y i) := by unfold bt; rw [Int32.toBitVec_xor, BitVec.getLsbD_xor]
theorem b_big {x : Int32} {i : Nat} (h : 32 ≤ i) : bt x i = false := BitVec.getLsbD_of_ge _ _ h
theorem b_255 (i : Nat) : bt 255 i = decide (i < 8) := by
  rcases Nat.lt_or_ge i 32 with h | h
  · exact (by decide +kernel : ∀ i, i < 32 → bt 255 i = decide (i < 8)) i h
  · rw [b_big h, decide_eq_false (by omega)]
theorem b_65535 (i : Nat) : bt 65535 i = decide (i < 16) := by
  rcases Nat.lt_or_ge i 32 with h | h
  · exact (by decide +kernel : ∀ i, i < 32 → bt 65535 i = decide (i < 16)) i h
  · rw [b_big h, decide_eq_false (by omega)]
theorem b_m1 : ∀ i, i < 32 → bt (-1) i = true := by decide +kernel
theorem b_0 (i : Nat) : bt 0 i = false := BitVec.getLsbD_zero
theorem s_l : ∀ n, n < 32 → ((nI n &&& 31).toBitVec.smod 32).toNat = n := by decide +kernel
theorem s_u : ∀ n, n < 32 → (((nI n).toUInt32 &&& Int32.toUInt32 31).toBitVec % 32).toNat = n := by decide +kernel
theorem b_shl (n : Nat) (hn : n < 32) (x : Int32) {i : Nat} (hi : i < 32) : bt (x <<< (nI n &&& 31)) i = (decide (n ≤ i) && bt x (i - n)) := by
  unfold bt
  rw [Int32.toBitVec_shiftLeft]
  show (x.toBitVec <<< ((nI n &&& 31).toBitVec.smod 32).toNat).getLsbD i = _
  rw [s_l n hn, BitVec.getLsbD_shiftLeft]
  rcases Nat.lt_or_ge i n with h | h
  · simp [h, Nat.not_le.mpr h]
  · simp [hi, h, Nat.not_lt.mpr h]
theorem b_ushr (n : Nat) (hn : n < 32) (x : Int32) (i : Nat) : bt ((x.toUInt32 >>> ((nI n).toUInt32 &&& Int32.toUInt32 31)).toInt32) i = bt x (n + i) := by
  show (x.toUInt32 >>> ((nI n).toUInt32 &&& Int32.toUInt32 31)).toBitVec.getLsbD i = x.toUInt32.toBitVec.getLsbD (n + i)
  rw [UInt32.toBitVec_shiftRight]
  show (x.toUInt32.toBitVec >>> (((nI n).toUInt32 &&& Int32.toUInt32 31).toBitVec % 32).toNat).getLsbD i = _
  rw [s_u n hn, BitVec.getLsbD_ushiftRight]
theorem b_sshr (n : Nat) (hn : n < 32) (x : Int32) {i : Nat} (hi : i < 32) : bt (x >>> (nI n &&& 31)) i = if n + i < 32 then bt x (n + i) else bt x 31 := by
  unfold bt
  rw [Int32.toBitVec_shiftRight]
  show (x.toBitVec.sshiftRight ((nI n &&& 31).toBitVec.smod 32).toNat).getLsbD i = _
  rw [s_l n hn, BitVec.getLsbD_sshiftRight, BitVec.msb_eq_getLsbD_last]
  simp [hi]
theorem b_shl8 (x : Int32) {i : Nat} (hi : i < 32) : bt (x <<< ((8 : Int32) &&& 31)) i = (decide (8 ≤ i) && bt x (i - 8)) := b_shl 8 (by omega) x hi
theorem b_shl16 (x : Int32) {i : Nat} (hi : i < 32) : bt (x <<< ((16 : Int32) &&& 31)) i = (decide (16 ≤ i) && bt x (i - 16)) := b_shl 16 (by omega) x hi
theorem b_shl24 (x : Int32) {i : Nat} (hi : i < 32) : bt (x <<< ((24 : Int32) &&& 31)) i = (decide (24 ≤ i) && bt x (i - 24)) := b_shl 24 (by omega) x hi
theorem b_sshr8 (x : Int32) {i : Nat} (hi : i < 32) : bt (x >>> ((8 : Int32) &&& 31)) i = if 8 + i < 32 then bt x (8 + i) else bt x 31 := b_sshr 8 (by omega) x hi
/-! ===== nI under and, xor, >>>, one bit, 65535 ===== -/
theorem nx_and (a b : Nat) : nI a &&& nI b = nI (a &&& b) := by
  apply Int32.toBitVec_inj.1
  show BitVec.ofNat 32 a &&& BitVec.ofNat 32 b = BitVec.ofNat 32 (a &&& b)
  apply BitVec.eq_of_getLsbD_eq
  intro i hi
  simp [hi]
theorem nx_xor (a b : Nat) : nI a ^^^ nI b = nI (a ^^^ b) := by
  apply Int32.toBitVec_inj.1
  show BitVec.ofNat 32 a ^^^ BitVec.ofNat 32 b = BitVec.ofNat 32 (a ^^^ b)
  apply BitVec.eq_of_getLsbD_eq
  intro i hi
  simp [hi]
theorem nx_cnt : ∀ j : Fin 32, (UInt32.ofNat j.val &&& Int32.toUInt32 31).toNat % 32 = j.val := by decide +kernel
theorem nx_ush {k j : Nat} (hk : k < 65536) (hj : j < 32) : ((nI k).toUInt32 >>> ((nI j).toUInt32 &&& Int32.toUInt32 31)).toInt32 = nI (k >>> j) := by
  have hs : k >>> j ≤ k := by
    rw [Nat.shiftRight_eq_div_pow]
    exact Nat.div_le_self _ _
  have e2 : UInt32.ofNat k >>> (UInt32.ofNat j &&& Int32.toUInt32 31) = UInt32.ofNat (k >>> j) := by
    apply UInt32.toNat_inj.1
    have h1 : (UInt32.ofNat k).toNat = k := Nat.mod_eq_of_lt (by omega)
    have h2 : (UInt32.ofNat (k >>> j)).toNat = k >>> j := Nat.mod_eq_of_lt (by omega)
    rw [UInt32.toNat_shiftRight, nx_cnt ⟨j, hj⟩, h1, h2]
  show (UInt32.ofNat k >>> (UInt32.ofNat j &&& Int32.toUInt32 31)).toInt32 = _
  rw [e2]
  rfl
theorem nx_bit {k j : Nat} (hk : k < 65536) (hj : j < 16) : (((nI k).toUInt32 >>> ((nI j).toUInt32 &&& Int32.toUInt32 31)).toInt32 &&& 1) = 0 ↔ k.testBit j = false := by
  rw [nx_ush hk (by omega)]
  show nI (k >>> j) &&& nI 1 = 0 ↔ _
  rw [nx_and, Nat.and_one_is_mod, ← nI_0, nI_eq (by omega) (by omega), Nat.testBit_eq_decide_div_mod_eq, Nat.shiftRight_eq_div_pow, decide_eq_false_iff_not]
  generalize k / 2 ^ j = z
  omega
theorem nx_mod (k : Nat) : nI k &&& 65535 = nI (k % 65536) := by
  show nI k &&& nI 65535 = _
  rw [nx_and, show (65535 : Nat) = 2 ^ 16 - 1 from rfl, Nat.and_two_pow_sub_one_eq_mod]
theorem nx_m16 {k : Nat} (h : k < 65536) : nI k &&& 65535 = nI k := by rw [nx_mod, Nat.mod_eq_of_lt h]
theorem nx_mask (x : Int32) : ∃ k, k < 65536 ∧ x &&& 65535 = nI k := by
  have e : x = nI x.toBitVec.toNat := by
    apply Int32.toBitVec_inj.1
    show x.toBitVec = BitVec.ofNat 32 x.toBitVec.toNat
    simp
  refine ⟨x.toBitVec.toNat % 65536, Nat.mod_lt _ (by omega), ?_⟩
  rw [← nx_mod, ← e]
/-! ===== Int32 as a set of bits: test, set ===== -/
def nf_M (m : Int32) : Nat := 4294967296 - m.toBitVec.toNat
theorem nf_sh : ∀ l, l < 32 → ((1 : Int32) <<< (nI l &&& 31)).toBitVec = BitVec.twoPow 32 l := by decide +kernel
theorem nf_sl : ∀ l, l < 32 → (((nI l).toUInt32 &&& Int32.toUInt32 31).toBitVec % 32).toNat = l := by decide +kernel
theorem nf_tp : ∀ l, l < 32 → BitVec.twoPow 32 l ≠ 0#32 := by decide +kernel
theorem nf_bit (m : Int32) (l : Nat) (hl : l < 32) : ((m.toUInt32 >>> ((nI l).toUInt32 &&& Int32.toUInt32 31)).toInt32 &&& 1) = 0 ↔ (m &&& ((1 : Int32) <<< (nI l &&& 31))) = 0 := by
  have e : ((m.toUInt32 >>> ((nI l).toUInt32 &&& Int32.toUInt32 31)).toInt32).toBitVec = m.toBitVec >>> l := by
    show m.toBitVec >>> (((nI l).toUInt32 &&& Int32.toUInt32 31).toBitVec % 32) = m.toBitVec >>> l
    rw [BitVec.ushiftRight_eq', nf_sl l hl]
  rw [← Int32.toBitVec_inj, ← Int32.toBitVec_inj, Int32.toBitVec_and, Int32.toBitVec_and, nf_sh l hl, e, BitVec.and_twoPow]
  show (m.toBitVec >>> l &&& 1#32) = 0#32 ↔ _ = 0#32
  rw [BitVec.and_one_eq_setWidth_ofBool_getLsbD, BitVec.getLsbD_ushiftRight, Nat.add_zero]
  cases hb : m.toBitVec.getLsbD l
  · exact ⟨fun _ => by simp, fun _ => by decide⟩
  · exact ⟨fun z => absurd z (by decide), fun z => absurd ((if_pos rfl).symm.trans z) (nf_tp l hl)⟩
theorem nf_gr (m k : Int32) (h : m &&& k = 0) (hk : k ≠ 0) : nf_M (m ||| k) < nf_M m := by
  have hm := m.toBitVec.isLt
  have hm' := (m ||| k).toBitVec.isLt
  have h1 : m.toBitVec.toNat ≤ (m ||| k).toBitVec.toNat := by
    rw [Int32.toBitVec_or, BitVec.toNat_or]
    exact Nat.left_le_or
  have h2 : m.toBitVec.toNat ≠ (m ||| k).toBitVec.toNat := by
    intro e
    have e2 : m = m ||| k := Int32.toBitVec_inj.mp (BitVec.eq_of_toNat_eq e)
    apply hk
    apply Int32.toBitVec_inj.mp
    show k.toBitVec = 0#32
    apply BitVec.eq_of_getLsbD_eq
    intro i hi
    have a : m.toBitVec.getLsbD i = (m.toBitVec.getLsbD i || k.toBitVec.getLsbD i) := by rw [← BitVec.getLsbD_or, ← Int32.toBitVec_or, ← e2]
    have b : (m.toBitVec.getLsbD i && k.toBitVec.getLsbD i) = false := by
      rw [← BitVec.getLsbD_and, ← Int32.toBitVec_and, h]
      exact BitVec.getLsbD_zero
    rw [BitVec.getLsbD_zero]
    revert a b
    cases m.toBitVec.getLsbD i <;> cases k.toBitVec.getLsbD i <;> simp
  unfold nf_M
  omega
/-! ===== a byte read unsigned ===== -/
theorem bp_b (x : Int32) : x.toInt8.toInt32 &&& 255 = x &&& 255 := by
  apply Int32.toBitVec_inj.mp
  rw [Int32.toBitVec_and, Int32.toBitVec_and, Int8.toBitVec_toInt32, Int32.toBitVec_toInt8]
  apply BitVec.eq_of_getLsbD_eq
  intro i hi
  rw [BitVec.getLsbD_and, BitVec.getLsbD_and]
  have hm : ∀ i < 32, 8 ≤ i → (255 : Int32).toBitVec.getLsbD i = false := by decide
  rcases Nat.lt_or_ge i 8 with z | z
  · rw [BitVec.getLsbD_signExtend, BitVec.getLsbD_signExtend, if_pos z, if_pos hi]
    simp only [z, hi, decide_true, Bool.true_and]
  · rw [hm i hi z]; simp
/-! ===== the char cast and 65535 ===== -/
/-! ===== Int64 as a set of bits: test, set, clear ===== -/
theorem ts_nf {x : Bool} (h : ¬ x = false) : x = true := by cases x <;> first | rfl | exact absurd rfl h
theorem ts_nt {x : Bool} (h : ¬ x = true) : x = false := by cases x <;> first | rfl | exact absurd rfl h
theorem ts_bit {w : Int64} {s : UInt64} {j : Nat} (hj : j < 64) (hs : s.toNat = j) : ((w.toUInt64 >>> s).toInt64 &&& 1) = 0 ↔ w.toBitVec.getLsbD j = false := by
  have e : (w.toUInt64 >>> s).toInt64.toBitVec = w.toBitVec >>> j := by
    apply BitVec.eq_of_toNat_eq
    show (w.toUInt64 >>> s).toNat = _
    rw [UInt64.toNat_shiftRight, hs, Nat.mod_eq_of_lt hj, BitVec.toNat_ushiftRight]
    rfl
  rw [← Int64.toBitVec_inj, Int64.toBitVec_and, e]
  show w.toBitVec >>> j &&& 1#64 = 0#64 ↔ _
  constructor
  · intro h
    have t := congrArg (fun x => x.getLsbD 0) h
    simpa using t
  · intro h
    apply BitVec.eq_of_getLsbD_eq
    intro i hi
    cases i with
    | zero => simp [h]
    | succ i => simp
theorem ts_or {w m : Int64} {j : Nat} (hj : j < 64) (hm : m.toBitVec = BitVec.twoPow 64 j) : (w ||| m) = w ↔ w.toBitVec.getLsbD j = true := by
  rw [← Int64.toBitVec_inj, Int64.toBitVec_or, hm]
  constructor
  · intro h
    have t := congrArg (fun x => x.getLsbD j) h
    simp only [BitVec.getLsbD_or, BitVec.getLsbD_twoPow] at t
    simpa [hj] using t.symm
  · intro h
    apply BitVec.eq_of_getLsbD_eq
    intro i hi
    rw [BitVec.getLsbD_or, BitVec.getLsbD_twoPow]
    by_cases e : j = i
    · subst e; rw [h, Bool.true_or]
    · simp [e]
theorem ts_and {w m : Int64} {j : Nat} (hj : j < 64) (hm : m.toBitVec = BitVec.twoPow 64 j) : (w &&& (m ^^^ (-1))) = w ↔ w.toBitVec.getLsbD j = false := by
  have ha : (-1 : Int64).toBitVec = BitVec.allOnes 64 := by decide
  rw [← Int64.toBitVec_inj, Int64.toBitVec_and, Int64.toBitVec_xor, hm, ha]
  constructor
  · intro h
    have t := congrArg (fun x => x.getLsbD j) h
    simp only [BitVec.getLsbD_and, BitVec.getLsbD_xor, BitVec.getLsbD_twoPow, BitVec.getLsbD_allOnes] at t
    simpa [hj] using t.symm
  · intro h
    apply BitVec.eq_of_getLsbD_eq
    intro i hi
    rw [BitVec.getLsbD_and, BitVec.getLsbD_xor, BitVec.getLsbD_twoPow, BitVec.getLsbD_allOnes]
    by_cases e : j = i
    · subst e; rw [h, Bool.false_and]
    · simp [e, hi]
/-! ===== lN n to 2^64: shifts, and, or, masks, one bit ===== -/
theorem wb_tb (n : Nat) : (lN n).toBitVec = BitVec.ofNat 64 n := rfl
theorem wb_inj {a b : Int64} (h : a.toBitVec = b.toBitVec) : a = b := Int64.toBitVec_inj.mp h
theorem wb_tn {n : Nat} (h : n < 2 ^ 64) : (lN n).toBitVec.toNat = n := by rw [wb_tb, BitVec.toNat_ofNat, Nat.mod_eq_of_lt h]
theorem wb_of (x : Int64) : ∃ n, n < 2 ^ 64 ∧ x = lN n := ⟨x.toBitVec.toNat, x.toBitVec.isLt, wb_inj (by rw [wb_tb]; simp)⟩
theorem wb_of32 (x : Int32) : ∃ n, n < 2 ^ 32 ∧ x = nI n := ⟨x.toBitVec.toNat, x.toBitVec.isLt, Int32.toBitVec_inj.mp (by show _ = BitVec.ofNat 32 _; simp)⟩
theorem wb_c : ∀ k, k < 64 → ((nI k).toInt64 &&& 63) = lN k := by decide +kernel
theorem wb_cu : ∀ k, k < 64 → ((nI k).toInt64.toUInt64 &&& Int64.toUInt64 63) = UInt64.ofNat k := by decide +kernel
theorem wb_sm : ∀ k, k < 64 → (BitVec.ofNat 64 k).smod 64 = BitVec.ofNat 64 k := by decide +kernel
theorem wb_pw {a b : Nat} (h : a ≤ b) : 2 ^ b = 2 ^ a * 2 ^ (b - a) := by rw [← Nat.pow_add]; congr 1; omega
theorem wb_lt2 {a b : Nat} (h : a < b) : 2 ^ a < 2 ^ b := Nat.pow_lt_pow_right (by decide) h
theorem wb_mod (n : Nat) : lN n = lN (n % 2 ^ 64) := wb_inj (by rw [wb_tb, wb_tb]; apply BitVec.eq_of_toNat_eq; rw [BitVec.toNat_ofNat, BitVec.toNat_ofNat, Nat.mod_mod])
theorem wb_shr {n k : Nat} (hn : n < 2 ^ 64) (hk : k < 64) : ((lN n).toUInt64 >>> ((nI k).toInt64.toUInt64 &&& Int64.toUInt64 63)).toInt64 = lN (n / 2 ^ k) := by
  rw [wb_cu k hk]
  apply wb_inj
  apply BitVec.eq_of_toNat_eq
  show ((lN n).toUInt64 >>> UInt64.ofNat k).toNat = (BitVec.ofNat 64 _).toNat
  have h1 : (UInt64.ofNat k).toNat = k := by
    show (BitVec.ofNat 64 k).toNat = k
    rw [BitVec.toNat_ofNat, Nat.mod_eq_of_lt (by omega)]
  have h2 : (lN n).toUInt64.toNat = n := wb_tn hn
  rw [UInt64.toNat_shiftRight, h1, h2, Nat.mod_eq_of_lt hk, Nat.shiftRight_eq_div_pow, BitVec.toNat_ofNat, Nat.mod_eq_of_lt (Nat.lt_of_le_of_lt (Nat.div_le_self _ _) hn)]
theorem wb_shl (n : Nat) {k : Nat} (hk : k < 64) : lN n <<< ((nI k).toInt64 &&& 63) = lN (n * 2 ^ k) := by
  rw [wb_c k hk]
  apply wb_inj
  rw [Int64.toBitVec_shiftLeft, wb_tb, wb_tb, wb_tb, wb_sm k hk]
  apply BitVec.eq_of_toNat_eq
  rw [BitVec.shiftLeft_eq', BitVec.toNat_shiftLeft, BitVec.toNat_ofNat, BitVec.toNat_ofNat, BitVec.toNat_ofNat, Nat.mod_eq_of_lt (show k < 2 ^ 64 by omega), Nat.shiftLeft_eq, Nat.mul_mod, Nat.mod_mod, ← Nat.mul_mod]
theorem wb_and {a b : Nat} (ha : a < 2 ^ 64) (hb : b < 2 ^ 64) : lN a &&& lN b = lN (a &&& b) := by
  apply wb_inj
  rw [Int64.toBitVec_and, wb_tb, wb_tb, wb_tb]
  apply BitVec.eq_of_toNat_eq
  rw [BitVec.toNat_and, BitVec.toNat_ofNat, BitVec.toNat_ofNat, BitVec.toNat_ofNat, Nat.mod_eq_of_lt ha, Nat.mod_eq_of_lt hb, Nat.mod_eq_of_lt (Nat.and_lt_two_pow _ hb)]
theorem wb_or {a b : Nat} (ha : a < 2 ^ 64) (hb : b < 2 ^ 64) : lN a ||| lN b = lN (a ||| b) := by
  apply wb_inj
  rw [Int64.toBitVec_or, wb_tb, wb_tb, wb_tb]
  apply BitVec.eq_of_toNat_eq
  rw [BitVec.toNat_or, BitVec.toNat_ofNat, BitVec.toNat_ofNat, BitVec.toNat_ofNat, Nat.mod_eq_of_lt ha, Nat.mod_eq_of_lt hb, Nat.mod_eq_of_lt (Nat.or_lt_two_pow ha hb)]
theorem wb_mask {n k : Nat} (hn : n < 2 ^ 64) (hk : k < 64) : lN n &&& lN (2 ^ k - 1) = lN (n % 2 ^ k) := by
  rw [wb_and hn (by have := wb_lt2 hk; omega), Nat.and_two_pow_sub_one_eq_mod]
theorem wb_a1 {n : Nat} (hn : n < 2 ^ 64) : lN n &&& 1 = lN (n % 2) := wb_mask (k := 1) hn (by decide)
theorem wb_bit {n k : Nat} (hn : n < 2 ^ 64) (hk : k < 64) : ((lN n).toUInt64 >>> ((nI k).toInt64.toUInt64 &&& Int64.toUInt64 63)).toInt64 &&& 1 = lN (n / 2 ^ k % 2) := by
  rw [wb_shr hn hk, wb_a1 (Nat.lt_of_le_of_lt (Nat.div_le_self _ _) hn)]
theorem wb_xor {q k : Nat} (hk : k < 63) (h : 2 ^ k ≤ q) (h2 : q < 2 ^ (k + 1)) : lN q ^^^ lN (2 ^ k) = lN (q - 2 ^ k) := by
  obtain ⟨r, rfl⟩ : ∃ r, q = 2 ^ k + r := ⟨q - 2 ^ k, by omega⟩
  have hr : r < 2 ^ k := by rw [Nat.pow_succ] at h2; omega
  have hx : (2 ^ k + r) ^^^ 2 ^ k = r := by
    apply Nat.eq_of_testBit_eq
    intro i
    rw [Nat.testBit_xor, Nat.testBit_two_pow]
    rcases Nat.lt_trichotomy i k with h | h | h
    · rw [Nat.testBit_two_pow_add_gt h]
      simp [show ¬ k = i by omega]
    · subst h
      rw [Nat.testBit_two_pow_add_eq]
      simp
    · have a1 : 2 ^ (k + 1) ≤ 2 ^ i := Nat.pow_le_pow_right (by decide) h
      rw [Nat.testBit_lt_two_pow (show 2 ^ k + r < 2 ^ i by omega), Nat.testBit_lt_two_pow (show r < 2 ^ i by omega)]
      simp [show ¬ k = i by omega]
  have b1 := wb_lt2 (show k + 1 < 64 by omega)
  have b2 := wb_lt2 (show k < 64 by omega)
  apply wb_inj
  rw [Int64.toBitVec_xor, wb_tb, wb_tb, wb_tb]
  apply BitVec.eq_of_toNat_eq
  rw [BitVec.toNat_xor, BitVec.toNat_ofNat, BitVec.toNat_ofNat, BitVec.toNat_ofNat, Nat.mod_eq_of_lt (by omega : 2 ^ k + r < 2 ^ 64), Nat.mod_eq_of_lt b2, hx, Nat.add_sub_cancel_left, Nat.mod_eq_of_lt (by omega)]
/-! ===== lN: masks, 'or' of parts that don't overlap is a sum ===== -/
theorem u_tn {n : Nat} (h : n < 2 ^ 64) : (UInt64.ofNat n).toNat = n := Nat.mod_eq_of_lt h
theorem g_and {a b c : Nat} (ha : a < 2 ^ 64) (hb : b < 2 ^ 64) (hc : a &&& b = c) : lN a &&& lN b = lN c := by
  subst hc
  have h : UInt64.ofNat a &&& UInt64.ofNat b = UInt64.ofNat (a &&& b) := UInt64.toNat_inj.mp (by rw [UInt64.toNat_and, u_tn ha, u_tn hb, u_tn (Nat.and_lt_two_pow a hb)])
  have h2 := congrArg UInt64.toInt64 h
  exact h2
theorem g_and1 {a : Nat} (ha : a < 2 ^ 64) : lN a &&& 1 = lN (a % 2) := g_and (b := 1) ha (by decide) (Nat.and_two_pow_sub_one_eq_mod a 1)
theorem g_mask {a s p : Nat} (hp : 2 ^ s = p) (hs : s < 64) (ha : a < 2 ^ 64) : lN a &&& lN (p - 1) = lN (a % p) := by
  subst hp
  have := Nat.pow_lt_pow_right (show 1 < 2 by decide) hs
  exact g_and ha (by omega) (Nat.and_two_pow_sub_one_eq_mod a s)
theorem g_or {k p a b : Nat} (hp : 2 ^ k = p) (ha : a < p) (h : b * p + a < 2 ^ 64) : lN (b * p) ||| lN a = lN (b * p + a) := by
  subst hp
  have h1 : b * 2 ^ k ||| a = b * 2 ^ k + a := by rw [← Nat.shiftLeft_eq, Nat.shiftLeft_add_eq_or_of_lt ha]
  have h3 : UInt64.ofNat (b * 2 ^ k) ||| UInt64.ofNat a = UInt64.ofNat (b * 2 ^ k + a) := UInt64.toNat_inj.mp (by rw [UInt64.toNat_or, u_tn (by omega), u_tn (by omega), u_tn h, h1])
  have h2 := congrArg UInt64.toInt64 h3
  exact h2
theorem g_or' {k p a b : Nat} (hp : 2 ^ k = p) (ha : a < p) (h : a + b * p < 2 ^ 64) : lN a ||| lN (b * p) = lN (a + b * p) := by
  rw [Int64.or_comm, g_or hp ha (by omega), Nat.add_comm]
theorem g_ushr {a k p : Nat} {y : UInt64} (hy : y = UInt64.ofNat k) (hk : k < 64) (hp : 2 ^ k = p) (ha : a < 2 ^ 64) : ((lN a).toUInt64 >>> y).toInt64 = lN (a / p) := by
  subst hy hp
  have h : UInt64.ofNat a >>> UInt64.ofNat k = UInt64.ofNat (a / 2 ^ k) := UInt64.toNat_inj.mp (by rw [UInt64.toNat_shiftRight, u_tn ha, u_tn (by omega), u_tn (Nat.lt_of_le_of_lt (Nat.div_le_self _ _) ha), Nat.mod_eq_of_lt hk, Nat.shiftRight_eq_div_pow])
  have h2 := congrArg UInt64.toInt64 h
  exact h2
theorem g_shl {a k p : Nat} {y : Int64} (hy : y.toBitVec.smod 64 = BitVec.ofNat 64 k) (hk : k < 64) (hp : 2 ^ k = p) (ha : a < 2 ^ 64) : lN a <<< y = lN (a * p) := by
  subst hp
  apply Int64.toBitVec_inj.mp
  rw [Int64.toBitVec_shiftLeft, hy]
  apply BitVec.eq_of_toNat_eq
  have hb : (lN a).toBitVec.toNat = a := Nat.mod_eq_of_lt ha
  have hk' : (BitVec.ofNat 64 k).toNat = k := Nat.mod_eq_of_lt (by omega)
  have h : ((lN a).toBitVec <<< BitVec.ofNat 64 k).toNat = (a * 2 ^ k) % 2 ^ 64 := by simp only [BitVec.shiftLeft_eq', BitVec.toNat_shiftLeft, hb, hk', Nat.shiftLeft_eq]
  exact h
/-! ===== lN to 2^62 under >> and >>> ===== -/
theorem pf_lI {a : Nat} (h : a < 2 ^ 63) : (lN a).toInt = (a : Int) := lg_ofNat_toInt h
theorem pf_shr {a d : Nat} {D : Int64} (hD : (D.toBitVec.smod 64).toNat = d) (h : a < 2 ^ 62) : lN a >>> D = lN (a / 2 ^ d) := by
  have hd : a / 2 ^ d ≤ a := Nat.div_le_self _ _
  apply Int64.toInt_inj.mp
  have e : (lN a >>> D).toInt = (lN a).toInt >>> d := by
    rw [← hD]
    exact BitVec.toInt_sshiftRight ..
  rw [e, Int.shiftRight_eq_div_pow, pf_lI (by omega), pf_lI (by omega)]
  rfl
theorem pf_ushr {a d : Nat} {D : UInt64} (hD : D.toNat % 64 = d) (h : a < 2 ^ 62) : ((lN a).toUInt64 >>> D).toInt64 = lN (a / 2 ^ d) := by
  have hd : a / 2 ^ d ≤ a := Nat.div_le_self _ _
  have e : (lN a).toUInt64 >>> D = UInt64.ofNat (a / 2 ^ d) := UInt64.toNat_inj.mp (by
    rw [UInt64.toNat_shiftRight, hD, Nat.shiftRight_eq_div_pow, UInt64.toNat_ofNat']
    show (UInt64.ofNat a).toNat / 2 ^ d = _
    rw [UInt64.toNat_ofNat', Nat.mod_eq_of_lt (by omega), Nat.mod_eq_of_lt (by omega)])
  rw [e]
  rfl
theorem pf_andw (x : Int64) : ∃ m, m < 2 ^ 32 ∧ x &&& 4294967295 = lN m := ⟨x.toBitVec.toNat % 2 ^ 32, Nat.mod_lt _ (by decide), Int64.toBitVec_inj.mp (BitVec.eq_of_toNat_eq (by
  show (x.toBitVec &&& 4294967295#64).toNat = (BitVec.ofNat 64 (x.toBitVec.toNat % 2 ^ 32)).toNat
  rw [BitVec.toNat_and, show (4294967295#64).toNat = 2 ^ 32 - 1 from by decide, Nat.and_two_pow_sub_one_eq_mod, BitVec.toNat_ofNat]
  omega))⟩
/-! ===== Int64 as an unsigned number: uN x ===== -/
def uN (x : Int64) : Nat := x.toUInt64.toNat
theorem uN_lt (x : Int64) : uN x < 18446744073709551616 := x.toUInt64.toNat_lt
theorem uN_inj {x y : Int64} (h : uN x = uN y) : x = y := congrArg UInt64.toInt64 (UInt64.toNat_inj.mp h)
theorem uN_add (x y : Int64) : uN (x + y) = (uN x + uN y) % 18446744073709551616 := by
  show (x.toUInt64 + y.toUInt64).toNat = _
  exact UInt64.toNat_add _ _
theorem uN_mul (x y : Int64) : uN (x * y) = (uN x * uN y) % 18446744073709551616 := by
  show (x.toUInt64 * y.toUInt64).toNat = _
  exact UInt64.toNat_mul _ _
theorem uN_shl (x : Int64) : uN (x <<< ((1 : Int32).toInt64 &&& 63)) = (2 * uN x) % 18446744073709551616 := by
  have h : (((1 : Int32).toInt64 &&& 63).toBitVec.smod 64).toNat = 1 := by decide
  show (x.toBitVec <<< (((1 : Int32).toInt64 &&& 63).toBitVec.smod 64).toNat).toNat = _
  rw [h, BitVec.toNat_shiftLeft, Nat.shiftLeft_eq, Nat.mul_comm]
  rfl
theorem uN_shr (x : Int64) (s : UInt64) : uN (x.toUInt64 >>> s).toInt64 = uN x / 2 ^ (s.toNat % 64) := by
  show (x.toUInt64 >>> s).toNat = _
  rw [UInt64.toNat_shiftRight, Nat.shiftRight_eq_div_pow]
  rfl
theorem uN_s32 (x : Int64) : uN (x.toUInt64 >>> ((32 : Int32).toInt64.toUInt64 &&& Int64.toUInt64 63)).toInt64 = uN x / 4294967296 := by
  have h : ((32 : Int32).toInt64.toUInt64 &&& Int64.toUInt64 63).toNat % 64 = 32 := by decide
  rw [uN_shr, h]
theorem uN_s63 (x : Int64) : uN (x.toUInt64 >>> ((63 : Int32).toInt64.toUInt64 &&& Int64.toUInt64 63)).toInt64 = uN x / 9223372036854775808 := by
  have h : ((63 : Int32).toInt64.toUInt64 &&& Int64.toUInt64 63).toNat % 64 = 63 := by decide
  rw [uN_shr, h]
theorem uN_lo (x : Int64) : uN (x &&& 4294967295) = uN x % 4294967296 := by
  show (x.toUInt64 &&& Int64.toUInt64 4294967295).toNat = _
  rw [UInt64.toNat_and]
  exact Nat.and_two_pow_sub_one_eq_mod _ 32
theorem uN_bit (x : Int64) : (x &&& 1) = 0 ↔ uN x % 2 = 0 := by
  have h : uN (x &&& 1) = uN x % 2 := by
    show (x.toUInt64 &&& Int64.toUInt64 1).toNat = _
    rw [UInt64.toNat_and]
    exact Nat.and_two_pow_sub_one_eq_mod _ 1
  rw [← h]
  exact ⟨fun z => by rw [z]; rfl, fun z => uN_inj (z.trans rfl)⟩
theorem uN_or {x y : Int64} (hy : uN y < 2) : uN ((x <<< ((1 : Int32).toInt64 &&& 63)) ||| y) = (2 * uN x) % 18446744073709551616 + uN y := by
  have h1 : uN ((x <<< ((1 : Int32).toInt64 &&& 63)) ||| y) = uN (x <<< ((1 : Int32).toInt64 &&& 63)) ||| uN y := UInt64.toNat_or _ _
  have h2 : (2 * uN x) % 18446744073709551616 = 2 ^ 1 * (uN x % 9223372036854775808) := by omega
  rw [h1, uN_shl, h2]
  exact (Nat.two_pow_add_eq_or_of_lt (i := 1) hy _).symm
theorem nat_xor {a : Nat} (h : a < 18446744073709551616) : a ^^^ 2 ^ 63 = (a + 9223372036854775808) % 18446744073709551616 := by
  have h1 : (a ^^^ 2 ^ 63) % 2 ^ 63 = a % 2 ^ 63 := by rw [Nat.xor_mod_two_pow, Nat.mod_self, Nat.xor_zero]
  have h2 : (a ^^^ 2 ^ 63) / 2 ^ 63 = (a / 2 ^ 63) ^^^ 1 := by rw [Nat.xor_div_two_pow, Nat.div_self (Nat.two_pow_pos 63)]
  have h3 : a / 2 ^ 63 = 0 ∨ a / 2 ^ 63 = 1 := by omega
  generalize a ^^^ 2 ^ 63 = t at h1 h2
  rcases h3 with h3 | h3
  · rw [h3] at h2
    have h2 : t / 2 ^ 63 = 1 := h2
    omega
  · rw [h3] at h2
    have h2 : t / 2 ^ 63 = 0 := h2
    omega
theorem uN_xor (x : Int64) : uN (x ^^^ (-9223372036854775808)) = (uN x + 9223372036854775808) % 18446744073709551616 := by
  rw [← nat_xor (uN_lt x)]
  exact UInt64.toNat_xor _ _
theorem uN_int (x : Int64) : x.toInt = if 2 * uN x < 18446744073709551616 then (uN x : Int) else (uN x : Int) - 18446744073709551616 := BitVec.toInt_eq_toNat_cond _
theorem uN_le (x y : Int64) : (x ^^^ (-9223372036854775808)) ≤ (y ^^^ (-9223372036854775808)) ↔ uN x ≤ uN y := by
  have hx := uN_lt x
  have hy := uN_lt y
  rw [Int64.le_iff_toInt_le, uN_int, uN_int, uN_xor, uN_xor]
  omega
theorem uN_sk (x : Int64) {k : Nat} (hk : k < 64) : uN (x.toUInt64 >>> ((nI k).toInt64.toUInt64 &&& Int64.toUInt64 63)).toInt64 = uN x / 2 ^ k := by
  have h : ((nI k).toInt64.toUInt64 &&& Int64.toUInt64 63).toNat % 64 = k := by
    rw [nI_l (by omega), UInt64.toNat_and]
    have e : (lN k).toUInt64.toNat = k % 2 ^ 64 := rfl
    have e2 : (Int64.toUInt64 63).toNat = 2 ^ 6 - 1 := by decide
    rw [e, e2, Nat.and_two_pow_sub_one_eq_mod]
    omega
  rw [uN_shr, h]
/-! ===== unsigned comparison by xor with the least ===== -/
theorem lN_bv (n : Nat) : (lN n).toBitVec = BitVec.ofNat 64 n := rfl
theorem lN_nat {n : Nat} (h : n < 2 ^ 64) : (lN n).toBitVec.toNat = n := by rw [lN_bv, BitVec.toNat_ofNat]; exact Nat.mod_eq_of_lt h
theorem lN_xor (a b : Nat) : lN a ^^^ lN b = lN (a ^^^ b) := by
  apply Int64.toBitVec_inj.mp; rw [Int64.toBitVec_xor, lN_bv, lN_bv, lN_bv]; apply BitVec.eq_of_getLsbD_eq; intro i hi; simp [BitVec.getLsbD_ofNat, Nat.testBit_xor, hi]
theorem lN_ti {m : Nat} (h : m < 2 ^ 64) : (lN m).toInt = if m < 2 ^ 63 then (m : Int) else (m : Int) - 2 ^ 64 := by
  have c := BitVec.toInt_eq_toNat_cond (lN m).toBitVec
  rw [lN_nat h] at c
  show (lN m).toBitVec.toInt = _
  rw [c]
  split <;> split <;> omega
theorem xor63 {x : Nat} (h : x < 2 ^ 63) : x ^^^ 2 ^ 63 = 2 ^ 63 + x := by
  apply Nat.eq_of_testBit_eq
  intro i
  rw [Nat.testBit_xor, Nat.testBit_two_pow]
  rcases Nat.lt_trichotomy i 63 with z | z | z
  · rw [Nat.testBit_two_pow_add_gt z, decide_eq_false (by omega)]; simp
  · subst z; rw [Nat.testBit_two_pow_add_eq]; simp
  · have hp : 2 ^ 64 ≤ 2 ^ i := Nat.pow_le_pow_right (by decide) z
    rw [Nat.testBit_lt_two_pow (show x < 2 ^ i by omega), Nat.testBit_lt_two_pow (show 2 ^ 63 + x < 2 ^ i by omega), decide_eq_false (by omega)]; rfl
theorem xorS {a : Nat} (h : a < 2 ^ 64) : (lN a ^^^ (-9223372036854775808)).toInt = (a : Int) - 2 ^ 63 := by
  rw [show (-9223372036854775808 : Int64) = lN (2 ^ 63) from by decide +kernel, lN_xor]
  rcases Nat.lt_or_ge a (2 ^ 63) with z | z
  · rw [xor63 z, lN_ti (by omega), if_neg (by omega)]; omega
  · obtain ⟨x, rfl⟩ : ∃ x, a = 2 ^ 63 + x := ⟨a - 2 ^ 63, by omega⟩
    rw [← xor63 (by omega), Nat.xor_assoc, Nat.xor_self, Nat.xor_zero, lN_ti (by omega), if_pos (by omega), xor63 (by omega)]; omega
theorem ultL {a b : Nat} (ha : a < 2 ^ 64) (hb : b < 2 ^ 64) : ((lN b ^^^ (-9223372036854775808)) ≤ (lN a ^^^ (-9223372036854775808))) ↔ b ≤ a := by
  rw [Int64.le_iff_toInt_le, xorS ha, xorS hb]; omega
/-! ===== Int64 masks of n low bits ===== -/
theorem cr_bits (W U M : BitVec 64) : ((W &&& U) &&& (U &&& (M ^^^ BitVec.allOnes 64))) = 0#64 ↔ (W &&& U) &&& M = W &&& U := by
  constructor
  · intro h
    apply BitVec.eq_of_getLsbD_eq
    intro i hi
    have e := congrArg (fun x => BitVec.getLsbD x i) h
    simp only [BitVec.getLsbD_and, BitVec.getLsbD_xor, BitVec.getLsbD_allOnes, BitVec.getLsbD_zero, hi, decide_true] at e ⊢
    revert e
    cases W.getLsbD i <;> cases U.getLsbD i <;> cases M.getLsbD i <;> decide
  · intro h
    apply BitVec.eq_of_getLsbD_eq
    intro i hi
    have e := congrArg (fun x => BitVec.getLsbD x i) h
    simp only [BitVec.getLsbD_and, BitVec.getLsbD_xor, BitVec.getLsbD_allOnes, BitVec.getLsbD_zero, hi, decide_true] at e ⊢
    revert e
    cases W.getLsbD i <;> cases U.getLsbD i <;> cases M.getLsbD i <;> decide
theorem cr_mask (w U m : Int64) (n : Nat) (hm : m.toBitVec.toNat = 2 ^ n - 1) : ((w &&& U) &&& (U &&& (m ^^^ (-1)))) = 0 ↔ (w &&& U).toBitVec.toNat < 2 ^ n := by
  have e0 : (-1 : Int64).toBitVec = BitVec.allOnes 64 := by decide
  have z0 : (0 : Int64).toBitVec = 0#64 := by decide
  rw [← Int64.toBitVec_inj, z0, Int64.toBitVec_and, Int64.toBitVec_and, Int64.toBitVec_and, Int64.toBitVec_xor, e0, cr_bits]
  generalize w.toBitVec &&& U.toBitVec = T
  rw [← BitVec.toNat_inj, BitVec.toNat_and, hm, Nat.and_two_pow_sub_one_eq_mod]
  constructor
  · intro h
    have t := Nat.mod_lt T.toNat (Nat.two_pow_pos n)
    rw [h] at t
    exact t
  · exact Nat.mod_eq_of_lt
theorem cr_shr (t : Int64) (x : UInt64) (n : Nat) (hx : x.toNat % 64 = n) : (t.toUInt64 >>> x).toInt64 = 0 ↔ t.toBitVec.toNat < 2 ^ n := by
  rw [← Int64.toBitVec_inj, ← BitVec.toNat_inj]
  show (t.toUInt64 >>> x).toNat = 0 ↔ t.toUInt64.toNat < 2 ^ n
  rw [UInt64.toNat_shiftRight, hx, Nat.shiftRight_eq_div_pow]
  constructor
  · intro h
    have d : t.toUInt64.toNat / 2 ^ n < 1 := by
      rw [h]
      decide
    have e := (Nat.div_lt_iff_lt_mul (Nat.two_pow_pos n)).mp d
    rw [Nat.one_mul] at e
    exact e
  · exact Nat.div_eq_of_lt
theorem cr_amt (s : Int64) : ∃ n, n < 64 ∧ s &&& 63 = lN n ∧ (s.toUInt64 &&& Int64.toUInt64 63).toNat % 64 = n := by
  have e : (s.toUInt64 &&& Int64.toUInt64 63).toNat = s.toUInt64.toNat % 2 ^ 6 := by
    rw [UInt64.toNat_and, show (Int64.toUInt64 63).toNat = 2 ^ 6 - 1 from by decide, Nat.and_two_pow_sub_one_eq_mod]
  refine ⟨s.toUInt64.toNat % 2 ^ 6, by omega, ?_, by omega⟩
  rw [← Int64.toBitVec_inj, ← BitVec.toNat_inj]
  show (s.toUInt64 &&& Int64.toUInt64 63).toNat = (BitVec.ofNat 64 (s.toUInt64.toNat % 2 ^ 6)).toNat
  rw [e, BitVec.toNat_ofNat]
  omega
end
section
/-! THE WORDS OF THE SPECIFICATION: functions over the reference's numbers N and rows R (both by the slots of its fields) -/
def inB (v a b : Int32) : Bool := decide (a ≤ v ∧ v ≤ b)
def isV (v : Int32) : Bool := inB v 1 9
def isP (n : Nat) (x : Int32) : Bool := decide (0 ≤ x.toInt ∧ x.toInt < n)
theorem inB_1 {v a b : Int32} (h1 : ¬ v < a) (h2 : ¬ b < v) : inB v a b = true := decide_eq_true ⟨fa_of_nlt h1, fa_of_nlt h2⟩
theorem inB_a {v a b : Int32} (h1 : v < a) : inB v a b = false := decide_eq_false (fun h => (fa_of_lt h1).2.1 h.1)
theorem inB_b {v a b : Int32} (h1 : b < v) : inB v a b = false := decide_eq_false (fun h => (fa_of_lt h1).2.1 h.2)
theorem isP_in {n : Nat} (hn : n < 1000000) (x : Int32) : inB x (nI 0) (nI n - nI 1) = isP n x := by
  have h : (nI n - nI 1).toInt = (n : Int) - 1 := by rw [pk_sub_toInt (by omega) (by omega)]; rfl
  have h0 : (nI 0).toInt = 0 := rfl
  unfold inB isP
  apply decide_eq_decide.mpr
  rw [fa_le, fa_le, h, h0]
  omega
theorem isP_of {n : Nat} {x : Int32} (h : isP n x = true) (hn : n < 1000000) : ∃ j : Nat, j < n ∧ x = nI j := by
  have ⟨h1, h2⟩ := of_decide_eq_true h
  exact ⟨x.toInt.toNat, by omega, (fa_eq _ _).mpr (by rw [nI_toInt (by omega)]; omega)⟩
theorem isP_nI {n j : Nat} (h : j < n) (hn : n < 1000000) : isP n (nI j) = true := decide_eq_true (by rw [nI_toInt (by omega)]; omega)
theorem nI_one : nI 1 = 1 := rfl
theorem nI_zero : nI 0 = 0 := rfl
theorem bI_d1 {c : Prop} [Decidable c] (h : c) : nI 1 = bI (decide c) := by rw [decide_eq_true h]; rfl
theorem bI_d0 {c : Prop} [Decidable c] (h : ¬ c) : nI 0 = bI (decide c) := by rw [decide_eq_false h]; rfl
theorem bI_1 {b : Bool} (h : b = true) : nI 1 = bI b := by rw [h]; rfl
theorem bI_0 {b : Bool} (h : b = false) : nI 0 = bI b := by rw [h]; rfl
def Bd (N : Nat → Nat) : Prop := N 0 ≤ 8 ∧ N 6 ≤ 12 ∧ N 17 ≤ 8 ∧ N 24 ≤ 8 ∧ N 30 ≤ 4000
abbrev SR : Type := (Nat → Nat) × (Nat → Nat → Int32)
/-- promise 2 -/
def sp_part (N : Nat → Nat) (R : Nat → Nat → Int32) (v w o : Int32) : Int32 × SR :=
  if isV v = true ∧ inB w (nI 0) (nI 1000) = true then
    if N 0 = 8 then (-3, N, R) else (nI (N 0), va_up N 0 (N 0 + 1), va_up (va_up (va_up R 1 (upd (R 1) (N 0) v)) 2 (upd (R 2) (N 0) w)) 3 (upd (R 3) (N 0) o))
  else (-1, N, R)
/-- promise 3 -/
def sp_link (N : Nat → Nat) (R : Nat → Nat → Int32) (f t o : Int32) : Int32 × SR :=
  if isP (N 0) f = true ∧ isP (N 0) t = true ∧ ¬ f = t then
    (bI (decide (¬ R 5 (8 * f.toNatClampNeg + t.toNatClampNeg) = 0)), N, va_up R 5 (upd (R 5) (8 * f.toNatClampNeg + t.toNatClampNeg) o))
  else (-1, N, R)
/-- promise 4 -/
def sp_guard (N : Nat → Nat) (R : Nat → Nat → Int32) (x o : Int32) : Int32 × SR :=
  if isP (N 0) x = true then (bI (decide (¬ R 4 x.toNatClampNeg = 0)), N, va_up R 4 (upd (R 4) x.toNatClampNeg o)) else (-1, N, R)
/-- promise 5 -/
def sp_version (N : Nat → Nat) (R : Nat → Nat → Int32) (x v : Int32) : Int32 × SR :=
  if isP (N 0) x = true ∧ isV v = true then (R 1 x.toNatClampNeg, N, va_up R 1 (upd (R 1) x.toNatClampNeg v)) else (-1, N, R)
/-- a hole is added -/
def sp_add (N : Nat → Nat) (R : Nat → Nat → Int32) (k x a b t : Int32) : Int32 × SR :=
  if N 6 = 12 then (-3, N, R) else (nI (N 6), va_up N 6 (N 6 + 1), va_up (va_up (va_up (va_up (va_up (va_up R 7 (upd (R 7) (N 6) k)) 8 (upd (R 8) (N 6) x)) 9 (upd (R 9) (N 6) a)) 10 (upd (R 10) (N 6) b)) 11 (upd (R 11) (N 6) t)) 12 (upd (R 12) (N 6) (nI 0)))
def isSp (N : Nat → Nat) (x a b : Int32) : Bool := isP (N 0) x && (isV a && (isV b && decide (a ≤ b)))
/-- promise 6 -/
def sp_hole (N : Nat → Nat) (R : Nat → Nat → Int32) (k x a b : Int32) : Int32 × SR :=
  if inB k (nI 0) (nI 4) = true ∧ ¬ k = nI 1 ∧ isSp N x a b = true then sp_add N R k x a b (-1) else (-1, N, R)
/-- promise 7 -/
def sp_chained (N : Nat → Nat) (R : Nat → Nat → Int32) (x a b t : Int32) : Int32 × SR :=
  if isSp N x a b = true ∧ isP (N 6) t = true then sp_add N R (nI 1) x a b t else (-1, N, R)
/-- promise 8 -/
def sp_wake (N : Nat → Nat) (R : Nat → Nat → Int32) (h o : Int32) : Int32 × SR :=
  if isP (N 6) h = true then
    if R 7 h.toNatClampNeg = nI 4 then (bI (decide (¬ R 12 h.toNatClampNeg = 0)), N, va_up R 12 (upd (R 12) h.toNatClampNeg o)) else (-13, N, R)
  else (-1, N, R)
/-- promise 9 -/
def sp_chain (N : Nat → Nat) (R : Nat → Nat → Int32) (h : Int32) : Int32 :=
  if isP (N 6) h = true then if R 7 h.toNatClampNeg = nI 1 then R 11 h.toNatClampNeg else -13 else -1
end
section
set_option maxHeartbeats 4000000 in
set_option maxRecDepth 100000 in
theorem c_in (l : Launch) (D : va_G) (cy : Nat → ClassId) (w0 : va_W) (v a b : Int32) : MS (α := Unit) l D cy yX12_in cX12_in 3 (Option.some FieldType.boolean) rm_X12_in [.int v, .int a, .int b] (w0) (fun v_ (_ : Unit) => v_ = some (.int (bI (inB v a b)))) (fun _ => w0) := by
  refine MS.mk2 (by decide) (Nat.le_of_ble_eq_true rfl) [(0, .int v), (1, .int a), (2, .int b)] rfl ?_
  intro p e s m args below meth c A ls Q hQ S hr hlk hnm hK hA I hl
  refine lv_iload_n S.1 S.2.1 dX12_in_0 rfl (lv_at hl 0 rfl) ?_
  refine lv_iload_n S.1 S.2.1 dX12_in_1 rfl (lv_at hl 1 rfl) ?_
  refine lv_icmp_lt (tgt := 14) S.1 S.2.1 dX12_in_2 (by decide) (fun c_2 => ?_) (fun c_2 => ?_)
  · skip
    refine lv_iconst (v := nI 0) S.1 S.2.1 dX12_in_14 (by decide) ?_
    exact ru_z hQ S hr hlk (by decide) (u := ()) I (congrArg (fun z => some (Value.int z)) (bI_0 (inB_a c_2))) dX12_in_15
  · skip
    refine lv_iload_n S.1 S.2.1 dX12_in_5 rfl (lv_at hl 0 rfl) ?_
    refine lv_iload_n S.1 S.2.1 dX12_in_6 rfl (lv_at hl 2 rfl) ?_
    refine lv_icmp_gt (tgt := 14) S.1 S.2.1 dX12_in_7 (by decide) (fun c_7 => ?_) (fun c_7 => ?_)
    · skip
      refine lv_iconst (v := nI 0) S.1 S.2.1 dX12_in_14 (by decide) ?_
      exact ru_z hQ S hr hlk (by decide) (u := ()) I (congrArg (fun z => some (Value.int z)) (bI_0 (inB_b c_7))) dX12_in_15
    · skip
      refine lv_iconst (v := nI 1) S.1 S.2.1 dX12_in_10 (by decide) ?_
      refine lv_goto (tgt := 15) S.1 S.2.1 dX12_in_11 (by decide) ?_
      exact ru_z hQ S hr hlk (by decide) (u := ()) I (congrArg (fun z => some (Value.int z)) (bI_1 (inB_1 c_2 c_7))) dX12_in_15
set_option maxHeartbeats 4000000 in
set_option maxRecDepth 100000 in
theorem c_isVersion (l : Launch) (D : va_G) (cy : Nat → ClassId) (w0 : va_W) (v : Int32) : MS (α := Unit) l D cy yX12_isVersion cX12_isVersion 1 (Option.some FieldType.boolean) rm_X12_isVersion [.int v] (w0) (fun v_ (_ : Unit) => v_ = some (.int (bI (isV v)))) (fun _ => w0) := by
  refine MS.mk2 (by decide) (Nat.le_of_ble_eq_true rfl) [(0, .int v)] rfl ?_
  intro p e s m args below meth c A ls Q hQ S hr hlk hnm hK hA I hl
  refine lv_iload_n S.1 S.2.1 dX12_isVersion_0 rfl (lv_at hl 0 rfl) ?_
  refine lv_iconst (v := nI 1) S.1 S.2.1 dX12_isVersion_1 (by decide) ?_
  refine lv_bipush (v := nI 9) S.1 S.2.1 dX12_isVersion_2 (by decide) ?_
  refine cS (np := 3) (As := [.int v, .int (nI 1), .int (nI 9)]) (rest := []) S (c_in l D cy (w0) v (nI 1) (nI 9)) hK hA I wm_X12_99 wt_X12_in wn_X12 wk_X12_in ⟨rfl, hd_X12_in⟩ rfl ⟨by decide, by decide⟩ hl.1 rfl (Nat.le_of_ble_eq_true rfl) dX12_isVersion_4 ⟨by decide, by decide⟩ (fun v_ u_ H locs h_ I => ?_)
  obtain rfl := h_
  have I : IX D A s.heap (w0) H locs := I
  refine W.eq (g2 := F0 m 7 ls [.int (bI (inB v (nI 1) (nI 9)))]) rfl ?_
  exact ru_z hQ S hr hlk (bI_01 _) (u := ()) I rfl dX12_isVersion_7
set_option maxHeartbeats 4000000 in
set_option maxRecDepth 100000 in
theorem c_isPart (l : Launch) (D : va_G) (cy : Nat → ClassId) (q : Nat → Nat) (N : Nat → Nat) (R X : Nat → Nat → Int32) (x : Int32) (hB : Bd N) : MS (α := Unit) l D cy yX12_isPart cX12_isPart 2 (Option.some FieldType.boolean) rm_X12_isPart [.ref (q 33), .int x] (wM cy q N R X) (fun v_ (_ : Unit) => v_ = some (.int (bI (isP (N 0) x)))) (fun _ => wM cy q N R X) := by
  refine MS.mk2 (by decide) (Nat.le_of_ble_eq_true rfl) [(0, .ref (q 33)), (1, .int x)] rfl ?_
  intro p e s m args below meth c A ls Q hQ S hr hlk hnm hK hA I hl
  have hB0 := hB
  obtain ⟨b0, b6, b17, b24, b30⟩ := hB0
  refine lv_iload_n S.1 S.2.1 dX12_isPart_0 rfl (lv_at hl 1 rfl) ?_
  refine lv_iconst (v := nI 0) S.1 S.2.1 dX12_isPart_1 (by decide) ?_
  refine lv_aload_n S.1 S.2.1 dX12_isPart_2 rfl (lv_at hl 0 rfl) ?_
  refine rg (ci := 12) (q0 := 0) (v := .int (nI (N 0))) 0 S hK I cl_X12 rfl wf_X12_95 (by decide) rfl rfl rfl dX12_isPart_3 ?_
  refine lv_iconst (v := nI 1) S.1 S.2.1 dX12_isPart_6 (by decide) ?_
  refine lv_isub S.1 S.2.1 dX12_isPart_7 ?_
  refine cS (np := 3) (As := [.int x, .int (nI 0), .int ((nI (N 0)) - (nI 1))]) (rest := []) S (c_in l D cy (wM cy q N R X) x (nI 0) ((nI (N 0)) - (nI 1))) hK hA I wm_X12_99 wt_X12_in wn_X12 wk_X12_in ⟨rfl, hd_X12_in⟩ rfl ⟨by decide, by decide⟩ hl.1 rfl (Nat.le_of_ble_eq_true rfl) dX12_isPart_8 ⟨by decide, by decide⟩ (fun v_ u_ H locs h_ I => ?_)
  obtain rfl := h_
  have I : IX D A s.heap (wM cy q N R X) H locs := I
  refine W.eq (g2 := F0 m 11 ls [.int (bI (inB x (nI 0) ((nI (N 0)) - (nI 1))))]) rfl ?_
  refine tI (y := bI (isP (N 0) x)) (congrArg bI (isP_in (by omega) _)) ?_
  exact ru_z hQ S hr hlk (bI_01 _) (u := ()) I rfl dX12_isPart_11
set_option maxHeartbeats 4000000 in
set_option maxRecDepth 100000 in
theorem c_isHole (l : Launch) (D : va_G) (cy : Nat → ClassId) (q : Nat → Nat) (N : Nat → Nat) (R X : Nat → Nat → Int32) (x : Int32) (hB : Bd N) : MS (α := Unit) l D cy yX12_isHole cX12_isHole 2 (Option.some FieldType.boolean) rm_X12_isHole [.ref (q 33), .int x] (wM cy q N R X) (fun v_ (_ : Unit) => v_ = some (.int (bI (isP (N 6) x)))) (fun _ => wM cy q N R X) := by
  refine MS.mk2 (by decide) (Nat.le_of_ble_eq_true rfl) [(0, .ref (q 33)), (1, .int x)] rfl ?_
  intro p e s m args below meth c A ls Q hQ S hr hlk hnm hK hA I hl
  have hB0 := hB
  obtain ⟨b0, b6, b17, b24, b30⟩ := hB0
  refine lv_iload_n S.1 S.2.1 dX12_isHole_0 rfl (lv_at hl 1 rfl) ?_
  refine lv_iconst (v := nI 0) S.1 S.2.1 dX12_isHole_1 (by decide) ?_
  refine lv_aload_n S.1 S.2.1 dX12_isHole_2 rfl (lv_at hl 0 rfl) ?_
  refine rg (ci := 12) (q0 := 0) (v := .int (nI (N 6))) 6 S hK I cl_X12 rfl wf_X12_110 (by decide) rfl rfl rfl dX12_isHole_3 ?_
  refine lv_iconst (v := nI 1) S.1 S.2.1 dX12_isHole_6 (by decide) ?_
  refine lv_isub S.1 S.2.1 dX12_isHole_7 ?_
  refine cS (np := 3) (As := [.int x, .int (nI 0), .int ((nI (N 6)) - (nI 1))]) (rest := []) S (c_in l D cy (wM cy q N R X) x (nI 0) ((nI (N 6)) - (nI 1))) hK hA I wm_X12_99 wt_X12_in wn_X12 wk_X12_in ⟨rfl, hd_X12_in⟩ rfl ⟨by decide, by decide⟩ hl.1 rfl (Nat.le_of_ble_eq_true rfl) dX12_isHole_8 ⟨by decide, by decide⟩ (fun v_ u_ H locs h_ I => ?_)
  obtain rfl := h_
  have I : IX D A s.heap (wM cy q N R X) H locs := I
  refine W.eq (g2 := F0 m 11 ls [.int (bI (inB x (nI 0) ((nI (N 6)) - (nI 1))))]) rfl ?_
  refine tI (y := bI (isP (N 6) x)) (congrArg bI (isP_in (by omega) _)) ?_
  exact ru_z hQ S hr hlk (bI_01 _) (u := ()) I rfl dX12_isHole_11
set_option maxHeartbeats 4000000 in
set_option maxRecDepth 100000 in
theorem c_isMend (l : Launch) (D : va_G) (cy : Nat → ClassId) (q : Nat → Nat) (N : Nat → Nat) (R X : Nat → Nat → Int32) (x : Int32) (hB : Bd N) : MS (α := Unit) l D cy yX12_isMend cX12_isMend 2 (Option.some FieldType.boolean) rm_X12_isMend [.ref (q 33), .int x] (wM cy q N R X) (fun v_ (_ : Unit) => v_ = some (.int (bI (isP (N 17) x)))) (fun _ => wM cy q N R X) := by
  refine MS.mk2 (by decide) (Nat.le_of_ble_eq_true rfl) [(0, .ref (q 33)), (1, .int x)] rfl ?_
  intro p e s m args below meth c A ls Q hQ S hr hlk hnm hK hA I hl
  have hB0 := hB
  obtain ⟨b0, b6, b17, b24, b30⟩ := hB0
  refine lv_iload_n S.1 S.2.1 dX12_isMend_0 rfl (lv_at hl 1 rfl) ?_
  refine lv_iconst (v := nI 0) S.1 S.2.1 dX12_isMend_1 (by decide) ?_
  refine lv_aload_n S.1 S.2.1 dX12_isMend_2 rfl (lv_at hl 0 rfl) ?_
  refine rg (ci := 12) (q0 := 0) (v := .int (nI (N 17))) 17 S hK I cl_X12 rfl wf_X12_123 (by decide) rfl rfl rfl dX12_isMend_3 ?_
  refine lv_iconst (v := nI 1) S.1 S.2.1 dX12_isMend_6 (by decide) ?_
  refine lv_isub S.1 S.2.1 dX12_isMend_7 ?_
  refine cS (np := 3) (As := [.int x, .int (nI 0), .int ((nI (N 17)) - (nI 1))]) (rest := []) S (c_in l D cy (wM cy q N R X) x (nI 0) ((nI (N 17)) - (nI 1))) hK hA I wm_X12_99 wt_X12_in wn_X12 wk_X12_in ⟨rfl, hd_X12_in⟩ rfl ⟨by decide, by decide⟩ hl.1 rfl (Nat.le_of_ble_eq_true rfl) dX12_isMend_8 ⟨by decide, by decide⟩ (fun v_ u_ H locs h_ I => ?_)
  obtain rfl := h_
  have I : IX D A s.heap (wM cy q N R X) H locs := I
  refine W.eq (g2 := F0 m 11 ls [.int (bI (inB x (nI 0) ((nI (N 17)) - (nI 1))))]) rfl ?_
  refine tI (y := bI (isP (N 17) x)) (congrArg bI (isP_in (by omega) _)) ?_
  exact ru_z hQ S hr hlk (bI_01 _) (u := ()) I rfl dX12_isMend_11
set_option maxHeartbeats 4000000 in
set_option maxRecDepth 100000 in
theorem c_part (l : Launch) (D : va_G) (cy : Nat → ClassId) (q : Nat → Nat) (N : Nat → Nat) (R X : Nat → Nat → Int32) (v w o : Int32) (hB : Bd N) (hz_o : o = 0 ∨ o = 1) : MS (α := SR) l D cy yX12_part cX12_part 4 (Option.some FieldType.int) rm_X12_part [.ref (q 33), .int v, .int w, .int o] (wM cy q N R X) (fun v_ u_ => v_ = some (.int (sp_part N R v w o).1) ∧ u_ = (sp_part N R v w o).2) (fun u_ => wM cy q u_.1 u_.2 X) := by
  refine MS.mk2 (by decide) (Nat.le_of_ble_eq_true rfl) [(0, .ref (q 33)), (1, .int v), (2, .int w), (3, .int o)] rfl ?_
  intro p e s m args below meth c A ls Q hQ S hr hlk hnm hK hA I hl
  have hB0 := hB
  obtain ⟨b0, b6, b17, b24, b30⟩ := hB0
  refine lv_iload_n S.1 S.2.1 dX12_part_0 rfl (lv_at hl 1 rfl) ?_
  refine cS (np := 1) (As := [.int v]) (rest := []) S (c_isVersion l D cy (wM cy q N R X) v) hK hA I wm_X12_103 wt_X12_isVersion wn_X12 wk_X12_isVersion ⟨rfl, hd_X12_isVersion⟩ rfl ⟨by decide, by decide⟩ hl.1 rfl (Nat.le_of_ble_eq_true rfl) dX12_part_1 ⟨by decide, by decide⟩ (fun v_ u_ H locs h_ I => ?_)
  obtain rfl := h_
  have I : IX D A s.heap (wM cy q N R X) H locs := I
  refine W.eq (g2 := F0 m 4 ls [.int (bI (isV v))]) rfl ?_
  refine lv_if_eq (tgt := 18) S.1 S.2.1 dX12_part_4 (by decide) (fun c_4 => ?_) (fun c_4 => ?_)
  · skip
    have c_4 := bI_f c_4
    refine lv_iconst (v := (-1)) S.1 S.2.1 dX12_part_18 (by decide) ?_
    exact ru_i hQ S hr hlk (u := (N, R)) I (by simp [sp_part, c_4, bI]) dX12_part_19
  · skip
    have c_4 := bI_t c_4
    refine lv_iload_n S.1 S.2.1 dX12_part_7 rfl (lv_at hl 2 rfl) ?_
    refine lv_iconst (v := nI 0) S.1 S.2.1 dX12_part_8 (by decide) ?_
    refine lv_sipush (v := nI 1000) S.1 S.2.1 dX12_part_9 (by decide) ?_
    refine cS (np := 3) (As := [.int w, .int (nI 0), .int (nI 1000)]) (rest := []) S (c_in l D cy (wM cy q N R X) w (nI 0) (nI 1000)) hK hA I wm_X12_99 wt_X12_in wn_X12 wk_X12_in ⟨rfl, hd_X12_in⟩ rfl ⟨by decide, by decide⟩ hl.1 rfl (Nat.le_of_ble_eq_true rfl) dX12_part_12 ⟨by decide, by decide⟩ (fun v_ u_ H locs h_ I => ?_)
    obtain rfl := h_
    have I : IX D A s.heap (wM cy q N R X) H locs := I
    refine W.eq (g2 := F0 m 15 ls [.int (bI (inB w (nI 0) (nI 1000)))]) rfl ?_
    refine lv_if_ne (tgt := 20) S.1 S.2.1 dX12_part_15 (by decide) (fun c_15 => ?_) (fun c_15 => ?_)
    · skip
      have c_15 := bI_t c_15
      refine lv_aload_n S.1 S.2.1 dX12_part_20 rfl (lv_at hl 0 rfl) ?_
      refine rg (ci := 12) (q0 := 0) (v := .int (nI (N 0))) 0 S hK I cl_X12 rfl wf_X12_95 (by decide) rfl rfl rfl dX12_part_21 ?_
      refine lv_bipush (v := nI 8) S.1 S.2.1 dX12_part_24 (by decide) ?_
      refine lv_icmp_ne (tgt := 32) S.1 S.2.1 dX12_part_26 (by decide) (fun c_26 => ?_) (fun c_26 => ?_)
      · skip
        have c_26o := c_26
        have c_26 := nI_cneT (by omega) (by omega) c_26
        refine lv_aload_n S.1 S.2.1 dX12_part_32 rfl (lv_at hl 0 rfl) ?_
        refine rg (ci := 12) (q0 := 0) (v := .ref (q 1)) 1 S hK I cl_X12 rfl wf_X12_7 (by decide) rfl rfl rfl dX12_part_33 ?_
        refine lv_aload_n S.1 S.2.1 dX12_part_36 rfl (lv_at hl 0 rfl) ?_
        refine rg (ci := 12) (q0 := 0) (v := .int (nI (N 0))) 0 S hK I cl_X12 rfl wf_X12_95 (by decide) rfl rfl rfl dX12_part_37 ?_
        refine lv_iload_n S.1 S.2.1 dX12_part_40 rfl (lv_at hl 1 rfl) ?_
        refine si (q0 := 1) (n := 8) (f := R 1) (N 0) S hK I rfl rfl (by omega) (by decide) dX12_part_41 (fun H locs I => ?_)
        have I : IX D A s.heap (wM cy q N (va_up R 1 (upd (R 1) (N 0) v)) X) H locs := I
        refine lv_aload_n S.1 S.2.1 dX12_part_42 rfl (lv_at hl 0 rfl) ?_
        refine rg (ci := 12) (q0 := 0) (v := .ref (q 2)) 2 S hK I cl_X12 rfl wf_X12_13 (by decide) rfl rfl rfl dX12_part_43 ?_
        refine lv_aload_n S.1 S.2.1 dX12_part_46 rfl (lv_at hl 0 rfl) ?_
        refine rg (ci := 12) (q0 := 0) (v := .int (nI (N 0))) 0 S hK I cl_X12 rfl wf_X12_95 (by decide) rfl rfl rfl dX12_part_47 ?_
        refine lv_iload_n S.1 S.2.1 dX12_part_50 rfl (lv_at hl 2 rfl) ?_
        refine si (q0 := 2) (n := 8) (f := R 2) (N 0) S hK I rfl rfl (by omega) (by decide) dX12_part_51 (fun H locs I => ?_)
        have I : IX D A s.heap (wM cy q N (va_up (va_up R 1 (upd (R 1) (N 0) v)) 2 (upd (R 2) (N 0) w)) X) H locs := I
        refine lv_aload_n S.1 S.2.1 dX12_part_52 rfl (lv_at hl 0 rfl) ?_
        refine rg (ci := 12) (q0 := 0) (v := .ref (q 3)) 3 S hK I cl_X12 rfl wf_X12_16 (by decide) rfl rfl rfl dX12_part_53 ?_
        refine lv_aload_n S.1 S.2.1 dX12_part_56 rfl (lv_at hl 0 rfl) ?_
        refine rg (ci := 12) (q0 := 0) (v := .int (nI (N 0))) 0 S hK I cl_X12 rfl wf_X12_95 (by decide) rfl rfl rfl dX12_part_57 ?_
        refine lv_iload_n S.1 S.2.1 dX12_part_60 rfl (lv_at hl 3 rfl) ?_
        refine sz (q0 := 3) (n := 8) (f := R 3) (N 0) S hK I rfl rfl (by omega) (by decide) (by assumption) dX12_part_61 (fun H locs I => ?_)
        have I : IX D A s.heap (wM cy q N (va_up (va_up (va_up R 1 (upd (R 1) (N 0) v)) 2 (upd (R 2) (N 0) w)) 3 (upd (R 3) (N 0) o)) X) H locs := I
        refine lv_aload_n S.1 S.2.1 dX12_part_62 rfl (lv_at hl 0 rfl) ?_
        refine lv_dup S.1 S.2.1 dX12_part_63 rfl ?_
        refine rg (ci := 12) (q0 := 0) (v := .int (nI (N 0))) 0 S hK I cl_X12 rfl wf_X12_95 (by decide) rfl rfl rfl dX12_part_64 ?_
        refine lv_iconst (v := nI 1) S.1 S.2.1 dX12_part_67 (by decide) ?_
        refine lv_iadd S.1 S.2.1 dX12_part_68 ?_
        refine tI (y := nI ((N 0) + 1)) (nI_add _ _) ?_
        refine rp (ci := 12) (q0 := 0) (v := .int (nI ((N 0) + 1))) (ty := .int) 0 S hK I cl_X12 rfl wf_X12_95 (by decide) rfl tyX12_ok nmX12 rfl (by decide +kernel) rfl rfl (by exact Nat.le_of_ble_eq_true rfl) rfl dX12_part_69 (fun H locs I => ?_)
        have I : IX D A s.heap (wM cy q (va_up N 0 ((N 0) + 1)) (va_up (va_up (va_up R 1 (upd (R 1) (N 0) v)) 2 (upd (R 2) (N 0) w)) 3 (upd (R 3) (N 0) o)) X) H locs := I
        refine lv_aload_n S.1 S.2.1 dX12_part_72 rfl (lv_at hl 0 rfl) ?_
        refine rg (ci := 12) (q0 := 0) (v := .int (nI ((N 0) + 1))) 0 S hK I cl_X12 rfl wf_X12_95 (by decide) rfl rfl rfl dX12_part_73 ?_
        refine lv_iconst (v := nI 1) S.1 S.2.1 dX12_part_76 (by decide) ?_
        refine lv_isub S.1 S.2.1 dX12_part_77 ?_
        refine tI (y := nI (N 0)) (by rw [pk_sub (by omega)]; rfl) ?_
        exact ru_i hQ S hr hlk (u := ((va_up N 0 ((N 0) + 1)), (va_up (va_up (va_up R 1 (upd (R 1) (N 0) v)) 2 (upd (R 2) (N 0) w)) 3 (upd (R 3) (N 0) o)))) I (by simp [sp_part, c_4, c_15, c_26o, c_26, bI]) dX12_part_78
      · skip
        have c_26o := c_26
        have c_26 := nI_cneF (by omega) (by omega) c_26
        refine lv_bipush (v := (-3)) S.1 S.2.1 dX12_part_29 (by decide) ?_
        exact ru_i hQ S hr hlk (u := (N, R)) I (by simp [sp_part, c_4, c_15, c_26o, c_26, bI]) dX12_part_31
    · skip
      have c_15 := bI_f c_15
      refine lv_iconst (v := (-1)) S.1 S.2.1 dX12_part_18 (by decide) ?_
      exact ru_i hQ S hr hlk (u := (N, R)) I (by simp [sp_part, c_4, c_15, bI]) dX12_part_19
set_option maxHeartbeats 4000000 in
set_option maxRecDepth 100000 in
theorem c_link (l : Launch) (D : va_G) (cy : Nat → ClassId) (q : Nat → Nat) (N : Nat → Nat) (R X : Nat → Nat → Int32) (f t o : Int32) (hB : Bd N) (hz_o : o = 0 ∨ o = 1) : MS (α := SR) l D cy yX12_link cX12_link 5 (Option.some FieldType.int) rm_X12_link [.ref (q 33), .int f, .int t, .int o] (wM cy q N R X) (fun v_ u_ => v_ = some (.int (sp_link N R f t o).1) ∧ u_ = (sp_link N R f t o).2) (fun u_ => wM cy q u_.1 u_.2 X) := by
  refine MS.mk2 (by decide) (Nat.le_of_ble_eq_true rfl) [(0, .ref (q 33)), (1, .int f), (2, .int t), (3, .int o)] rfl ?_
  intro p e s m args below meth c A ls Q hQ S hr hlk hnm hK hA I hl
  have hB0 := hB
  obtain ⟨b0, b6, b17, b24, b30⟩ := hB0
  refine lv_aload_n S.1 S.2.1 dX12_link_0 rfl (lv_at hl 0 rfl) ?_
  refine lv_iload_n S.1 S.2.1 dX12_link_1 rfl (lv_at hl 1 rfl) ?_
  refine cV (np := 1) (ci := 12) (q0 := 0) (As := [.int f]) (rest := []) S (c_isPart l D cy q N R X (f) hB) hK hA I wm_X12_107 wi_X12_isPart ws_X12_X12_isPart wn_X12 wk_X12_isPart ⟨rfl, hd_X12_isPart⟩ rfl ⟨by decide, by decide⟩ rfl rfl hl.1 rfl (Nat.le_of_ble_eq_true rfl) dX12_link_2 ⟨by decide, by decide⟩ (fun v_ u_ H locs h_ I => ?_)
  obtain rfl := h_
  have I : IX D A s.heap (wM cy q N R X) H locs := I
  refine W.eq (g2 := F0 m 5 ls [.int (bI (isP (N 0) f))]) rfl ?_
  refine lv_if_eq (tgt := 21) S.1 S.2.1 dX12_link_5 (by decide) (fun c_5 => ?_) (fun c_5 => ?_)
  · skip
    have c_5 := bI_f c_5
    refine lv_iconst (v := (-1)) S.1 S.2.1 dX12_link_21 (by decide) ?_
    exact ru_i hQ S hr hlk (u := (N, R)) I (by simp [sp_link, c_5, bI, nI_one, nI_zero]) dX12_link_22
  · skip
    have c_5 := bI_t c_5
    obtain ⟨jf, h_jf, rfl⟩ := isP_of c_5 (by omega)
    have e_jf : (nI jf).toNatClampNeg = jf := nI_clamp (by omega)
    refine lv_aload_n S.1 S.2.1 dX12_link_8 rfl (lv_at hl 0 rfl) ?_
    refine lv_iload_n S.1 S.2.1 dX12_link_9 rfl (lv_at hl 2 rfl) ?_
    refine cV (np := 1) (ci := 12) (q0 := 0) (As := [.int t]) (rest := []) S (c_isPart l D cy q N R X (t) hB) hK hA I wm_X12_107 wi_X12_isPart ws_X12_X12_isPart wn_X12 wk_X12_isPart ⟨rfl, hd_X12_isPart⟩ rfl ⟨by decide, by decide⟩ rfl rfl hl.1 rfl (Nat.le_of_ble_eq_true rfl) dX12_link_10 ⟨by decide, by decide⟩ (fun v_ u_ H locs h_ I => ?_)
    obtain rfl := h_
    have I : IX D A s.heap (wM cy q N R X) H locs := I
    refine W.eq (g2 := F0 m 13 ls [.int (bI (isP (N 0) t))]) rfl ?_
    refine lv_if_eq (tgt := 21) S.1 S.2.1 dX12_link_13 (by decide) (fun c_13 => ?_) (fun c_13 => ?_)
    · skip
      have c_13 := bI_f c_13
      refine lv_iconst (v := (-1)) S.1 S.2.1 dX12_link_21 (by decide) ?_
      exact ru_i hQ S hr hlk (u := (N, R)) I (by simp [sp_link, c_5, e_jf, c_13, bI, nI_one, nI_zero]) dX12_link_22
    · skip
      have c_13 := bI_t c_13
      obtain ⟨jt, h_jt, rfl⟩ := isP_of c_13 (by omega)
      have e_jt : (nI jt).toNatClampNeg = jt := nI_clamp (by omega)
      refine lv_iload_n S.1 S.2.1 dX12_link_16 rfl (lv_at hl 1 rfl) ?_
      refine lv_iload_n S.1 S.2.1 dX12_link_17 rfl (lv_at hl 2 rfl) ?_
      refine lv_icmp_ne (tgt := 23) S.1 S.2.1 dX12_link_18 (by decide) (fun c_18 => ?_) (fun c_18 => ?_)
      · skip
        have c_18o := c_18
        have c_18 := nI_cneT (by omega) (by omega) c_18
        refine lv_aload_n S.1 S.2.1 dX12_link_23 rfl (lv_at hl 0 rfl) ?_
        refine rg (ci := 12) (q0 := 0) (v := .ref (q 5)) 5 S hK I cl_X12 rfl wf_X12_23 (by decide) rfl rfl rfl dX12_link_24 ?_
        refine lv_bipush (v := nI 8) S.1 S.2.1 dX12_link_27 (by decide) ?_
        refine lv_iload_n S.1 S.2.1 dX12_link_29 rfl (lv_at hl 1 rfl) ?_
        refine lv_imul S.1 S.2.1 dX12_link_30 ?_
        refine tI (y := nI (8 * jf)) (pk_mul _ _) ?_
        refine lv_iload_n S.1 S.2.1 dX12_link_31 rfl (lv_at hl 2 rfl) ?_
        refine lv_iadd S.1 S.2.1 dX12_link_32 ?_
        refine tI (y := nI ((8 * jf) + jt)) (nI_add _ _) ?_
        refine rz (q0 := 5) (n := 64) (f := R 5) ((8 * jf) + jt) S hK I rfl rfl (by omega) (by decide) dX12_link_33 ?_
        refine lv_if_eq (tgt := 41) S.1 S.2.1 dX12_link_34 (by decide) (fun c_34 => ?_) (fun c_34 => ?_)
        · skip
          refine lv_iconst (v := nI 0) S.1 S.2.1 dX12_link_41 (by decide) ?_
          refine lv_istore (lv' := [(4, .int (nI 0)), (0, .ref (q 33)), (1, .int (nI jf)), (2, .int (nI jt)), (3, .int o)]) S.1 S.2.1 dX12_link_42 hl (by decide) rfl (fun ls hl => ?_)
          refine lv_aload_n S.1 S.2.1 dX12_link_44 rfl (lv_at hl 1 rfl) ?_
          refine rg (ci := 12) (q0 := 0) (v := .ref (q 5)) 5 S hK I cl_X12 rfl wf_X12_23 (by decide) rfl rfl rfl dX12_link_45 ?_
          refine lv_bipush (v := nI 8) S.1 S.2.1 dX12_link_48 (by decide) ?_
          refine lv_iload_n S.1 S.2.1 dX12_link_50 rfl (lv_at hl 2 rfl) ?_
          refine lv_imul S.1 S.2.1 dX12_link_51 ?_
          refine tI (y := nI (8 * jf)) (pk_mul _ _) ?_
          refine lv_iload_n S.1 S.2.1 dX12_link_52 rfl (lv_at hl 3 rfl) ?_
          refine lv_iadd S.1 S.2.1 dX12_link_53 ?_
          refine tI (y := nI ((8 * jf) + jt)) (nI_add _ _) ?_
          refine lv_iload_n S.1 S.2.1 dX12_link_54 rfl (lv_at hl 4 rfl) ?_
          refine sz (q0 := 5) (n := 64) (f := R 5) ((8 * jf) + jt) S hK I rfl rfl (by omega) (by decide) (by assumption) dX12_link_55 (fun H locs I => ?_)
          have I : IX D A s.heap (wM cy q N (va_up R 5 (upd (R 5) ((8 * jf) + jt) o)) X) H locs := I
          refine lv_iload S.1 S.2.1 dX12_link_56 (lv_at hl 0 rfl) ?_
          exact ru_i hQ S hr hlk (u := (N, (va_up R 5 (upd (R 5) ((8 * jf) + jt) o)))) I (by simp [sp_link, c_5, e_jf, c_13, e_jt, c_18o, c_18, c_34, bI, nI_one, nI_zero]) dX12_link_58
        · skip
          refine lv_iconst (v := nI 1) S.1 S.2.1 dX12_link_37 (by decide) ?_
          refine lv_goto (tgt := 42) S.1 S.2.1 dX12_link_38 (by decide) ?_
          refine lv_istore (lv' := [(4, .int (nI 1)), (0, .ref (q 33)), (1, .int (nI jf)), (2, .int (nI jt)), (3, .int o)]) S.1 S.2.1 dX12_link_42 hl (by decide) rfl (fun ls hl => ?_)
          refine lv_aload_n S.1 S.2.1 dX12_link_44 rfl (lv_at hl 1 rfl) ?_
          refine rg (ci := 12) (q0 := 0) (v := .ref (q 5)) 5 S hK I cl_X12 rfl wf_X12_23 (by decide) rfl rfl rfl dX12_link_45 ?_
          refine lv_bipush (v := nI 8) S.1 S.2.1 dX12_link_48 (by decide) ?_
          refine lv_iload_n S.1 S.2.1 dX12_link_50 rfl (lv_at hl 2 rfl) ?_
          refine lv_imul S.1 S.2.1 dX12_link_51 ?_
          refine tI (y := nI (8 * jf)) (pk_mul _ _) ?_
          refine lv_iload_n S.1 S.2.1 dX12_link_52 rfl (lv_at hl 3 rfl) ?_
          refine lv_iadd S.1 S.2.1 dX12_link_53 ?_
          refine tI (y := nI ((8 * jf) + jt)) (nI_add _ _) ?_
          refine lv_iload_n S.1 S.2.1 dX12_link_54 rfl (lv_at hl 4 rfl) ?_
          refine sz (q0 := 5) (n := 64) (f := R 5) ((8 * jf) + jt) S hK I rfl rfl (by omega) (by decide) (by assumption) dX12_link_55 (fun H locs I => ?_)
          have I : IX D A s.heap (wM cy q N (va_up R 5 (upd (R 5) ((8 * jf) + jt) o)) X) H locs := I
          refine lv_iload S.1 S.2.1 dX12_link_56 (lv_at hl 0 rfl) ?_
          exact ru_i hQ S hr hlk (u := (N, (va_up R 5 (upd (R 5) ((8 * jf) + jt) o)))) I (by simp [sp_link, c_5, e_jf, c_13, e_jt, c_18o, c_18, c_34, bI, nI_one, nI_zero]) dX12_link_58
      · skip
        have c_18o := c_18
        have c_18 := nI_cneF (by omega) (by omega) c_18
        refine lv_iconst (v := (-1)) S.1 S.2.1 dX12_link_21 (by decide) ?_
        exact ru_i hQ S hr hlk (u := (N, R)) I (by simp [sp_link, c_5, e_jf, c_13, e_jt, c_18o, c_18, bI, nI_one, nI_zero]) dX12_link_22
set_option maxHeartbeats 4000000 in
set_option maxRecDepth 100000 in
theorem c_guard (l : Launch) (D : va_G) (cy : Nat → ClassId) (q : Nat → Nat) (N : Nat → Nat) (R X : Nat → Nat → Int32) (x o : Int32) (hB : Bd N) (hz_o : o = 0 ∨ o = 1) : MS (α := SR) l D cy yX12_guard cX12_guard 4 (Option.some FieldType.int) rm_X12_guard [.ref (q 33), .int x, .int o] (wM cy q N R X) (fun v_ u_ => v_ = some (.int (sp_guard N R x o).1) ∧ u_ = (sp_guard N R x o).2) (fun u_ => wM cy q u_.1 u_.2 X) := by
  refine MS.mk2 (by decide) (Nat.le_of_ble_eq_true rfl) [(0, .ref (q 33)), (1, .int x), (2, .int o)] rfl ?_
  intro p e s m args below meth c A ls Q hQ S hr hlk hnm hK hA I hl
  have hB0 := hB
  obtain ⟨b0, b6, b17, b24, b30⟩ := hB0
  refine lv_aload_n S.1 S.2.1 dX12_guard_0 rfl (lv_at hl 0 rfl) ?_
  refine lv_iload_n S.1 S.2.1 dX12_guard_1 rfl (lv_at hl 1 rfl) ?_
  refine cV (np := 1) (ci := 12) (q0 := 0) (As := [.int x]) (rest := []) S (c_isPart l D cy q N R X (x) hB) hK hA I wm_X12_107 wi_X12_isPart ws_X12_X12_isPart wn_X12 wk_X12_isPart ⟨rfl, hd_X12_isPart⟩ rfl ⟨by decide, by decide⟩ rfl rfl hl.1 rfl (Nat.le_of_ble_eq_true rfl) dX12_guard_2 ⟨by decide, by decide⟩ (fun v_ u_ H locs h_ I => ?_)
  obtain rfl := h_
  have I : IX D A s.heap (wM cy q N R X) H locs := I
  refine W.eq (g2 := F0 m 5 ls [.int (bI (isP (N 0) x))]) rfl ?_
  refine lv_if_ne (tgt := 10) S.1 S.2.1 dX12_guard_5 (by decide) (fun c_5 => ?_) (fun c_5 => ?_)
  · skip
    have c_5 := bI_t c_5
    obtain ⟨j, h_j, rfl⟩ := isP_of c_5 (by omega)
    have e_j : (nI j).toNatClampNeg = j := nI_clamp (by omega)
    refine lv_aload_n S.1 S.2.1 dX12_guard_10 rfl (lv_at hl 0 rfl) ?_
    refine rg (ci := 12) (q0 := 0) (v := .ref (q 4)) 4 S hK I cl_X12 rfl wf_X12_20 (by decide) rfl rfl rfl dX12_guard_11 ?_
    refine lv_iload_n S.1 S.2.1 dX12_guard_14 rfl (lv_at hl 1 rfl) ?_
    refine rz (q0 := 4) (n := 8) (f := R 4) j S hK I rfl rfl (by omega) (by decide) dX12_guard_15 ?_
    refine lv_if_eq (tgt := 23) S.1 S.2.1 dX12_guard_16 (by decide) (fun c_16 => ?_) (fun c_16 => ?_)
    · skip
      refine lv_iconst (v := nI 0) S.1 S.2.1 dX12_guard_23 (by decide) ?_
      refine lv_istore_n (lv' := [(3, .int (nI 0)), (0, .ref (q 33)), (1, .int (nI j)), (2, .int o)]) S.1 S.2.1 dX12_guard_24 rfl hl (by decide) rfl (fun ls hl => ?_)
      refine lv_aload_n S.1 S.2.1 dX12_guard_25 rfl (lv_at hl 1 rfl) ?_
      refine rg (ci := 12) (q0 := 0) (v := .ref (q 4)) 4 S hK I cl_X12 rfl wf_X12_20 (by decide) rfl rfl rfl dX12_guard_26 ?_
      refine lv_iload_n S.1 S.2.1 dX12_guard_29 rfl (lv_at hl 2 rfl) ?_
      refine lv_iload_n S.1 S.2.1 dX12_guard_30 rfl (lv_at hl 3 rfl) ?_
      refine sz (q0 := 4) (n := 8) (f := R 4) j S hK I rfl rfl (by omega) (by decide) (by assumption) dX12_guard_31 (fun H locs I => ?_)
      have I : IX D A s.heap (wM cy q N (va_up R 4 (upd (R 4) j o)) X) H locs := I
      refine lv_iload_n S.1 S.2.1 dX12_guard_32 rfl (lv_at hl 0 rfl) ?_
      exact ru_i hQ S hr hlk (u := (N, (va_up R 4 (upd (R 4) j o)))) I (by simp [sp_guard, c_5, e_j, c_16, bI, nI_one, nI_zero]) dX12_guard_33
    · skip
      refine lv_iconst (v := nI 1) S.1 S.2.1 dX12_guard_19 (by decide) ?_
      refine lv_goto (tgt := 24) S.1 S.2.1 dX12_guard_20 (by decide) ?_
      refine lv_istore_n (lv' := [(3, .int (nI 1)), (0, .ref (q 33)), (1, .int (nI j)), (2, .int o)]) S.1 S.2.1 dX12_guard_24 rfl hl (by decide) rfl (fun ls hl => ?_)
      refine lv_aload_n S.1 S.2.1 dX12_guard_25 rfl (lv_at hl 1 rfl) ?_
      refine rg (ci := 12) (q0 := 0) (v := .ref (q 4)) 4 S hK I cl_X12 rfl wf_X12_20 (by decide) rfl rfl rfl dX12_guard_26 ?_
      refine lv_iload_n S.1 S.2.1 dX12_guard_29 rfl (lv_at hl 2 rfl) ?_
      refine lv_iload_n S.1 S.2.1 dX12_guard_30 rfl (lv_at hl 3 rfl) ?_
      refine sz (q0 := 4) (n := 8) (f := R 4) j S hK I rfl rfl (by omega) (by decide) (by assumption) dX12_guard_31 (fun H locs I => ?_)
      have I : IX D A s.heap (wM cy q N (va_up R 4 (upd (R 4) j o)) X) H locs := I
      refine lv_iload_n S.1 S.2.1 dX12_guard_32 rfl (lv_at hl 0 rfl) ?_
      exact ru_i hQ S hr hlk (u := (N, (va_up R 4 (upd (R 4) j o)))) I (by simp [sp_guard, c_5, e_j, c_16, bI, nI_one, nI_zero]) dX12_guard_33
  · skip
    have c_5 := bI_f c_5
    refine lv_iconst (v := (-1)) S.1 S.2.1 dX12_guard_8 (by decide) ?_
    exact ru_i hQ S hr hlk (u := (N, R)) I (by simp [sp_guard, c_5, bI, nI_one, nI_zero]) dX12_guard_9
set_option maxHeartbeats 4000000 in
set_option maxRecDepth 100000 in
theorem c_version (l : Launch) (D : va_G) (cy : Nat → ClassId) (q : Nat → Nat) (N : Nat → Nat) (R X : Nat → Nat → Int32) (x v : Int32) (hB : Bd N) : MS (α := SR) l D cy yX12_version cX12_version 4 (Option.some FieldType.int) rm_X12_version [.ref (q 33), .int x, .int v] (wM cy q N R X) (fun v_ u_ => v_ = some (.int (sp_version N R x v).1) ∧ u_ = (sp_version N R x v).2) (fun u_ => wM cy q u_.1 u_.2 X) := by
  refine MS.mk2 (by decide) (Nat.le_of_ble_eq_true rfl) [(0, .ref (q 33)), (1, .int x), (2, .int v)] rfl ?_
  intro p e s m args below meth c A ls Q hQ S hr hlk hnm hK hA I hl
  have hB0 := hB
  obtain ⟨b0, b6, b17, b24, b30⟩ := hB0
  refine lv_aload_n S.1 S.2.1 dX12_version_0 rfl (lv_at hl 0 rfl) ?_
  refine lv_iload_n S.1 S.2.1 dX12_version_1 rfl (lv_at hl 1 rfl) ?_
  refine cV (np := 1) (ci := 12) (q0 := 0) (As := [.int x]) (rest := []) S (c_isPart l D cy q N R X (x) hB) hK hA I wm_X12_107 wi_X12_isPart ws_X12_X12_isPart wn_X12 wk_X12_isPart ⟨rfl, hd_X12_isPart⟩ rfl ⟨by decide, by decide⟩ rfl rfl hl.1 rfl (Nat.le_of_ble_eq_true rfl) dX12_version_2 ⟨by decide, by decide⟩ (fun v_ u_ H locs h_ I => ?_)
  obtain rfl := h_
  have I : IX D A s.heap (wM cy q N R X) H locs := I
  refine W.eq (g2 := F0 m 5 ls [.int (bI (isP (N 0) x))]) rfl ?_
  refine lv_if_eq (tgt := 15) S.1 S.2.1 dX12_version_5 (by decide) (fun c_5 => ?_) (fun c_5 => ?_)
  · skip
    have c_5 := bI_f c_5
    refine lv_iconst (v := (-1)) S.1 S.2.1 dX12_version_15 (by decide) ?_
    exact ru_i hQ S hr hlk (u := (N, R)) I (by simp [sp_version, c_5, bI]) dX12_version_16
  · skip
    have c_5 := bI_t c_5
    obtain ⟨j, h_j, rfl⟩ := isP_of c_5 (by omega)
    have e_j : (nI j).toNatClampNeg = j := nI_clamp (by omega)
    refine lv_iload_n S.1 S.2.1 dX12_version_8 rfl (lv_at hl 2 rfl) ?_
    refine cS (np := 1) (As := [.int v]) (rest := []) S (c_isVersion l D cy (wM cy q N R X) v) hK hA I wm_X12_103 wt_X12_isVersion wn_X12 wk_X12_isVersion ⟨rfl, hd_X12_isVersion⟩ rfl ⟨by decide, by decide⟩ hl.1 rfl (Nat.le_of_ble_eq_true rfl) dX12_version_9 ⟨by decide, by decide⟩ (fun v_ u_ H locs h_ I => ?_)
    obtain rfl := h_
    have I : IX D A s.heap (wM cy q N R X) H locs := I
    refine W.eq (g2 := F0 m 12 ls [.int (bI (isV v))]) rfl ?_
    refine lv_if_ne (tgt := 17) S.1 S.2.1 dX12_version_12 (by decide) (fun c_12 => ?_) (fun c_12 => ?_)
    · skip
      have c_12 := bI_t c_12
      refine lv_aload_n S.1 S.2.1 dX12_version_17 rfl (lv_at hl 0 rfl) ?_
      refine rg (ci := 12) (q0 := 0) (v := .ref (q 1)) 1 S hK I cl_X12 rfl wf_X12_7 (by decide) rfl rfl rfl dX12_version_18 ?_
      refine lv_iload_n S.1 S.2.1 dX12_version_21 rfl (lv_at hl 1 rfl) ?_
      refine ri (q0 := 1) (n := 8) (f := R 1) j S hK I rfl rfl (by omega) (by decide) dX12_version_22 ?_
      refine lv_istore_n (lv' := [(3, .int (R 1 j)), (0, .ref (q 33)), (1, .int (nI j)), (2, .int v)]) S.1 S.2.1 dX12_version_23 rfl hl (by decide) rfl (fun ls hl => ?_)
      refine lv_aload_n S.1 S.2.1 dX12_version_24 rfl (lv_at hl 1 rfl) ?_
      refine rg (ci := 12) (q0 := 0) (v := .ref (q 1)) 1 S hK I cl_X12 rfl wf_X12_7 (by decide) rfl rfl rfl dX12_version_25 ?_
      refine lv_iload_n S.1 S.2.1 dX12_version_28 rfl (lv_at hl 2 rfl) ?_
      refine lv_iload_n S.1 S.2.1 dX12_version_29 rfl (lv_at hl 3 rfl) ?_
      refine si (q0 := 1) (n := 8) (f := R 1) j S hK I rfl rfl (by omega) (by decide) dX12_version_30 (fun H locs I => ?_)
      have I : IX D A s.heap (wM cy q N (va_up R 1 (upd (R 1) j v)) X) H locs := I
      refine lv_iload_n S.1 S.2.1 dX12_version_31 rfl (lv_at hl 0 rfl) ?_
      exact ru_i hQ S hr hlk (u := (N, (va_up R 1 (upd (R 1) j v)))) I (by simp [sp_version, c_5, e_j, c_12, bI]) dX12_version_32
    · skip
      have c_12 := bI_f c_12
      refine lv_iconst (v := (-1)) S.1 S.2.1 dX12_version_15 (by decide) ?_
      exact ru_i hQ S hr hlk (u := (N, R)) I (by simp [sp_version, c_5, e_j, c_12, bI]) dX12_version_16
set_option maxHeartbeats 4000000 in
set_option maxRecDepth 100000 in
theorem c_wake (l : Launch) (D : va_G) (cy : Nat → ClassId) (q : Nat → Nat) (N : Nat → Nat) (R X : Nat → Nat → Int32) (h o : Int32) (hB : Bd N) (hz_o : o = 0 ∨ o = 1) : MS (α := SR) l D cy yX12_wake cX12_wake 4 (Option.some FieldType.int) rm_X12_wake [.ref (q 33), .int h, .int o] (wM cy q N R X) (fun v_ u_ => v_ = some (.int (sp_wake N R h o).1) ∧ u_ = (sp_wake N R h o).2) (fun u_ => wM cy q u_.1 u_.2 X) := by
  refine MS.mk2 (by decide) (Nat.le_of_ble_eq_true rfl) [(0, .ref (q 33)), (1, .int h), (2, .int o)] rfl ?_
  intro p e s m args below meth c A ls Q hQ S hr hlk hnm hK hA I hl
  have hB0 := hB
  obtain ⟨b0, b6, b17, b24, b30⟩ := hB0
  refine lv_aload_n S.1 S.2.1 dX12_wake_0 rfl (lv_at hl 0 rfl) ?_
  refine lv_iload_n S.1 S.2.1 dX12_wake_1 rfl (lv_at hl 1 rfl) ?_
  refine cV (np := 1) (ci := 12) (q0 := 0) (As := [.int h]) (rest := []) S (c_isHole l D cy q N R X (h) hB) hK hA I wm_X12_120 wi_X12_isHole ws_X12_X12_isHole wn_X12 wk_X12_isHole ⟨rfl, hd_X12_isHole⟩ rfl ⟨by decide, by decide⟩ rfl rfl hl.1 rfl (Nat.le_of_ble_eq_true rfl) dX12_wake_2 ⟨by decide, by decide⟩ (fun v_ u_ H locs h_ I => ?_)
  obtain rfl := h_
  have I : IX D A s.heap (wM cy q N R X) H locs := I
  refine W.eq (g2 := F0 m 5 ls [.int (bI (isP (N 6) h))]) rfl ?_
  refine lv_if_ne (tgt := 10) S.1 S.2.1 dX12_wake_5 (by decide) (fun c_5 => ?_) (fun c_5 => ?_)
  · skip
    have c_5 := bI_t c_5
    obtain ⟨j, h_j, rfl⟩ := isP_of c_5 (by omega)
    have e_j : (nI j).toNatClampNeg = j := nI_clamp (by omega)
    refine lv_aload_n S.1 S.2.1 dX12_wake_10 rfl (lv_at hl 0 rfl) ?_
    refine rg (ci := 12) (q0 := 0) (v := .ref (q 7)) 7 S hK I cl_X12 rfl wf_X12_26 (by decide) rfl rfl rfl dX12_wake_11 ?_
    refine lv_iload_n S.1 S.2.1 dX12_wake_14 rfl (lv_at hl 1 rfl) ?_
    refine ri (q0 := 6) (n := 12) (f := R 7) j S hK I rfl rfl (by omega) (by decide) dX12_wake_15 ?_
    refine lv_iconst (v := nI 4) S.1 S.2.1 dX12_wake_16 (by decide) ?_
    refine lv_icmp_eq (tgt := 23) S.1 S.2.1 dX12_wake_17 (by decide) (fun c_17 => ?_) (fun c_17 => ?_)
    · skip
      refine lv_aload_n S.1 S.2.1 dX12_wake_23 rfl (lv_at hl 0 rfl) ?_
      refine rg (ci := 12) (q0 := 0) (v := .ref (q 12)) 12 S hK I cl_X12 rfl wf_X12_41 (by decide) rfl rfl rfl dX12_wake_24 ?_
      refine lv_iload_n S.1 S.2.1 dX12_wake_27 rfl (lv_at hl 1 rfl) ?_
      refine rz (q0 := 11) (n := 12) (f := R 12) j S hK I rfl rfl (by omega) (by decide) dX12_wake_28 ?_
      refine lv_if_eq (tgt := 36) S.1 S.2.1 dX12_wake_29 (by decide) (fun c_29 => ?_) (fun c_29 => ?_)
      · skip
        refine lv_iconst (v := nI 0) S.1 S.2.1 dX12_wake_36 (by decide) ?_
        refine lv_istore_n (lv' := [(3, .int (nI 0)), (0, .ref (q 33)), (1, .int (nI j)), (2, .int o)]) S.1 S.2.1 dX12_wake_37 rfl hl (by decide) rfl (fun ls hl => ?_)
        refine lv_aload_n S.1 S.2.1 dX12_wake_38 rfl (lv_at hl 1 rfl) ?_
        refine rg (ci := 12) (q0 := 0) (v := .ref (q 12)) 12 S hK I cl_X12 rfl wf_X12_41 (by decide) rfl rfl rfl dX12_wake_39 ?_
        refine lv_iload_n S.1 S.2.1 dX12_wake_42 rfl (lv_at hl 2 rfl) ?_
        refine lv_iload_n S.1 S.2.1 dX12_wake_43 rfl (lv_at hl 3 rfl) ?_
        refine sz (q0 := 11) (n := 12) (f := R 12) j S hK I rfl rfl (by omega) (by decide) (by assumption) dX12_wake_44 (fun H locs I => ?_)
        have I : IX D A s.heap (wM cy q N (va_up R 12 (upd (R 12) j o)) X) H locs := I
        refine lv_iload_n S.1 S.2.1 dX12_wake_45 rfl (lv_at hl 0 rfl) ?_
        exact ru_i hQ S hr hlk (u := (N, (va_up R 12 (upd (R 12) j o)))) I (by simp [sp_wake, c_5, e_j, c_17, c_29, bI, nI_one, nI_zero]) dX12_wake_46
      · skip
        refine lv_iconst (v := nI 1) S.1 S.2.1 dX12_wake_32 (by decide) ?_
        refine lv_goto (tgt := 37) S.1 S.2.1 dX12_wake_33 (by decide) ?_
        refine lv_istore_n (lv' := [(3, .int (nI 1)), (0, .ref (q 33)), (1, .int (nI j)), (2, .int o)]) S.1 S.2.1 dX12_wake_37 rfl hl (by decide) rfl (fun ls hl => ?_)
        refine lv_aload_n S.1 S.2.1 dX12_wake_38 rfl (lv_at hl 1 rfl) ?_
        refine rg (ci := 12) (q0 := 0) (v := .ref (q 12)) 12 S hK I cl_X12 rfl wf_X12_41 (by decide) rfl rfl rfl dX12_wake_39 ?_
        refine lv_iload_n S.1 S.2.1 dX12_wake_42 rfl (lv_at hl 2 rfl) ?_
        refine lv_iload_n S.1 S.2.1 dX12_wake_43 rfl (lv_at hl 3 rfl) ?_
        refine sz (q0 := 11) (n := 12) (f := R 12) j S hK I rfl rfl (by omega) (by decide) (by assumption) dX12_wake_44 (fun H locs I => ?_)
        have I : IX D A s.heap (wM cy q N (va_up R 12 (upd (R 12) j o)) X) H locs := I
        refine lv_iload_n S.1 S.2.1 dX12_wake_45 rfl (lv_at hl 0 rfl) ?_
        exact ru_i hQ S hr hlk (u := (N, (va_up R 12 (upd (R 12) j o)))) I (by simp [sp_wake, c_5, e_j, c_17, c_29, bI, nI_one, nI_zero]) dX12_wake_46
    · skip
      refine lv_bipush (v := (-13)) S.1 S.2.1 dX12_wake_20 (by decide) ?_
      exact ru_i hQ S hr hlk (u := (N, R)) I (by simp [sp_wake, c_5, e_j, c_17, bI, nI_one, nI_zero]) dX12_wake_22
  · skip
    have c_5 := bI_f c_5
    refine lv_iconst (v := (-1)) S.1 S.2.1 dX12_wake_8 (by decide) ?_
    exact ru_i hQ S hr hlk (u := (N, R)) I (by simp [sp_wake, c_5, bI, nI_one, nI_zero]) dX12_wake_9
set_option maxHeartbeats 4000000 in
set_option maxRecDepth 100000 in
theorem c_add (l : Launch) (D : va_G) (cy : Nat → ClassId) (q : Nat → Nat) (N : Nat → Nat) (R X : Nat → Nat → Int32) (k x a b t : Int32) (hB : Bd N) : MS (α := SR) l D cy yX12_add cX12_add 6 (Option.some FieldType.int) rm_X12_add [.ref (q 33), .int k, .int x, .int a, .int b, .int t] (wM cy q N R X) (fun v_ u_ => v_ = some (.int (sp_add N R k x a b t).1) ∧ u_ = (sp_add N R k x a b t).2) (fun u_ => wM cy q u_.1 u_.2 X) := by
  refine MS.mk2 (by decide) (Nat.le_of_ble_eq_true rfl) [(0, .ref (q 33)), (1, .int k), (2, .int x), (3, .int a), (4, .int b), (5, .int t)] rfl ?_
  intro p e s m args below meth c A ls Q hQ S hr hlk hnm hK hA I hl
  have hB0 := hB
  obtain ⟨b0, b6, b17, b24, b30⟩ := hB0
  refine lv_aload_n S.1 S.2.1 dX12_add_0 rfl (lv_at hl 0 rfl) ?_
  refine rg (ci := 12) (q0 := 0) (v := .int (nI (N 6))) 6 S hK I cl_X12 rfl wf_X12_110 (by decide) rfl rfl rfl dX12_add_1 ?_
  refine lv_bipush (v := nI 12) S.1 S.2.1 dX12_add_4 (by decide) ?_
  refine lv_icmp_ne (tgt := 12) S.1 S.2.1 dX12_add_6 (by decide) (fun c_6 => ?_) (fun c_6 => ?_)
  · skip
    have c_6o := c_6
    have c_6 := nI_cneT (by omega) (by omega) c_6
    refine lv_aload_n S.1 S.2.1 dX12_add_12 rfl (lv_at hl 0 rfl) ?_
    refine rg (ci := 12) (q0 := 0) (v := .ref (q 7)) 7 S hK I cl_X12 rfl wf_X12_26 (by decide) rfl rfl rfl dX12_add_13 ?_
    refine lv_aload_n S.1 S.2.1 dX12_add_16 rfl (lv_at hl 0 rfl) ?_
    refine rg (ci := 12) (q0 := 0) (v := .int (nI (N 6))) 6 S hK I cl_X12 rfl wf_X12_110 (by decide) rfl rfl rfl dX12_add_17 ?_
    refine lv_iload_n S.1 S.2.1 dX12_add_20 rfl (lv_at hl 1 rfl) ?_
    refine si (q0 := 6) (n := 12) (f := R 7) (N 6) S hK I rfl rfl (by omega) (by decide) dX12_add_21 (fun H locs I => ?_)
    have I : IX D A s.heap (wM cy q N (va_up R 7 (upd (R 7) (N 6) k)) X) H locs := I
    refine lv_aload_n S.1 S.2.1 dX12_add_22 rfl (lv_at hl 0 rfl) ?_
    refine rg (ci := 12) (q0 := 0) (v := .ref (q 8)) 8 S hK I cl_X12 rfl wf_X12_29 (by decide) rfl rfl rfl dX12_add_23 ?_
    refine lv_aload_n S.1 S.2.1 dX12_add_26 rfl (lv_at hl 0 rfl) ?_
    refine rg (ci := 12) (q0 := 0) (v := .int (nI (N 6))) 6 S hK I cl_X12 rfl wf_X12_110 (by decide) rfl rfl rfl dX12_add_27 ?_
    refine lv_iload_n S.1 S.2.1 dX12_add_30 rfl (lv_at hl 2 rfl) ?_
    refine si (q0 := 7) (n := 12) (f := R 8) (N 6) S hK I rfl rfl (by omega) (by decide) dX12_add_31 (fun H locs I => ?_)
    have I : IX D A s.heap (wM cy q N (va_up (va_up R 7 (upd (R 7) (N 6) k)) 8 (upd (R 8) (N 6) x)) X) H locs := I
    refine lv_aload_n S.1 S.2.1 dX12_add_32 rfl (lv_at hl 0 rfl) ?_
    refine rg (ci := 12) (q0 := 0) (v := .ref (q 9)) 9 S hK I cl_X12 rfl wf_X12_32 (by decide) rfl rfl rfl dX12_add_33 ?_
    refine lv_aload_n S.1 S.2.1 dX12_add_36 rfl (lv_at hl 0 rfl) ?_
    refine rg (ci := 12) (q0 := 0) (v := .int (nI (N 6))) 6 S hK I cl_X12 rfl wf_X12_110 (by decide) rfl rfl rfl dX12_add_37 ?_
    refine lv_iload_n S.1 S.2.1 dX12_add_40 rfl (lv_at hl 3 rfl) ?_
    refine si (q0 := 8) (n := 12) (f := R 9) (N 6) S hK I rfl rfl (by omega) (by decide) dX12_add_41 (fun H locs I => ?_)
    have I : IX D A s.heap (wM cy q N (va_up (va_up (va_up R 7 (upd (R 7) (N 6) k)) 8 (upd (R 8) (N 6) x)) 9 (upd (R 9) (N 6) a)) X) H locs := I
    refine lv_aload_n S.1 S.2.1 dX12_add_42 rfl (lv_at hl 0 rfl) ?_
    refine rg (ci := 12) (q0 := 0) (v := .ref (q 10)) 10 S hK I cl_X12 rfl wf_X12_35 (by decide) rfl rfl rfl dX12_add_43 ?_
    refine lv_aload_n S.1 S.2.1 dX12_add_46 rfl (lv_at hl 0 rfl) ?_
    refine rg (ci := 12) (q0 := 0) (v := .int (nI (N 6))) 6 S hK I cl_X12 rfl wf_X12_110 (by decide) rfl rfl rfl dX12_add_47 ?_
    refine lv_iload S.1 S.2.1 dX12_add_50 (lv_at hl 4 rfl) ?_
    refine si (q0 := 9) (n := 12) (f := R 10) (N 6) S hK I rfl rfl (by omega) (by decide) dX12_add_52 (fun H locs I => ?_)
    have I : IX D A s.heap (wM cy q N (va_up (va_up (va_up (va_up R 7 (upd (R 7) (N 6) k)) 8 (upd (R 8) (N 6) x)) 9 (upd (R 9) (N 6) a)) 10 (upd (R 10) (N 6) b)) X) H locs := I
    refine lv_aload_n S.1 S.2.1 dX12_add_53 rfl (lv_at hl 0 rfl) ?_
    refine rg (ci := 12) (q0 := 0) (v := .ref (q 11)) 11 S hK I cl_X12 rfl wf_X12_38 (by decide) rfl rfl rfl dX12_add_54 ?_
    refine lv_aload_n S.1 S.2.1 dX12_add_57 rfl (lv_at hl 0 rfl) ?_
    refine rg (ci := 12) (q0 := 0) (v := .int (nI (N 6))) 6 S hK I cl_X12 rfl wf_X12_110 (by decide) rfl rfl rfl dX12_add_58 ?_
    refine lv_iload S.1 S.2.1 dX12_add_61 (lv_at hl 5 rfl) ?_
    refine si (q0 := 10) (n := 12) (f := R 11) (N 6) S hK I rfl rfl (by omega) (by decide) dX12_add_63 (fun H locs I => ?_)
    have I : IX D A s.heap (wM cy q N (va_up (va_up (va_up (va_up (va_up R 7 (upd (R 7) (N 6) k)) 8 (upd (R 8) (N 6) x)) 9 (upd (R 9) (N 6) a)) 10 (upd (R 10) (N 6) b)) 11 (upd (R 11) (N 6) t)) X) H locs := I
    refine lv_aload_n S.1 S.2.1 dX12_add_64 rfl (lv_at hl 0 rfl) ?_
    refine rg (ci := 12) (q0 := 0) (v := .ref (q 12)) 12 S hK I cl_X12 rfl wf_X12_41 (by decide) rfl rfl rfl dX12_add_65 ?_
    refine lv_aload_n S.1 S.2.1 dX12_add_68 rfl (lv_at hl 0 rfl) ?_
    refine rg (ci := 12) (q0 := 0) (v := .int (nI (N 6))) 6 S hK I cl_X12 rfl wf_X12_110 (by decide) rfl rfl rfl dX12_add_69 ?_
    refine lv_iconst (v := nI 0) S.1 S.2.1 dX12_add_72 (by decide) ?_
    refine sz (q0 := 11) (n := 12) (f := R 12) (N 6) S hK I rfl rfl (by omega) (by decide) (by decide) dX12_add_73 (fun H locs I => ?_)
    have I : IX D A s.heap (wM cy q N (va_up (va_up (va_up (va_up (va_up (va_up R 7 (upd (R 7) (N 6) k)) 8 (upd (R 8) (N 6) x)) 9 (upd (R 9) (N 6) a)) 10 (upd (R 10) (N 6) b)) 11 (upd (R 11) (N 6) t)) 12 (upd (R 12) (N 6) (nI 0))) X) H locs := I
    refine lv_aload_n S.1 S.2.1 dX12_add_74 rfl (lv_at hl 0 rfl) ?_
    refine lv_dup S.1 S.2.1 dX12_add_75 rfl ?_
    refine rg (ci := 12) (q0 := 0) (v := .int (nI (N 6))) 6 S hK I cl_X12 rfl wf_X12_110 (by decide) rfl rfl rfl dX12_add_76 ?_
    refine lv_iconst (v := nI 1) S.1 S.2.1 dX12_add_79 (by decide) ?_
    refine lv_iadd S.1 S.2.1 dX12_add_80 ?_
    refine tI (y := nI ((N 6) + 1)) (nI_add _ _) ?_
    refine rp (ci := 12) (q0 := 0) (v := .int (nI ((N 6) + 1))) (ty := .int) 6 S hK I cl_X12 rfl wf_X12_110 (by decide) rfl tyX12_ok nmX12 rfl (by decide +kernel) rfl rfl (by exact Nat.le_of_ble_eq_true rfl) rfl dX12_add_81 (fun H locs I => ?_)
    have I : IX D A s.heap (wM cy q (va_up N 6 ((N 6) + 1)) (va_up (va_up (va_up (va_up (va_up (va_up R 7 (upd (R 7) (N 6) k)) 8 (upd (R 8) (N 6) x)) 9 (upd (R 9) (N 6) a)) 10 (upd (R 10) (N 6) b)) 11 (upd (R 11) (N 6) t)) 12 (upd (R 12) (N 6) (nI 0))) X) H locs := I
    refine lv_aload_n S.1 S.2.1 dX12_add_84 rfl (lv_at hl 0 rfl) ?_
    refine rg (ci := 12) (q0 := 0) (v := .int (nI ((N 6) + 1))) 6 S hK I cl_X12 rfl wf_X12_110 (by decide) rfl rfl rfl dX12_add_85 ?_
    refine lv_iconst (v := nI 1) S.1 S.2.1 dX12_add_88 (by decide) ?_
    refine lv_isub S.1 S.2.1 dX12_add_89 ?_
    refine tI (y := nI (N 6)) (by rw [pk_sub (by omega)]; rfl) ?_
    exact ru_i hQ S hr hlk (u := ((va_up N 6 ((N 6) + 1)), (va_up (va_up (va_up (va_up (va_up (va_up R 7 (upd (R 7) (N 6) k)) 8 (upd (R 8) (N 6) x)) 9 (upd (R 9) (N 6) a)) 10 (upd (R 10) (N 6) b)) 11 (upd (R 11) (N 6) t)) 12 (upd (R 12) (N 6) (nI 0))))) I (by simp [sp_add, c_6o, c_6, bI]) dX12_add_90
  · skip
    have c_6o := c_6
    have c_6 := nI_cneF (by omega) (by omega) c_6
    refine lv_bipush (v := (-3)) S.1 S.2.1 dX12_add_9 (by decide) ?_
    exact ru_i hQ S hr hlk (u := (N, R)) I (by simp [sp_add, c_6o, c_6, bI]) dX12_add_11
end
section
/-! bits of a set, as the code asks for them -/
theorem fst_eq {P : Nat → Bool} {n i : Nat} (h : ∀ j, j < i → P j = false) (hi : P i = true) (hn : i < n) : fa_first P n = i := by
  rcases Nat.lt_trichotomy (fa_first P n) i with q | q | q
  · have h1 := fa_first_yes P n (Nat.lt_trans q hn)
    rw [h _ q] at h1
    cases h1
  · exact q
  · have h1 := fa_first_no P n i q
    rw [hi] at h1
    cases h1
theorem fst_none {P : Nat → Bool} {n : Nat} (h : ∀ j, j < n → P j = false) : fa_first P n = n := by
  rcases Nat.lt_or_ge (fa_first P n) n with q | q
  · have h1 := fa_first_yes P n q
    rw [h _ q] at h1
    cases h1
  · exact Nat.le_antisymm (fa_first_le P n) q
theorem fst_cong {P P2 : Nat → Bool} {n : Nat} (h : ∀ j, j < n → P j = P2 j) : fa_first P n = fa_first P2 n := by
  rcases Nat.lt_or_ge (fa_first P2 n) n with q | q
  · refine fst_eq (fun j hj => ?_) ?_ q
    · rw [h j (Nat.lt_trans hj q)]; exact fa_first_no P2 n j hj
    · rw [h _ q]; exact fa_first_yes P2 n q
  · have e := Nat.le_antisymm (fa_first_le P2 n) q
    rw [e]
    refine fst_none (fun j hj => ?_)
    rw [h j hj]
    exact fa_first_no P2 n j (by omega)
theorem pow_256 {n : Nat} (h : n ≤ 8) : 2 ^ n ≤ 256 := show 2 ^ n ≤ 2 ^ 8 from Nat.pow_le_pow_right (by decide) h
theorem pow_31 {n : Nat} (h : n < 31) : 2 ^ n < 2147483648 := Nat.pow_lt_pow_right (a := 2) (by decide) h
theorem bitS {m : Nat} (hm : m < 31) : nI 1 <<< (nI m &&& 31) = nI (2 ^ m) := by
  rw [pk_shlN (nI m &&& 31) m (s_l m (by omega)) (by have := pow_31 hm; omega), Nat.one_mul]
theorem bitD {d m : Nat} (hd : d < 2147483648) (hm : m < 31) : (nI d >>> (nI m &&& 31)) &&& nI 1 = bI (d.testBit m) := by
  rw [pk_shrN hd (nI m &&& 31) m (s_l m (by omega)), fa_and, Nat.testBit, Nat.shiftRight_eq_div_pow, Nat.and_comm]
  have h : 1 &&& d / 2 ^ m < 2 := Nat.lt_of_le_of_lt Nat.and_le_left (by decide)
  rcases (show 1 &&& d / 2 ^ m = 0 ∨ 1 &&& d / 2 ^ m = 1 by omega) with q | q <;> rw [q] <;> rfl
theorem bI_eq1T {b : Bool} (h : bI b = nI 1) : b = true := by cases b; exact absurd h (by decide); rfl
theorem bI_eq1F {b : Bool} (h : ¬ bI b = nI 1) : b = false := by cases b; rfl; exact absurd rfl h
theorem bI_eq0T {b : Bool} (h : bI b = nI 0) : b = false := by cases b; rfl; exact absurd h (by decide)
theorem bI_eq0F {b : Bool} (h : ¬ bI b = nI 0) : b = true := by cases b; exact absurd rfl h; rfl
/-! accessors -/
def wo (R : Nat → Nat → Int32) (p : Nat) : Nat := (R 2 p).toNatClampNeg
def kd (R : Nat → Nat → Int32) (h : Nat) : Nat := (R 7 h).toNatClampNeg
def wh (R : Nat → Nat → Int32) (h : Nat) : Nat := (R 8 h).toNatClampNeg
def ch (R : Nat → Nat → Int32) (h : Nat) : Nat := (R 11 h).toNatClampNeg
def mp (R : Nat → Nat → Int32) (m : Nat) : Nat := (R 18 m).toNatClampNeg
def mh (R : Nat → Nat → Int32) (m : Nat) : Nat := (R 20 m).toNatClampNeg
def mn (R : Nat → Nat → Int32) (m : Nat) : Nat := (R 21 m).toNatClampNeg
def mf (R : Nat → Nat → Int32) (m : Nat) : Nat := (R 22 m).toNatClampNeg
def ml (R : Nat → Nat → Int32) (m : Nat) : Nat := (R 23 m).toNatClampNeg
def qa (R : Nat → Nat → Int32) (k : Nat) : Nat := (R 25 (4 * k)).toNatClampNeg
def qb (R : Nat → Nat → Int32) (k : Nat) : Nat := (R 25 (4 * k + 2)).toNatClampNeg
/-! what the rows always hold -/
def WPt (N : Nat → Nat) (R : Nat → Nat → Int32) : Prop := ∀ p, p < N 0 → (R 2 p = nI (wo R p) ∧ wo R p ≤ 1000) ∧ isV (R 1 p) = true
def WBo (R : Nat → Nat → Int32) : Prop := ∀ i, (R 3 i = 0 ∨ R 3 i = 1) ∧ (R 4 i = 0 ∨ R 4 i = 1) ∧ (R 5 i = 0 ∨ R 5 i = 1) ∧ (R 12 i = 0 ∨ R 12 i = 1)
def WHo (N : Nat → Nat) (R : Nat → Nat → Int32) : Prop := ∀ h, h < N 6 → R 8 h = nI (wh R h) ∧ wh R h < N 0 ∧ R 7 h = nI (kd R h) ∧ kd R h ≤ 4 ∧ (kd R h = 1 → R 11 h = nI (ch R h) ∧ ch R h < h)
def WMe (N : Nat → Nat) (R : Nat → Nat → Int32) : Prop := ∀ m, m < N 17 → R 18 m = nI (mp R m) ∧ mp R m < N 0 ∧ R 20 m = nI (mh R m) ∧ (1 ≤ mh R m ∧ mh R m ≤ 9) ∧ (R 21 m = -1 ∨ (R 21 m = nI (mn R m) ∧ mn R m < m)) ∧ R 22 m = nI (mf R m) ∧ R 23 m = nI (ml R m) ∧ (mf R m ≤ 5 ∧ ml R m ≤ 5) ∧ isV (R 19 m) = true
def WQu (N : Nat → Nat) (R : Nat → Nat → Int32) : Prop := ∀ k, k < N 24 → (R 25 (4 * k) = nI (qa R k) ∧ qa R k < N 0) ∧ R 25 (4 * k + 2) = nI (qb R k) ∧ qb R k < N 0
def WFm (N : Nat → Nat) (R : Nat → Nat → Int32) : Prop := Bd N ∧ WPt N R ∧ WBo R ∧ WHo N R ∧ WMe N R ∧ WQu N R
/-! versions with a set of mends done -/
def vtF (R : Nat → Nat → Int32) (d : Nat) : Nat → Nat → Int32
  | 0 => R 1
  | m + 1 => if d.testBit m = true ∧ vtF R d m (mp R m) < R 19 m then upd (vtF R d m) (mp R m) (R 19 m) else vtF R d m
theorem vt_a {R : Nat → Nat → Int32} {d m n : Nat} {g : Nat → Int32} (h : d.testBit m = false) (hg : ∀ p, p < n → g p = vtF R d m p) : ∀ p, p < n → g p = vtF R d (m + 1) p := by
  intro p hp
  rw [vtF, if_neg (by rw [h]; simp)]
  exact hg p hp
theorem vt_b {R : Nat → Nat → Int32} {d m n : Nat} {g : Nat → Int32} (hm : mp R m < n) (h : R 19 m ≤ g (mp R m)) (hg : ∀ p, p < n → g p = vtF R d m p) : ∀ p, p < n → g p = vtF R d (m + 1) p := by
  intro p hp
  rw [hg _ hm] at h
  rw [vtF, if_neg (fun q => (fa_of_lt q.2).2.1 h)]
  exact hg p hp
theorem vt_c {R : Nat → Nat → Int32} {d m n : Nat} {g : Nat → Int32} (hm : mp R m < n) (hb : d.testBit m = true) (h : ¬ R 19 m ≤ g (mp R m)) (hg : ∀ p, p < n → g p = vtF R d m p) : ∀ p, p < n → upd g (mp R m) (R 19 m) p = vtF R d (m + 1) p := by
  intro p hp
  rw [hg _ hm] at h
  rw [vtF, if_pos ⟨hb, fa_of_nle h⟩]
  by_cases e : p = mp R m
  · rw [e, pk_us, pk_us]
  · rw [pk_un e, pk_un e]; exact hg p hp
theorem cp_s {f g : Nat → Int32} {i : Nat} (h : ∀ p, p < i → g p = f p) : ∀ p, p < i + 1 → upd g i (f i) p = f p := by
  intro p hp
  by_cases e : p = i
  · rw [e, pk_us]
  · rw [pk_un e]; exact h p (by omega)
/-! which holes stand, which open -/
def stB (R : Nat → Nat → Int32) (g : Nat → Int32) (h : Nat) : Bool := inB (g (wh R h)) (R 9 h) (R 10 h) && (decide (¬ kd R h = 2 ∨ R 4 (wh R h) = 0) && decide (¬ kd R h = 4 ∨ ¬ R 12 h = 0))
def opF (R : Nat → Nat → Int32) (g : Nat → Int32) (T : Nat → Bool) : Nat → Nat → Bool
  | 0, _ => false
  | n + 1, h => stB R g h && (decide (¬ kd R h = 1) || (if wh R (ch R h) = wh R h then opF R g T n (ch R h) else stB R g (ch R h) && T (wh R (ch R h))))
def opB (R : Nat → Nat → Int32) (g : Nat → Int32) (T : Nat → Bool) (h : Nat) : Bool := opF R g T (h + 1) h
theorem opF_any {N : Nat → Nat} {R : Nat → Nat → Int32} {g : Nat → Int32} {T : Nat → Bool} (hH : WHo N R) : ∀ (n h : Nat), h < n → h < N 6 → opF R g T n h = opB R g T h := by
  intro n
  induction n using Nat.strongRecOn with
  | _ n ih =>
    intro h hn h6
    cases n with
    | zero => exact absurd hn (Nat.not_lt_zero _)
    | succ n =>
      unfold opB
      rw [opF, opF]
      by_cases hk : kd R h = 1
      · have hc := ((hH h h6).2.2.2.2 hk).2
        by_cases hw : wh R (ch R h) = wh R h
        · rw [if_pos hw, if_pos hw, ih n (Nat.lt_succ_self n) (ch R h) (by omega) (by omega)]
          by_cases hn2 : h < n + 1 ∧ h = n
          · rw [hn2.2, ih n (Nat.lt_succ_self n) (ch R n) (by rw [← hn2.2]; exact hc) (by rw [← hn2.2]; omega)]
          · rw [ih h (by omega) (ch R h) hc (by omega)]
        · rw [if_neg hw, if_neg hw]
      · rw [decide_eq_true hk, Bool.true_or, Bool.true_or]
theorem op_step {N : Nat → Nat} {R : Nat → Nat → Int32} {g : Nat → Int32} {T : Nat → Bool} (hH : WHo N R) {h : Nat} (h6 : h < N 6) : opB R g T h = (stB R g h && (decide (¬ kd R h = 1) || (if wh R (ch R h) = wh R h then opB R g T (ch R h) else stB R g (ch R h) && T (wh R (ch R h))))) := by
  rw [opB, opF]
  by_cases hk : kd R h = 1
  · have hc := ((hH h h6).2.2.2.2 hk).2
    rw [opF_any hH h (ch R h) hc (by omega)]
  · rw [decide_eq_true hk, Bool.true_or, Bool.true_or]
/-- taken ahead of step k, by the row of steps -/
def tkB (r : Nat → Int32) (k : Int32) (p : Nat) : Bool := decide (¬ r p ≤ 0 ∧ ¬ k ≤ r p)
def frP (R : Nat → Nat → Int32) (T : Nat → Bool) (p q : Nat) : Bool := decide (¬ R 5 (8 * q + p) = 0) && T q
def frI (R : Nat → Nat → Int32) (T : Nat → Bool) (n p : Nat) : Int32 := if fa_first (frP R T p) n < n then nI (fa_first (frP R T p) n) else -4
theorem frI_yes {R : Nat → Nat → Int32} {T : Nat → Bool} {n p i : Nat} (h : ∀ j, j < i → frP R T p j = false) (hi : frP R T p i = true) (hn : i < n) : frI R T n p = nI i := by
  unfold frI
  rw [fst_eq h hi hn, if_pos hn]
theorem frI_no {R : Nat → Nat → Int32} {T : Nat → Bool} {n p : Nat} (h : ∀ j, j < n → frP R T p j = false) : frI R T n p = -4 := by
  unfold frI
  rw [fst_none h, if_neg (Nat.lt_irrefl n)]
theorem all_s {P : Nat → Bool} {i : Nat} (h : ∀ j, j < i → P j = false) (hi : P i = false) : ∀ j, j < i + 1 → P j = false := by
  intro j hj
  by_cases e : j = i
  · rw [e]; exact hi
  · exact h j (by omega)
end
section
set_option maxHeartbeats 4000000 in
set_option maxRecDepth 100000 in
theorem c_isSpan (l : Launch) (D : va_G) (cy : Nat → ClassId) (q : Nat → Nat) (N : Nat → Nat) (R X : Nat → Nat → Int32) (x a b : Int32) (hB : Bd N) : MS (α := Unit) l D cy yX12_isSpan cX12_isSpan 4 (Option.some FieldType.boolean) rm_X12_isSpan [.ref (q 33), .int x, .int a, .int b] (wM cy q N R X) (fun v_ (_ : Unit) => v_ = some (.int (bI (isSp N x a b)))) (fun _ => wM cy q N R X) := by
  refine MS.mk2 (by decide) (Nat.le_of_ble_eq_true rfl) [(0, .ref (q 33)), (1, .int x), (2, .int a), (3, .int b)] rfl ?_
  intro p e s m args below meth c A ls Q hQ S hr hlk hnm hK hA I hl
  have hB0 := hB
  obtain ⟨b0, b6, b17, b24, b30⟩ := hB0
  refine lv_aload_n S.1 S.2.1 dX12_isSpan_0 rfl (lv_at hl 0 rfl) ?_
  refine lv_iload_n S.1 S.2.1 dX12_isSpan_1 rfl (lv_at hl 1 rfl) ?_
  refine cV (np := 1) (ci := 12) (q0 := 0) (As := [.int x]) (rest := []) S (c_isPart l D cy q N R X (x) hB) hK hA I wm_X12_107 wi_X12_isPart ws_X12_X12_isPart wn_X12 wk_X12_isPart ⟨rfl, hd_X12_isPart⟩ rfl ⟨by decide, by decide⟩ rfl rfl hl.1 rfl (Nat.le_of_ble_eq_true rfl) dX12_isSpan_2 ⟨by decide, by decide⟩ (fun v_ u_ H locs h_ I => ?_)
  obtain rfl := h_
  have I : IX D A s.heap (wM cy q N R X) H locs := I
  refine W.eq (g2 := F0 m 5 ls [.int (bI (isP (N 0) x))]) rfl ?_
  refine lv_if_eq (tgt := 31) S.1 S.2.1 dX12_isSpan_5 (by decide) (fun c_5 => ?_) (fun c_5 => ?_)
  · skip
    have c_5 := bI_f c_5
    refine lv_iconst (v := nI 0) S.1 S.2.1 dX12_isSpan_31 (by decide) ?_
    exact ru_z hQ S hr hlk (by decide) (u := ()) I (congrArg (fun z => some (Value.int z)) (bI_0 (by simp [isSp, c_5]))) dX12_isSpan_32
  · skip
    have c_5 := bI_t c_5
    refine lv_iload_n S.1 S.2.1 dX12_isSpan_8 rfl (lv_at hl 2 rfl) ?_
    refine cS (np := 1) (As := [.int a]) (rest := []) S (c_isVersion l D cy (wM cy q N R X) a) hK hA I wm_X12_103 wt_X12_isVersion wn_X12 wk_X12_isVersion ⟨rfl, hd_X12_isVersion⟩ rfl ⟨by decide, by decide⟩ hl.1 rfl (Nat.le_of_ble_eq_true rfl) dX12_isSpan_9 ⟨by decide, by decide⟩ (fun v_ u_ H locs h_ I => ?_)
    obtain rfl := h_
    have I : IX D A s.heap (wM cy q N R X) H locs := I
    refine W.eq (g2 := F0 m 12 ls [.int (bI (isV a))]) rfl ?_
    refine lv_if_eq (tgt := 31) S.1 S.2.1 dX12_isSpan_12 (by decide) (fun c_12 => ?_) (fun c_12 => ?_)
    · skip
      have c_12 := bI_f c_12
      refine lv_iconst (v := nI 0) S.1 S.2.1 dX12_isSpan_31 (by decide) ?_
      exact ru_z hQ S hr hlk (by decide) (u := ()) I (congrArg (fun z => some (Value.int z)) (bI_0 (by simp [isSp, c_5, c_12]))) dX12_isSpan_32
    · skip
      have c_12 := bI_t c_12
      refine lv_iload_n S.1 S.2.1 dX12_isSpan_15 rfl (lv_at hl 3 rfl) ?_
      refine cS (np := 1) (As := [.int b]) (rest := []) S (c_isVersion l D cy (wM cy q N R X) b) hK hA I wm_X12_103 wt_X12_isVersion wn_X12 wk_X12_isVersion ⟨rfl, hd_X12_isVersion⟩ rfl ⟨by decide, by decide⟩ hl.1 rfl (Nat.le_of_ble_eq_true rfl) dX12_isSpan_16 ⟨by decide, by decide⟩ (fun v_ u_ H locs h_ I => ?_)
      obtain rfl := h_
      have I : IX D A s.heap (wM cy q N R X) H locs := I
      refine W.eq (g2 := F0 m 19 ls [.int (bI (isV b))]) rfl ?_
      refine lv_if_eq (tgt := 31) S.1 S.2.1 dX12_isSpan_19 (by decide) (fun c_19 => ?_) (fun c_19 => ?_)
      · skip
        have c_19 := bI_f c_19
        refine lv_iconst (v := nI 0) S.1 S.2.1 dX12_isSpan_31 (by decide) ?_
        exact ru_z hQ S hr hlk (by decide) (u := ()) I (congrArg (fun z => some (Value.int z)) (bI_0 (by simp [isSp, c_5, c_12, c_19]))) dX12_isSpan_32
      · skip
        have c_19 := bI_t c_19
        refine lv_iload_n S.1 S.2.1 dX12_isSpan_22 rfl (lv_at hl 2 rfl) ?_
        refine lv_iload_n S.1 S.2.1 dX12_isSpan_23 rfl (lv_at hl 3 rfl) ?_
        refine lv_icmp_gt (tgt := 31) S.1 S.2.1 dX12_isSpan_24 (by decide) (fun c_24 => ?_) (fun c_24 => ?_)
        · skip
          refine lv_iconst (v := nI 0) S.1 S.2.1 dX12_isSpan_31 (by decide) ?_
          exact ru_z hQ S hr hlk (by decide) (u := ()) I (congrArg (fun z => some (Value.int z)) (bI_0 (by simp [isSp, c_5, c_12, c_19, (show ¬ a ≤ b from (fa_of_lt c_24).2.1)]))) dX12_isSpan_32
        · skip
          refine lv_iconst (v := nI 1) S.1 S.2.1 dX12_isSpan_27 (by decide) ?_
          refine lv_goto (tgt := 32) S.1 S.2.1 dX12_isSpan_28 (by decide) ?_
          exact ru_z hQ S hr hlk (by decide) (u := ()) I (congrArg (fun z => some (Value.int z)) (bI_1 (by simp [isSp, c_5, c_12, c_19, fa_of_nlt c_24]))) dX12_isSpan_32
set_option maxHeartbeats 4000000 in
set_option maxRecDepth 100000 in
theorem c_hole (l : Launch) (D : va_G) (cy : Nat → ClassId) (q : Nat → Nat) (N : Nat → Nat) (R X : Nat → Nat → Int32) (k x a b : Int32) (hB : Bd N) : MS (α := SR) l D cy yX12_hole cX12_hole 5 (Option.some FieldType.int) rm_X12_hole [.ref (q 33), .int k, .int x, .int a, .int b] (wM cy q N R X) (fun v_ u_ => v_ = some (.int (sp_hole N R k x a b).1) ∧ u_ = (sp_hole N R k x a b).2) (fun u_ => wM cy q u_.1 u_.2 X) := by
  refine MS.mk2 (by decide) (Nat.le_of_ble_eq_true rfl) [(0, .ref (q 33)), (1, .int k), (2, .int x), (3, .int a), (4, .int b)] rfl ?_
  intro p e s m args below meth c A ls Q hQ S hr hlk hnm hK hA I hl
  have hB0 := hB
  obtain ⟨b0, b6, b17, b24, b30⟩ := hB0
  refine lv_iload_n S.1 S.2.1 dX12_hole_0 rfl (lv_at hl 1 rfl) ?_
  refine lv_iconst (v := nI 0) S.1 S.2.1 dX12_hole_1 (by decide) ?_
  refine lv_iconst (v := nI 4) S.1 S.2.1 dX12_hole_2 (by decide) ?_
  refine cS (np := 3) (As := [.int k, .int (nI 0), .int (nI 4)]) (rest := []) S (c_in l D cy (wM cy q N R X) k (nI 0) (nI 4)) hK hA I wm_X12_99 wt_X12_in wn_X12 wk_X12_in ⟨rfl, hd_X12_in⟩ rfl ⟨by decide, by decide⟩ hl.1 rfl (Nat.le_of_ble_eq_true rfl) dX12_hole_3 ⟨by decide, by decide⟩ (fun v_ u_ H locs h_ I => ?_)
  obtain rfl := h_
  have I : IX D A s.heap (wM cy q N R X) H locs := I
  refine W.eq (g2 := F0 m 6 ls [.int (bI (inB k (nI 0) (nI 4)))]) rfl ?_
  refine lv_if_eq (tgt := 25) S.1 S.2.1 dX12_hole_6 (by decide) (fun c_6 => ?_) (fun c_6 => ?_)
  · skip
    have c_6 := bI_f c_6
    refine lv_iconst (v := (-1)) S.1 S.2.1 dX12_hole_25 (by decide) ?_
    refine lv_goto (tgt := 39) S.1 S.2.1 dX12_hole_26 (by decide) ?_
    exact ru_i hQ S hr hlk (u := (N, R)) I (by simp [sp_hole, c_6]) dX12_hole_39
  · skip
    have c_6 := bI_t c_6
    refine lv_iload_n S.1 S.2.1 dX12_hole_9 rfl (lv_at hl 1 rfl) ?_
    refine lv_iconst (v := nI 1) S.1 S.2.1 dX12_hole_10 (by decide) ?_
    refine lv_icmp_eq (tgt := 25) S.1 S.2.1 dX12_hole_11 (by decide) (fun c_11 => ?_) (fun c_11 => ?_)
    · skip
      refine lv_iconst (v := (-1)) S.1 S.2.1 dX12_hole_25 (by decide) ?_
      refine lv_goto (tgt := 39) S.1 S.2.1 dX12_hole_26 (by decide) ?_
      exact ru_i hQ S hr hlk (u := (N, R)) I (by simp [sp_hole, c_6, c_11]) dX12_hole_39
    · skip
      refine lv_aload_n S.1 S.2.1 dX12_hole_14 rfl (lv_at hl 0 rfl) ?_
      refine lv_iload_n S.1 S.2.1 dX12_hole_15 rfl (lv_at hl 2 rfl) ?_
      refine lv_iload_n S.1 S.2.1 dX12_hole_16 rfl (lv_at hl 3 rfl) ?_
      refine lv_iload S.1 S.2.1 dX12_hole_17 (lv_at hl 4 rfl) ?_
      refine cV (np := 3) (ci := 12) (q0 := 0) (As := [.int x, .int a, .int b]) (rest := []) S (c_isSpan l D cy q N R X x a b hB) hK hA I wm_X12_113 wi_X12_isSpan ws_X12_X12_isSpan wn_X12 wk_X12_isSpan ⟨rfl, hd_X12_isSpan⟩ rfl ⟨by decide, by decide⟩ rfl rfl hl.1 rfl (Nat.le_of_ble_eq_true rfl) dX12_hole_19 ⟨by decide, by decide⟩ (fun v_ u_ H locs h_ I => ?_)
      obtain rfl := h_
      have I : IX D A s.heap (wM cy q N R X) H locs := I
      refine W.eq (g2 := F0 m 22 ls [.int (bI (isSp N x a b))]) rfl ?_
      refine lv_if_ne (tgt := 29) S.1 S.2.1 dX12_hole_22 (by decide) (fun c_22 => ?_) (fun c_22 => ?_)
      · skip
        have c_22 := bI_t c_22
        refine lv_aload_n S.1 S.2.1 dX12_hole_29 rfl (lv_at hl 0 rfl) ?_
        refine lv_iload_n S.1 S.2.1 dX12_hole_30 rfl (lv_at hl 1 rfl) ?_
        refine lv_iload_n S.1 S.2.1 dX12_hole_31 rfl (lv_at hl 2 rfl) ?_
        refine lv_iload_n S.1 S.2.1 dX12_hole_32 rfl (lv_at hl 3 rfl) ?_
        refine lv_iload S.1 S.2.1 dX12_hole_33 (lv_at hl 4 rfl) ?_
        refine lv_iconst (v := (-1)) S.1 S.2.1 dX12_hole_35 (by decide) ?_
        refine cV (np := 5) (ci := 12) (q0 := 0) (As := [.int k, .int x, .int a, .int b, .int (-1)]) (rest := []) S (c_add l D cy q N R X k x a b (-1) hB) hK hA I wm_X12_116 wi_X12_add ws_X12_X12_add wn_X12 wk_X12_add ⟨rfl, hd_X12_add⟩ rfl ⟨by decide, by decide⟩ rfl rfl hl.1 rfl (Nat.le_of_ble_eq_true rfl) dX12_hole_36 ⟨by decide, by decide⟩ (fun v_ u_ H locs h_ I => ?_)
        obtain ⟨rfl, rfl⟩ := h_
        have I : IX D A s.heap (wM cy q ((sp_add N R k x a b (-1)).2.1) ((sp_add N R k x a b (-1)).2.2) X) H locs := I
        refine W.eq (g2 := F0 m 39 ls [.int ((sp_add N R k x a b (-1)).1)]) rfl ?_
        exact ru_i hQ S hr hlk (u := ((sp_add N R k x a b (-1)).2.1, (sp_add N R k x a b (-1)).2.2)) I (by simp [sp_hole, c_6, c_11, c_22]) dX12_hole_39
      · skip
        have c_22 := bI_f c_22
        refine lv_iconst (v := (-1)) S.1 S.2.1 dX12_hole_25 (by decide) ?_
        refine lv_goto (tgt := 39) S.1 S.2.1 dX12_hole_26 (by decide) ?_
        exact ru_i hQ S hr hlk (u := (N, R)) I (by simp [sp_hole, c_6, c_11, c_22]) dX12_hole_39
set_option maxHeartbeats 4000000 in
set_option maxRecDepth 100000 in
theorem c_chained (l : Launch) (D : va_G) (cy : Nat → ClassId) (q : Nat → Nat) (N : Nat → Nat) (R X : Nat → Nat → Int32) (x a b t : Int32) (hB : Bd N) : MS (α := SR) l D cy yX12_chained cX12_chained 5 (Option.some FieldType.int) rm_X12_chained [.ref (q 33), .int x, .int a, .int b, .int t] (wM cy q N R X) (fun v_ u_ => v_ = some (.int (sp_chained N R x a b t).1) ∧ u_ = (sp_chained N R x a b t).2) (fun u_ => wM cy q u_.1 u_.2 X) := by
  refine MS.mk2 (by decide) (Nat.le_of_ble_eq_true rfl) [(0, .ref (q 33)), (1, .int x), (2, .int a), (3, .int b), (4, .int t)] rfl ?_
  intro p e s m args below meth c A ls Q hQ S hr hlk hnm hK hA I hl
  have hB0 := hB
  obtain ⟨b0, b6, b17, b24, b30⟩ := hB0
  refine lv_aload_n S.1 S.2.1 dX12_chained_0 rfl (lv_at hl 0 rfl) ?_
  refine lv_iload_n S.1 S.2.1 dX12_chained_1 rfl (lv_at hl 1 rfl) ?_
  refine lv_iload_n S.1 S.2.1 dX12_chained_2 rfl (lv_at hl 2 rfl) ?_
  refine lv_iload_n S.1 S.2.1 dX12_chained_3 rfl (lv_at hl 3 rfl) ?_
  refine cV (np := 3) (ci := 12) (q0 := 0) (As := [.int x, .int a, .int b]) (rest := []) S (c_isSpan l D cy q N R X x a b hB) hK hA I wm_X12_113 wi_X12_isSpan ws_X12_X12_isSpan wn_X12 wk_X12_isSpan ⟨rfl, hd_X12_isSpan⟩ rfl ⟨by decide, by decide⟩ rfl rfl hl.1 rfl (Nat.le_of_ble_eq_true rfl) dX12_chained_4 ⟨by decide, by decide⟩ (fun v_ u_ H locs h_ I => ?_)
  obtain rfl := h_
  have I : IX D A s.heap (wM cy q N R X) H locs := I
  refine W.eq (g2 := F0 m 7 ls [.int (bI (isSp N x a b))]) rfl ?_
  refine lv_if_eq (tgt := 19) S.1 S.2.1 dX12_chained_7 (by decide) (fun c_7 => ?_) (fun c_7 => ?_)
  · skip
    have c_7 := bI_f c_7
    refine lv_iconst (v := (-1)) S.1 S.2.1 dX12_chained_19 (by decide) ?_
    refine lv_goto (tgt := 33) S.1 S.2.1 dX12_chained_20 (by decide) ?_
    exact ru_i hQ S hr hlk (u := (N, R)) I (by simp [sp_chained, c_7]) dX12_chained_33
  · skip
    have c_7 := bI_t c_7
    refine lv_aload_n S.1 S.2.1 dX12_chained_10 rfl (lv_at hl 0 rfl) ?_
    refine lv_iload S.1 S.2.1 dX12_chained_11 (lv_at hl 4 rfl) ?_
    refine cV (np := 1) (ci := 12) (q0 := 0) (As := [.int t]) (rest := []) S (c_isHole l D cy q N R X (t) hB) hK hA I wm_X12_120 wi_X12_isHole ws_X12_X12_isHole wn_X12 wk_X12_isHole ⟨rfl, hd_X12_isHole⟩ rfl ⟨by decide, by decide⟩ rfl rfl hl.1 rfl (Nat.le_of_ble_eq_true rfl) dX12_chained_13 ⟨by decide, by decide⟩ (fun v_ u_ H locs h_ I => ?_)
    obtain rfl := h_
    have I : IX D A s.heap (wM cy q N R X) H locs := I
    refine W.eq (g2 := F0 m 16 ls [.int (bI (isP (N 6) t))]) rfl ?_
    refine lv_if_ne (tgt := 23) S.1 S.2.1 dX12_chained_16 (by decide) (fun c_16 => ?_) (fun c_16 => ?_)
    · skip
      have c_16 := bI_t c_16
      refine lv_aload_n S.1 S.2.1 dX12_chained_23 rfl (lv_at hl 0 rfl) ?_
      refine lv_iconst (v := nI 1) S.1 S.2.1 dX12_chained_24 (by decide) ?_
      refine lv_iload_n S.1 S.2.1 dX12_chained_25 rfl (lv_at hl 1 rfl) ?_
      refine lv_iload_n S.1 S.2.1 dX12_chained_26 rfl (lv_at hl 2 rfl) ?_
      refine lv_iload_n S.1 S.2.1 dX12_chained_27 rfl (lv_at hl 3 rfl) ?_
      refine lv_iload S.1 S.2.1 dX12_chained_28 (lv_at hl 4 rfl) ?_
      refine cV (np := 5) (ci := 12) (q0 := 0) (As := [.int (nI 1), .int x, .int a, .int b, .int t]) (rest := []) S (c_add l D cy q N R X (nI 1) x a b t hB) hK hA I wm_X12_116 wi_X12_add ws_X12_X12_add wn_X12 wk_X12_add ⟨rfl, hd_X12_add⟩ rfl ⟨by decide, by decide⟩ rfl rfl hl.1 rfl (Nat.le_of_ble_eq_true rfl) dX12_chained_30 ⟨by decide, by decide⟩ (fun v_ u_ H locs h_ I => ?_)
      obtain ⟨rfl, rfl⟩ := h_
      have I : IX D A s.heap (wM cy q ((sp_add N R (nI 1) x a b t).2.1) ((sp_add N R (nI 1) x a b t).2.2) X) H locs := I
      refine W.eq (g2 := F0 m 33 ls [.int ((sp_add N R (nI 1) x a b t).1)]) rfl ?_
      exact ru_i hQ S hr hlk (u := ((sp_add N R (nI 1) x a b t).2.1, (sp_add N R (nI 1) x a b t).2.2)) I (by simp [sp_chained, c_7, c_16]) dX12_chained_33
    · skip
      have c_16 := bI_f c_16
      refine lv_iconst (v := (-1)) S.1 S.2.1 dX12_chained_19 (by decide) ?_
      refine lv_goto (tgt := 33) S.1 S.2.1 dX12_chained_20 (by decide) ?_
      exact ru_i hQ S hr hlk (u := (N, R)) I (by simp [sp_chained, c_7, c_16]) dX12_chained_33
set_option maxHeartbeats 4000000 in
set_option maxRecDepth 100000 in
theorem c_chain (l : Launch) (D : va_G) (cy : Nat → ClassId) (q : Nat → Nat) (N : Nat → Nat) (R X : Nat → Nat → Int32) (h : Int32) (hB : Bd N) : MS (α := Unit) l D cy yX12_chain cX12_chain 2 (Option.some FieldType.int) rm_X12_chain [.ref (q 33), .int h] (wM cy q N R X) (fun v_ (_ : Unit) => v_ = some (.int (sp_chain N R h))) (fun _ => wM cy q N R X) := by
  refine MS.mk2 (by decide) (Nat.le_of_ble_eq_true rfl) [(0, .ref (q 33)), (1, .int h)] rfl ?_
  intro p e s m args below meth c A ls Q hQ S hr hlk hnm hK hA I hl
  have hB0 := hB
  obtain ⟨b0, b6, b17, b24, b30⟩ := hB0
  refine lv_aload_n S.1 S.2.1 dX12_chain_0 rfl (lv_at hl 0 rfl) ?_
  refine lv_iload_n S.1 S.2.1 dX12_chain_1 rfl (lv_at hl 1 rfl) ?_
  refine cV (np := 1) (ci := 12) (q0 := 0) (As := [.int h]) (rest := []) S (c_isHole l D cy q N R X (h) hB) hK hA I wm_X12_120 wi_X12_isHole ws_X12_X12_isHole wn_X12 wk_X12_isHole ⟨rfl, hd_X12_isHole⟩ rfl ⟨by decide, by decide⟩ rfl rfl hl.1 rfl (Nat.le_of_ble_eq_true rfl) dX12_chain_2 ⟨by decide, by decide⟩ (fun v_ u_ H locs h_ I => ?_)
  obtain rfl := h_
  have I : IX D A s.heap (wM cy q N R X) H locs := I
  refine W.eq (g2 := F0 m 5 ls [.int (bI (isP (N 6) h))]) rfl ?_
  refine lv_if_ne (tgt := 12) S.1 S.2.1 dX12_chain_5 (by decide) (fun c_5 => ?_) (fun c_5 => ?_)
  · skip
    have c_5 := bI_t c_5
    obtain ⟨j, h_j, rfl⟩ := isP_of c_5 (by omega)
    have e_j : (nI j).toNatClampNeg = j := nI_clamp (by omega)
    refine lv_aload_n S.1 S.2.1 dX12_chain_12 rfl (lv_at hl 0 rfl) ?_
    refine rg (ci := 12) (q0 := 0) (v := .ref (q 7)) 7 S hK I cl_X12 rfl wf_X12_26 (by decide) rfl rfl rfl dX12_chain_13 ?_
    refine lv_iload_n S.1 S.2.1 dX12_chain_16 rfl (lv_at hl 1 rfl) ?_
    refine ri (q0 := 6) (n := 12) (f := R 7) j S hK I rfl rfl (by omega) (by decide) dX12_chain_17 ?_
    refine lv_iconst (v := nI 1) S.1 S.2.1 dX12_chain_18 (by decide) ?_
    refine lv_icmp_eq (tgt := 27) S.1 S.2.1 dX12_chain_19 (by decide) (fun c_19 => ?_) (fun c_19 => ?_)
    · skip
      refine lv_aload_n S.1 S.2.1 dX12_chain_27 rfl (lv_at hl 0 rfl) ?_
      refine rg (ci := 12) (q0 := 0) (v := .ref (q 11)) 11 S hK I cl_X12 rfl wf_X12_38 (by decide) rfl rfl rfl dX12_chain_28 ?_
      refine lv_iload_n S.1 S.2.1 dX12_chain_31 rfl (lv_at hl 1 rfl) ?_
      refine ri (q0 := 10) (n := 12) (f := R 11) j S hK I rfl rfl (by omega) (by decide) dX12_chain_32 ?_
      exact ru_i hQ S hr hlk (u := ()) I (by simp [sp_chain, c_5, e_j, c_19]) dX12_chain_33
    · skip
      refine lv_bipush (v := (-13)) S.1 S.2.1 dX12_chain_22 (by decide) ?_
      refine lv_goto (tgt := 33) S.1 S.2.1 dX12_chain_24 (by decide) ?_
      exact ru_i hQ S hr hlk (u := ()) I (by simp [sp_chain, c_5, e_j, c_19]) dX12_chain_33
  · skip
    have c_5 := bI_f c_5
    refine lv_iconst (v := (-1)) S.1 S.2.1 dX12_chain_8 (by decide) ?_
    refine lv_goto (tgt := 33) S.1 S.2.1 dX12_chain_9 (by decide) ?_
    exact ru_i hQ S hr hlk (u := ()) I (by simp [sp_chain, c_5]) dX12_chain_33
set_option maxHeartbeats 4000000 in
set_option maxRecDepth 100000 in
theorem c_isSet (l : Launch) (D : va_G) (cy : Nat → ClassId) (q : Nat → Nat) (N : Nat → Nat) (R X : Nat → Nat → Int32) (x : Int32) (hB : Bd N) : MS (α := Unit) l D cy yX12_isSet cX12_isSet 2 (Option.some FieldType.boolean) rm_X12_isSet [.ref (q 33), .int x] (wM cy q N R X) (fun v_ (_ : Unit) => v_ = some (.int (bI (isP (2 ^ N 17) x)))) (fun _ => wM cy q N R X) := by
  refine MS.mk2 (by decide) (Nat.le_of_ble_eq_true rfl) [(0, .ref (q 33)), (1, .int x)] rfl ?_
  intro p e s m args below meth c A ls Q hQ S hr hlk hnm hK hA I hl
  have hB0 := hB
  obtain ⟨b0, b6, b17, b24, b30⟩ := hB0
  refine lv_iload_n S.1 S.2.1 dX12_isSet_0 rfl (lv_at hl 1 rfl) ?_
  refine lv_iconst (v := nI 0) S.1 S.2.1 dX12_isSet_1 (by decide) ?_
  refine lv_iconst (v := nI 1) S.1 S.2.1 dX12_isSet_2 (by decide) ?_
  refine lv_aload_n S.1 S.2.1 dX12_isSet_3 rfl (lv_at hl 0 rfl) ?_
  refine rg (ci := 12) (q0 := 0) (v := .int (nI (N 17))) 17 S hK I cl_X12 rfl wf_X12_123 (by decide) rfl rfl rfl dX12_isSet_4 ?_
  refine lv_ishl S.1 S.2.1 dX12_isSet_7 ?_
  refine tI (y := nI (2 ^ N 17)) (bitS (by omega)) ?_
  refine lv_iconst (v := nI 1) S.1 S.2.1 dX12_isSet_8 (by decide) ?_
  refine lv_isub S.1 S.2.1 dX12_isSet_9 ?_
  refine cS (np := 3) (As := [.int x, .int (nI 0), .int ((nI (2 ^ N 17)) - (nI 1))]) (rest := []) S (c_in l D cy (wM cy q N R X) x (nI 0) ((nI (2 ^ N 17)) - (nI 1))) hK hA I wm_X12_99 wt_X12_in wn_X12 wk_X12_in ⟨rfl, hd_X12_in⟩ rfl ⟨by decide, by decide⟩ hl.1 rfl (Nat.le_of_ble_eq_true rfl) dX12_isSet_10 ⟨by decide, by decide⟩ (fun v_ u_ H locs h_ I => ?_)
  obtain rfl := h_
  have I : IX D A s.heap (wM cy q N R X) H locs := I
  refine W.eq (g2 := F0 m 13 ls [.int (bI (inB x (nI 0) ((nI (2 ^ N 17)) - (nI 1))))]) rfl ?_
  refine tI (y := bI (isP (2 ^ N 17) x)) (congrArg bI (isP_in (Nat.lt_of_le_of_lt (pow_256 b17) (by decide)) _)) ?_
  exact ru_z hQ S hr hlk (bI_01 _) (u := ()) I rfl dX12_isSet_13
set_option maxHeartbeats 4000000 in
set_option maxRecDepth 100000 in
theorem c_takeVersions (l : Launch) (D : va_G) (cy : Nat → ClassId) (q : Nat → Nat) (N : Nat → Nat) (R X : Nat → Nat → Int32) (d : Nat) (hW : WFm N R) (hd : d < 2147483648) : MS (α := (Nat → Int32)) l D cy yX12_takeVersions cX12_takeVersions 3 (Option.none : Option FieldType) rm_X12_takeVersions [.ref (q 33), .int (nI d)] (wM cy q N R X) (fun v_ u_ => v_ = none ∧ ∀ p, p < N 0 → u_ p = vtF R d (N 17) p) (fun u_ => wM cy q N R (va_up X 13 u_)) := by
  refine MS.mk2 (by decide) (Nat.le_of_ble_eq_true rfl) [(0, .ref (q 33)), (1, .int (nI d))] rfl ?_
  intro p e s m args below meth c A ls Q hQ S hr hlk hnm hK hA I hl
  have hW0 := hW
  obtain ⟨hB, hPt, hBo, hH, hM, hQu⟩ := hW0
  have hB0 := hB
  obtain ⟨b0, b6, b17, b24, b30⟩ := hB0
  refine lv_iconst (v := nI 0) S.1 S.2.1 dX12_takeVersions_0 (by decide) ?_
  refine lv_istore_n (lv' := [(2, .int (nI 0)), (0, .ref (q 33)), (1, .int (nI d))]) S.1 S.2.1 dX12_takeVersions_1 rfl hl (by decide) rfl (fun ls hl => ?_)
  have loop_2 : ∀ (k_ : Nat) (i : Nat) (g : Nat → Int32), N 0 - i < k_ → i ≤ N 0 → (∀ p, p < i → g p = R 1 p) → ∀ (H : Heap) (locs : List Loc) (ls : Array Slot), IX D A s.heap (wM cy q N R (va_up X 13 g)) H locs → lv_has ls 3 [(0, .ref (q 33)), (1, .int (nI d)), (2, .int (nI i))] → W p l e rm_X12_takeVersions s m args below meth c H locs 0 0 Q (F0 m 2 ls []) := by
    intro k_
    induction k_ with
    | zero => intro i g hm_; exact absurd hm_ (Nat.not_lt_zero _)
    | succ k_ ih_2 =>
      intro i g hm_ hi hg H locs ls I hl
      refine lv_iload_n S.1 S.2.1 dX12_takeVersions_2 rfl (lv_at hl 2 rfl) ?_
      refine lv_aload_n S.1 S.2.1 dX12_takeVersions_3 rfl (lv_at hl 0 rfl) ?_
      refine rg (ci := 12) (q0 := 0) (v := .int (nI (N 0))) 0 S hK I cl_X12 rfl wf_X12_95 (by decide) rfl rfl rfl dX12_takeVersions_4 ?_
      refine lv_icmp_ge (tgt := 28) S.1 S.2.1 dX12_takeVersions_7 (by decide) (fun c_7 => ?_) (fun c_7 => ?_)
      · skip
        have c_7o := c_7
        have c_7 := nI_cgeT (by omega) (by omega) c_7
        refine lv_iconst (v := nI 0) S.1 S.2.1 dX12_takeVersions_28 (by decide) ?_
        refine lv_istore_n (lv' := [(2, .int (nI 0)), (0, .ref (q 33)), (1, .int (nI d))]) S.1 S.2.1 dX12_takeVersions_29 rfl hl (by decide) rfl (fun ls hl => ?_)
        have loop_30 : ∀ (k_ : Nat) (m2 : Nat) (g2 : Nat → Int32), N 17 - m2 < k_ → m2 ≤ N 17 → (∀ p, p < N 0 → g2 p = vtF R d m2 p) → ∀ (H : Heap) (locs : List Loc) (ls : Array Slot), IX D A s.heap (wM cy q N R (va_up X 13 g2)) H locs → lv_has ls 3 [(0, .ref (q 33)), (1, .int (nI d)), (2, .int (nI m2))] → W p l e rm_X12_takeVersions s m args below meth c H locs 0 0 Q (F0 m 30 ls []) := by
          intro k_
          induction k_ with
          | zero => intro m2 g2 hm_; exact absurd hm_ (Nat.not_lt_zero _)
          | succ k_ ih_30 =>
            intro m2 g2 hm_ hm2 hg2 H locs ls I hl
            refine lv_iload_n S.1 S.2.1 dX12_takeVersions_30 rfl (lv_at hl 2 rfl) ?_
            refine lv_aload_n S.1 S.2.1 dX12_takeVersions_31 rfl (lv_at hl 0 rfl) ?_
            refine rg (ci := 12) (q0 := 0) (v := .int (nI (N 17))) 17 S hK I cl_X12 rfl wf_X12_123 (by decide) rfl rfl rfl dX12_takeVersions_32 ?_
            refine lv_icmp_ge (tgt := 90) S.1 S.2.1 dX12_takeVersions_35 (by decide) (fun c_35 => ?_) (fun c_35 => ?_)
            · skip
              have c_35o := c_35
              have c_35 := nI_cgeT (by omega) (by omega) c_35
              exact ru_v hQ S hr hlk (u := g2) I (⟨rfl, by rw [show N 17 = m2 by omega]; exact hg2⟩) dX12_takeVersions_90
            · skip
              have c_35o := c_35
              have c_35 := nI_cgeF (by omega) (by omega) c_35
              have hmp := (hM m2 (by omega)).2.1
              refine lv_iload_n S.1 S.2.1 dX12_takeVersions_38 rfl (lv_at hl 1 rfl) ?_
              refine lv_iload_n S.1 S.2.1 dX12_takeVersions_39 rfl (lv_at hl 2 rfl) ?_
              refine lv_ishr S.1 S.2.1 dX12_takeVersions_40 ?_
              refine lv_iconst (v := nI 1) S.1 S.2.1 dX12_takeVersions_41 (by decide) ?_
              refine lv_iand S.1 S.2.1 dX12_takeVersions_42 ?_
              refine tI (y := bI (d.testBit m2)) (bitD hd (by omega)) ?_
              refine lv_iconst (v := nI 1) S.1 S.2.1 dX12_takeVersions_43 (by decide) ?_
              refine lv_icmp_ne (tgt := 84) S.1 S.2.1 dX12_takeVersions_44 (by decide) (fun c_44 => ?_) (fun c_44 => ?_)
              · skip
                have c_44 := bI_eq1F c_44
                refine lv_iinc (v := nI (m2 + 1)) (lv' := [(2, .int (nI (m2 + 1))), (0, .ref (q 33)), (1, .int (nI d))]) S.1 S.2.1 dX12_takeVersions_84 hl (k := 2) rfl (nI_1 _) (by decide) rfl (fun ls hl => ?_)
                refine lv_goto (tgt := 30) S.1 S.2.1 dX12_takeVersions_87 (by decide) ?_
                exact ih_30 (m2 + 1) g2 (by omega) (by omega) (vt_a c_44 hg2) _ _ _ I (lv_sub hl [1, 2, 0] rfl)
              · skip
                have c_44 := bI_eq1T c_44
                refine lv_aload_n S.1 S.2.1 dX12_takeVersions_47 rfl (lv_at hl 0 rfl) ?_
                refine rg (ci := 12) (q0 := 0) (v := .ref (q 19)) 19 S hK I cl_X12 rfl wf_X12_59 (by decide) rfl rfl rfl dX12_takeVersions_48 ?_
                refine lv_iload_n S.1 S.2.1 dX12_takeVersions_51 rfl (lv_at hl 2 rfl) ?_
                refine ri (q0 := 17) (n := 8) (f := R 19) m2 S hK I rfl rfl (by omega) (by decide) dX12_takeVersions_52 ?_
                refine lv_aload_n S.1 S.2.1 dX12_takeVersions_53 rfl (lv_at hl 0 rfl) ?_
                refine rg (ci := 12) (q0 := 0) (v := .ref (q 13)) 13 S hK I cl_X12 rfl wf_X12_44 (by decide) rfl rfl rfl dX12_takeVersions_54 ?_
                refine lv_aload_n S.1 S.2.1 dX12_takeVersions_57 rfl (lv_at hl 0 rfl) ?_
                refine rg (ci := 12) (q0 := 0) (v := .ref (q 18)) 18 S hK I cl_X12 rfl wf_X12_56 (by decide) rfl rfl rfl dX12_takeVersions_58 ?_
                refine lv_iload_n S.1 S.2.1 dX12_takeVersions_61 rfl (lv_at hl 2 rfl) ?_
                refine ri (q0 := 16) (n := 8) (f := R 18) m2 S hK I rfl rfl (by omega) (by decide) dX12_takeVersions_62 ?_
                refine tI (y := nI (mp R m2)) (hM m2 (by omega)).1 ?_
                refine ri (q0 := 12) (n := 8) (f := g2) (mp R m2) S hK I rfl rfl (by omega) (by decide) dX12_takeVersions_63 ?_
                refine lv_icmp_le (tgt := 84) S.1 S.2.1 dX12_takeVersions_64 (by decide) (fun c_64 => ?_) (fun c_64 => ?_)
                · skip
                  refine lv_iinc (v := nI (m2 + 1)) (lv' := [(2, .int (nI (m2 + 1))), (0, .ref (q 33)), (1, .int (nI d))]) S.1 S.2.1 dX12_takeVersions_84 hl (k := 2) rfl (nI_1 _) (by decide) rfl (fun ls hl => ?_)
                  refine lv_goto (tgt := 30) S.1 S.2.1 dX12_takeVersions_87 (by decide) ?_
                  exact ih_30 (m2 + 1) g2 (by omega) (by omega) (vt_b hmp c_64 hg2) _ _ _ I (lv_sub hl [1, 2, 0] rfl)
                · skip
                  refine lv_aload_n S.1 S.2.1 dX12_takeVersions_67 rfl (lv_at hl 0 rfl) ?_
                  refine rg (ci := 12) (q0 := 0) (v := .ref (q 13)) 13 S hK I cl_X12 rfl wf_X12_44 (by decide) rfl rfl rfl dX12_takeVersions_68 ?_
                  refine lv_aload_n S.1 S.2.1 dX12_takeVersions_71 rfl (lv_at hl 0 rfl) ?_
                  refine rg (ci := 12) (q0 := 0) (v := .ref (q 18)) 18 S hK I cl_X12 rfl wf_X12_56 (by decide) rfl rfl rfl dX12_takeVersions_72 ?_
                  refine lv_iload_n S.1 S.2.1 dX12_takeVersions_75 rfl (lv_at hl 2 rfl) ?_
                  refine ri (q0 := 16) (n := 8) (f := R 18) m2 S hK I rfl rfl (by omega) (by decide) dX12_takeVersions_76 ?_
                  refine tI (y := nI (mp R m2)) (hM m2 (by omega)).1 ?_
                  refine lv_aload_n S.1 S.2.1 dX12_takeVersions_77 rfl (lv_at hl 0 rfl) ?_
                  refine rg (ci := 12) (q0 := 0) (v := .ref (q 19)) 19 S hK I cl_X12 rfl wf_X12_59 (by decide) rfl rfl rfl dX12_takeVersions_78 ?_
                  refine lv_iload_n S.1 S.2.1 dX12_takeVersions_81 rfl (lv_at hl 2 rfl) ?_
                  refine ri (q0 := 17) (n := 8) (f := R 19) m2 S hK I rfl rfl (by omega) (by decide) dX12_takeVersions_82 ?_
                  refine si (q0 := 12) (n := 8) (f := g2) (mp R m2) S hK I rfl rfl (by omega) (by decide) dX12_takeVersions_83 (fun H locs I => ?_)
                  have I : IX D A s.heap (wM cy q N R (va_up X 13 (upd g2 (mp R m2) (R 19 m2)))) H locs := I
                  refine lv_iinc (v := nI (m2 + 1)) (lv' := [(2, .int (nI (m2 + 1))), (0, .ref (q 33)), (1, .int (nI d))]) S.1 S.2.1 dX12_takeVersions_84 hl (k := 2) rfl (nI_1 _) (by decide) rfl (fun ls hl => ?_)
                  refine lv_goto (tgt := 30) S.1 S.2.1 dX12_takeVersions_87 (by decide) ?_
                  exact ih_30 (m2 + 1) (upd g2 (mp R m2) (R 19 m2)) (by omega) (by omega) (vt_c hmp c_44 c_64 hg2) _ _ _ I (lv_sub hl [1, 2, 0] rfl)
        exact loop_30 _ 0 g (Nat.lt_succ_self _) (Nat.zero_le _) (fun p hp => hg p (by omega)) _ _ _ I (lv_sub hl [1, 2, 0] rfl)
      · skip
        have c_7o := c_7
        have c_7 := nI_cgeF (by omega) (by omega) c_7
        refine lv_aload_n S.1 S.2.1 dX12_takeVersions_10 rfl (lv_at hl 0 rfl) ?_
        refine rg (ci := 12) (q0 := 0) (v := .ref (q 13)) 13 S hK I cl_X12 rfl wf_X12_44 (by decide) rfl rfl rfl dX12_takeVersions_11 ?_
        refine lv_iload_n S.1 S.2.1 dX12_takeVersions_14 rfl (lv_at hl 2 rfl) ?_
        refine lv_aload_n S.1 S.2.1 dX12_takeVersions_15 rfl (lv_at hl 0 rfl) ?_
        refine rg (ci := 12) (q0 := 0) (v := .ref (q 1)) 1 S hK I cl_X12 rfl wf_X12_7 (by decide) rfl rfl rfl dX12_takeVersions_16 ?_
        refine lv_iload_n S.1 S.2.1 dX12_takeVersions_19 rfl (lv_at hl 2 rfl) ?_
        refine ri (q0 := 1) (n := 8) (f := R 1) i S hK I rfl rfl (by omega) (by decide) dX12_takeVersions_20 ?_
        refine si (q0 := 12) (n := 8) (f := g) i S hK I rfl rfl (by omega) (by decide) dX12_takeVersions_21 (fun H locs I => ?_)
        have I : IX D A s.heap (wM cy q N R (va_up X 13 (upd g i (R 1 i)))) H locs := I
        refine lv_iinc (v := nI (i + 1)) (lv' := [(2, .int (nI (i + 1))), (0, .ref (q 33)), (1, .int (nI d))]) S.1 S.2.1 dX12_takeVersions_22 hl (k := 2) rfl (nI_1 _) (by decide) rfl (fun ls hl => ?_)
        refine lv_goto (tgt := 2) S.1 S.2.1 dX12_takeVersions_25 (by decide) ?_
        exact ih_2 (i + 1) (upd g i (R 1 i)) (by omega) (by omega) (cp_s hg) _ _ _ I (lv_sub hl [1, 2, 0] rfl)
  exact loop_2 _ 0 (X 13) (Nat.lt_succ_self _) (Nat.zero_le _) (fun p hp => absurd hp (Nat.not_lt_zero _)) _ _ _ I (lv_sub hl [1, 2, 0] rfl)
set_option maxHeartbeats 4000000 in
set_option maxRecDepth 100000 in
theorem c_stands (l : Launch) (D : va_G) (cy : Nat → ClassId) (q : Nat → Nat) (N : Nat → Nat) (R X : Nat → Nat → Int32) (h : Nat) (hW : WFm N R) (hh : h < N 6) : MS (α := Unit) l D cy yX12_stands cX12_stands 4 (Option.some FieldType.boolean) rm_X12_stands [.ref (q 33), .int (nI h)] (wM cy q N R X) (fun v_ (_ : Unit) => v_ = some (.int (bI (stB R (X 13) h)))) (fun _ => wM cy q N R X) := by
  refine MS.mk2 (by decide) (Nat.le_of_ble_eq_true rfl) [(0, .ref (q 33)), (1, .int (nI h))] rfl ?_
  intro p e s m args below meth c A ls Q hQ S hr hlk hnm hK hA I hl
  have hW0 := hW
  obtain ⟨hB, hPt, hBo, hH, hM, hQu⟩ := hW0
  have hB0 := hB
  obtain ⟨b0, b6, b17, b24, b30⟩ := hB0
  have hwh := (hH h hh).2.1
  have hkd := (hH h hh).2.2.2.1
  refine lv_aload_n S.1 S.2.1 dX12_stands_0 rfl (lv_at hl 0 rfl) ?_
  refine rg (ci := 12) (q0 := 0) (v := .ref (q 8)) 8 S hK I cl_X12 rfl wf_X12_29 (by decide) rfl rfl rfl dX12_stands_1 ?_
  refine lv_iload_n S.1 S.2.1 dX12_stands_4 rfl (lv_at hl 1 rfl) ?_
  refine ri (q0 := 7) (n := 12) (f := R 8) h S hK I rfl rfl (by omega) (by decide) dX12_stands_5 ?_
  refine tI (y := nI (wh R h)) (hH h (by omega)).1 ?_
  refine lv_istore_n (lv' := [(2, .int (nI (wh R h))), (0, .ref (q 33)), (1, .int (nI h))]) S.1 S.2.1 dX12_stands_6 rfl hl (by decide) rfl (fun ls hl => ?_)
  refine lv_aload_n S.1 S.2.1 dX12_stands_7 rfl (lv_at hl 1 rfl) ?_
  refine rg (ci := 12) (q0 := 0) (v := .ref (q 13)) 13 S hK I cl_X12 rfl wf_X12_44 (by decide) rfl rfl rfl dX12_stands_8 ?_
  refine lv_iload_n S.1 S.2.1 dX12_stands_11 rfl (lv_at hl 0 rfl) ?_
  refine ri (q0 := 12) (n := 8) (f := X 13) (wh R h) S hK I rfl rfl (by omega) (by decide) dX12_stands_12 ?_
  refine lv_aload_n S.1 S.2.1 dX12_stands_13 rfl (lv_at hl 1 rfl) ?_
  refine rg (ci := 12) (q0 := 0) (v := .ref (q 9)) 9 S hK I cl_X12 rfl wf_X12_32 (by decide) rfl rfl rfl dX12_stands_14 ?_
  refine lv_iload_n S.1 S.2.1 dX12_stands_17 rfl (lv_at hl 2 rfl) ?_
  refine ri (q0 := 8) (n := 12) (f := R 9) h S hK I rfl rfl (by omega) (by decide) dX12_stands_18 ?_
  refine lv_aload_n S.1 S.2.1 dX12_stands_19 rfl (lv_at hl 1 rfl) ?_
  refine rg (ci := 12) (q0 := 0) (v := .ref (q 10)) 10 S hK I cl_X12 rfl wf_X12_35 (by decide) rfl rfl rfl dX12_stands_20 ?_
  refine lv_iload_n S.1 S.2.1 dX12_stands_23 rfl (lv_at hl 2 rfl) ?_
  refine ri (q0 := 9) (n := 12) (f := R 10) h S hK I rfl rfl (by omega) (by decide) dX12_stands_24 ?_
  refine cS (np := 3) (As := [.int (X 13 (wh R h)), .int (R 9 h), .int (R 10 h)]) (rest := []) S (c_in l D cy (wM cy q N R X) (X 13 (wh R h)) (R 9 h) (R 10 h)) hK hA I wm_X12_99 wt_X12_in wn_X12 wk_X12_in ⟨rfl, hd_X12_in⟩ rfl ⟨by decide, by decide⟩ hl.1 rfl (Nat.le_of_ble_eq_true rfl) dX12_stands_25 ⟨by decide, by decide⟩ (fun v_ u_ H locs h_ I => ?_)
  obtain rfl := h_
  have I : IX D A s.heap (wM cy q N R X) H locs := I
  refine W.eq (g2 := F0 m 28 ls [.int (bI (inB (X 13 (wh R h)) (R 9 h) (R 10 h)))]) rfl ?_
  refine lv_istore_n (lv' := [(3, .int (bI (inB (X 13 (wh R h)) (R 9 h) (R 10 h)))), (2, .int (nI (wh R h))), (0, .ref (q 33)), (1, .int (nI h))]) S.1 S.2.1 dX12_stands_28 rfl hl (by decide) rfl (fun ls hl => ?_)
  refine lv_iload_n S.1 S.2.1 dX12_stands_29 rfl (lv_at hl 0 rfl) ?_
  refine lv_if_eq (tgt := 75) S.1 S.2.1 dX12_stands_30 (by decide) (fun c_30 => ?_) (fun c_30 => ?_)
  · skip
    have c_30 := bI_f c_30
    refine lv_iconst (v := nI 0) S.1 S.2.1 dX12_stands_75 (by decide) ?_
    exact ru_z hQ S hr hlk (by decide) (u := ()) I (congrArg (fun z => some (Value.int z)) (bI_0 (by first | (simp [stB, c_30]; done) | (exfalso; omega)))) dX12_stands_76
  · skip
    have c_30 := bI_t c_30
    refine lv_aload_n S.1 S.2.1 dX12_stands_33 rfl (lv_at hl 2 rfl) ?_
    refine rg (ci := 12) (q0 := 0) (v := .ref (q 7)) 7 S hK I cl_X12 rfl wf_X12_26 (by decide) rfl rfl rfl dX12_stands_34 ?_
    refine lv_iload_n S.1 S.2.1 dX12_stands_37 rfl (lv_at hl 3 rfl) ?_
    refine ri (q0 := 6) (n := 12) (f := R 7) h S hK I rfl rfl (by omega) (by decide) dX12_stands_38 ?_
    refine tI (y := nI (kd R h)) (hH h (by omega)).2.2.1 ?_
    refine lv_iconst (v := nI 2) S.1 S.2.1 dX12_stands_39 (by decide) ?_
    refine lv_icmp_ne (tgt := 52) S.1 S.2.1 dX12_stands_40 (by decide) (fun c_40 => ?_) (fun c_40 => ?_)
    · skip
      have c_40o := c_40
      have c_40 := nI_cneT (by omega) (by omega) c_40
      refine lv_aload_n S.1 S.2.1 dX12_stands_52 rfl (lv_at hl 2 rfl) ?_
      refine rg (ci := 12) (q0 := 0) (v := .ref (q 7)) 7 S hK I cl_X12 rfl wf_X12_26 (by decide) rfl rfl rfl dX12_stands_53 ?_
      refine lv_iload_n S.1 S.2.1 dX12_stands_56 rfl (lv_at hl 3 rfl) ?_
      refine ri (q0 := 6) (n := 12) (f := R 7) h S hK I rfl rfl (by omega) (by decide) dX12_stands_57 ?_
      refine tI (y := nI (kd R h)) (hH h (by omega)).2.2.1 ?_
      refine lv_iconst (v := nI 4) S.1 S.2.1 dX12_stands_58 (by decide) ?_
      refine lv_icmp_ne (tgt := 71) S.1 S.2.1 dX12_stands_59 (by decide) (fun c_59 => ?_) (fun c_59 => ?_)
      · skip
        have c_59o := c_59
        have c_59 := nI_cneT (by omega) (by omega) c_59
        refine lv_iconst (v := nI 1) S.1 S.2.1 dX12_stands_71 (by decide) ?_
        refine lv_goto (tgt := 76) S.1 S.2.1 dX12_stands_72 (by decide) ?_
        exact ru_z hQ S hr hlk (by decide) (u := ()) I (congrArg (fun z => some (Value.int z)) (bI_1 (by first | (simp [stB, c_30, c_40o, c_40, c_59o, c_59]; done) | (exfalso; omega)))) dX12_stands_76
      · skip
        have c_59o := c_59
        have c_59 := nI_cneF (by omega) (by omega) c_59
        refine lv_aload_n S.1 S.2.1 dX12_stands_62 rfl (lv_at hl 2 rfl) ?_
        refine rg (ci := 12) (q0 := 0) (v := .ref (q 12)) 12 S hK I cl_X12 rfl wf_X12_41 (by decide) rfl rfl rfl dX12_stands_63 ?_
        refine lv_iload_n S.1 S.2.1 dX12_stands_66 rfl (lv_at hl 3 rfl) ?_
        refine rz (q0 := 11) (n := 12) (f := R 12) h S hK I rfl rfl (by omega) (by decide) dX12_stands_67 ?_
        refine lv_if_eq (tgt := 75) S.1 S.2.1 dX12_stands_68 (by decide) (fun c_68 => ?_) (fun c_68 => ?_)
        · skip
          refine lv_iconst (v := nI 0) S.1 S.2.1 dX12_stands_75 (by decide) ?_
          exact ru_z hQ S hr hlk (by decide) (u := ()) I (congrArg (fun z => some (Value.int z)) (bI_0 (by first | (simp [stB, c_30, c_40o, c_40, c_59o, c_59, c_68]; done) | (exfalso; omega)))) dX12_stands_76
        · skip
          refine lv_iconst (v := nI 1) S.1 S.2.1 dX12_stands_71 (by decide) ?_
          refine lv_goto (tgt := 76) S.1 S.2.1 dX12_stands_72 (by decide) ?_
          exact ru_z hQ S hr hlk (by decide) (u := ()) I (congrArg (fun z => some (Value.int z)) (bI_1 (by first | (simp [stB, c_30, c_40o, c_40, c_59o, c_59, c_68]; done) | (exfalso; omega)))) dX12_stands_76
    · skip
      have c_40o := c_40
      have c_40 := nI_cneF (by omega) (by omega) c_40
      refine lv_aload_n S.1 S.2.1 dX12_stands_43 rfl (lv_at hl 2 rfl) ?_
      refine rg (ci := 12) (q0 := 0) (v := .ref (q 4)) 4 S hK I cl_X12 rfl wf_X12_20 (by decide) rfl rfl rfl dX12_stands_44 ?_
      refine lv_iload_n S.1 S.2.1 dX12_stands_47 rfl (lv_at hl 1 rfl) ?_
      refine rz (q0 := 4) (n := 8) (f := R 4) (wh R h) S hK I rfl rfl (by omega) (by decide) dX12_stands_48 ?_
      refine lv_if_ne (tgt := 75) S.1 S.2.1 dX12_stands_49 (by decide) (fun c_49 => ?_) (fun c_49 => ?_)
      · skip
        refine lv_iconst (v := nI 0) S.1 S.2.1 dX12_stands_75 (by decide) ?_
        exact ru_z hQ S hr hlk (by decide) (u := ()) I (congrArg (fun z => some (Value.int z)) (bI_0 (by first | (simp [stB, c_30, c_40o, c_40, c_49]; done) | (exfalso; omega)))) dX12_stands_76
      · skip
        refine lv_aload_n S.1 S.2.1 dX12_stands_52 rfl (lv_at hl 2 rfl) ?_
        refine rg (ci := 12) (q0 := 0) (v := .ref (q 7)) 7 S hK I cl_X12 rfl wf_X12_26 (by decide) rfl rfl rfl dX12_stands_53 ?_
        refine lv_iload_n S.1 S.2.1 dX12_stands_56 rfl (lv_at hl 3 rfl) ?_
        refine ri (q0 := 6) (n := 12) (f := R 7) h S hK I rfl rfl (by omega) (by decide) dX12_stands_57 ?_
        refine tI (y := nI (kd R h)) (hH h (by omega)).2.2.1 ?_
        refine lv_iconst (v := nI 4) S.1 S.2.1 dX12_stands_58 (by decide) ?_
        refine lv_icmp_ne (tgt := 71) S.1 S.2.1 dX12_stands_59 (by decide) (fun c_59 => ?_) (fun c_59 => ?_)
        · skip
          have c_59o := c_59
          have c_59 := nI_cneT (by omega) (by omega) c_59
          refine lv_iconst (v := nI 1) S.1 S.2.1 dX12_stands_71 (by decide) ?_
          refine lv_goto (tgt := 76) S.1 S.2.1 dX12_stands_72 (by decide) ?_
          exact ru_z hQ S hr hlk (by decide) (u := ()) I (congrArg (fun z => some (Value.int z)) (bI_1 (by first | (simp [stB, c_30, c_40o, c_40, c_49, c_59o, c_59]; done) | (exfalso; omega)))) dX12_stands_76
        · skip
          have c_59o := c_59
          have c_59 := nI_cneF (by omega) (by omega) c_59
          refine lv_aload_n S.1 S.2.1 dX12_stands_62 rfl (lv_at hl 2 rfl) ?_
          refine rg (ci := 12) (q0 := 0) (v := .ref (q 12)) 12 S hK I cl_X12 rfl wf_X12_41 (by decide) rfl rfl rfl dX12_stands_63 ?_
          refine lv_iload_n S.1 S.2.1 dX12_stands_66 rfl (lv_at hl 3 rfl) ?_
          refine rz (q0 := 11) (n := 12) (f := R 12) h S hK I rfl rfl (by omega) (by decide) dX12_stands_67 ?_
          refine lv_if_eq (tgt := 75) S.1 S.2.1 dX12_stands_68 (by decide) (fun c_68 => ?_) (fun c_68 => ?_)
          · skip
            refine lv_iconst (v := nI 0) S.1 S.2.1 dX12_stands_75 (by decide) ?_
            exact ru_z hQ S hr hlk (by decide) (u := ()) I (congrArg (fun z => some (Value.int z)) (bI_0 (by first | (simp [stB, c_30, c_40o, c_40, c_49, c_59o, c_59, c_68]; done) | (exfalso; omega)))) dX12_stands_76
          · skip
            refine lv_iconst (v := nI 1) S.1 S.2.1 dX12_stands_71 (by decide) ?_
            refine lv_goto (tgt := 76) S.1 S.2.1 dX12_stands_72 (by decide) ?_
            exact ru_z hQ S hr hlk (by decide) (u := ()) I (congrArg (fun z => some (Value.int z)) (bI_1 (by first | (simp [stB, c_30, c_40o, c_40, c_49, c_59o, c_59, c_68]; done) | (exfalso; omega)))) dX12_stands_76
set_option maxHeartbeats 4000000 in
set_option maxRecDepth 100000 in
theorem c_opens (l : Launch) (D : va_G) (cy : Nat → ClassId) (q : Nat → Nat) (N : Nat → Nat) (R X : Nat → Nat → Int32) (h : Nat) (k : Int32) (hW : WFm N R) (hh : h < N 6) : MS (α := Unit) l D cy yX12_opens cX12_opens 5 (Option.some FieldType.boolean) rm_X12_opens [.ref (q 33), .int (nI h), .int k] (wM cy q N R X) (fun v_ (_ : Unit) => v_ = some (.int (bI (opB R (X 13) (tkB (X 14) k) h)))) (fun _ => wM cy q N R X) := by
  refine MS.mk2 (by decide) (Nat.le_of_ble_eq_true rfl) [(0, .ref (q 33)), (1, .int (nI h)), (2, .int k)] rfl ?_
  intro p e s m args below meth c A ls Q hQ S hr hlk hnm hK hA I hl
  have hW0 := hW
  obtain ⟨hB, hPt, hBo, hH, hM, hQu⟩ := hW0
  have hB0 := hB
  obtain ⟨b0, b6, b17, b24, b30⟩ := hB0
  refine lv_iload_n S.1 S.2.1 dX12_opens_0 rfl (lv_at hl 1 rfl) ?_
  refine lv_istore_n (lv' := [(3, .int (nI h)), (0, .ref (q 33)), (1, .int (nI h)), (2, .int k)]) S.1 S.2.1 dX12_opens_1 rfl hl (by decide) rfl (fun ls hl => ?_)
  have loop_2 : ∀ (k_ : Nat) (h2 : Nat), h2 < k_ → h2 < N 6 → wh R h2 = wh R h → opB R (X 13) (tkB (X 14) k) h2 = opB R (X 13) (tkB (X 14) k) h → ∀ (H : Heap) (locs : List Loc) (ls : Array Slot), IX D A s.heap (wM cy q N R X) H locs → lv_has ls 5 [(0, .ref (q 33)), (1, .int (nI h)), (2, .int k), (3, .int (nI h2))] → W p l e rm_X12_opens s m args below meth c H locs 0 0 Q (F0 m 2 ls []) := by
    intro k_
    induction k_ with
    | zero => intro h2 hm_; exact absurd hm_ (Nat.not_lt_zero _)
    | succ k_ ih_2 =>
      intro h2 hm_ hh2 hw2 hop H locs ls I hl
      have hkd2 := (hH h2 hh2).2.2.2.1
      refine lv_aload_n S.1 S.2.1 dX12_opens_2 rfl (lv_at hl 0 rfl) ?_
      refine lv_iload_n S.1 S.2.1 dX12_opens_3 rfl (lv_at hl 3 rfl) ?_
      refine cV (np := 1) (ci := 12) (q0 := 0) (As := [.int (nI h2)]) (rest := []) S (c_stands l D cy q N R X h2 hW (by omega)) hK hA I wm_X12_126 wi_X12_stands ws_X12_X12_stands wn_X12 wk_X12_stands ⟨rfl, hd_X12_stands⟩ rfl ⟨by decide, by decide⟩ rfl rfl hl.1 rfl (Nat.le_of_ble_eq_true rfl) dX12_opens_4 ⟨by decide, by decide⟩ (fun v_ u_ H locs h_ I => ?_)
      obtain rfl := h_
      have I : IX D A s.heap (wM cy q N R X) H locs := I
      refine W.eq (g2 := F0 m 7 ls [.int (bI (stB R (X 13) h2))]) rfl ?_
      refine lv_if_eq (tgt := 98) S.1 S.2.1 dX12_opens_7 (by decide) (fun c_7 => ?_) (fun c_7 => ?_)
      · skip
        have c_7 := bI_f c_7
        refine lv_iconst (v := nI 0) S.1 S.2.1 dX12_opens_98 (by decide) ?_
        exact ru_z hQ S hr hlk (by decide) (u := ()) I (congrArg (fun z => some (Value.int z)) (bI_0 (by rw [← hop, op_step hH hh2]; simp [tkB, c_7]))) dX12_opens_99
      · skip
        have c_7 := bI_t c_7
        refine lv_aload_n S.1 S.2.1 dX12_opens_10 rfl (lv_at hl 0 rfl) ?_
        refine rg (ci := 12) (q0 := 0) (v := .ref (q 7)) 7 S hK I cl_X12 rfl wf_X12_26 (by decide) rfl rfl rfl dX12_opens_11 ?_
        refine lv_iload_n S.1 S.2.1 dX12_opens_14 rfl (lv_at hl 3 rfl) ?_
        refine ri (q0 := 6) (n := 12) (f := R 7) h2 S hK I rfl rfl (by omega) (by decide) dX12_opens_15 ?_
        refine tI (y := nI (kd R h2)) (hH h2 (by omega)).2.2.1 ?_
        refine lv_iconst (v := nI 1) S.1 S.2.1 dX12_opens_16 (by decide) ?_
        refine lv_icmp_eq (tgt := 22) S.1 S.2.1 dX12_opens_17 (by decide) (fun c_17 => ?_) (fun c_17 => ?_)
        · skip
          have c_17o := c_17
          have c_17 := nI_ceqT (by omega) (by omega) c_17
          have hch := ((hH h2 hh2).2.2.2.2 c_17).2
          have hwc := (hH (ch R h2) (by omega)).2.1
          have hw1 := (hH h (by omega)).2.1
          have hw3 := (hH h2 (by omega)).2.1
          refine lv_aload_n S.1 S.2.1 dX12_opens_22 rfl (lv_at hl 0 rfl) ?_
          refine rg (ci := 12) (q0 := 0) (v := .ref (q 11)) 11 S hK I cl_X12 rfl wf_X12_38 (by decide) rfl rfl rfl dX12_opens_23 ?_
          refine lv_iload_n S.1 S.2.1 dX12_opens_26 rfl (lv_at hl 3 rfl) ?_
          refine ri (q0 := 10) (n := 12) (f := R 11) h2 S hK I rfl rfl (by omega) (by decide) dX12_opens_27 ?_
          refine tI (y := nI (ch R h2)) (((hH h2 hh2).2.2.2.2 c_17).1) ?_
          refine lv_istore (lv' := [(4, .int (nI (ch R h2))), (0, .ref (q 33)), (1, .int (nI h)), (2, .int k), (3, .int (nI h2))]) S.1 S.2.1 dX12_opens_28 hl (by decide) rfl (fun ls hl => ?_)
          refine lv_aload_n S.1 S.2.1 dX12_opens_30 rfl (lv_at hl 1 rfl) ?_
          refine rg (ci := 12) (q0 := 0) (v := .ref (q 8)) 8 S hK I cl_X12 rfl wf_X12_29 (by decide) rfl rfl rfl dX12_opens_31 ?_
          refine lv_iload S.1 S.2.1 dX12_opens_34 (lv_at hl 0 rfl) ?_
          refine ri (q0 := 7) (n := 12) (f := R 8) (ch R h2) S hK I rfl rfl (by omega) (by decide) dX12_opens_36 ?_
          refine tI (y := nI (wh R (ch R h2))) (hH (ch R h2) (by omega)).1 ?_
          refine lv_aload_n S.1 S.2.1 dX12_opens_37 rfl (lv_at hl 1 rfl) ?_
          refine rg (ci := 12) (q0 := 0) (v := .ref (q 8)) 8 S hK I cl_X12 rfl wf_X12_29 (by decide) rfl rfl rfl dX12_opens_38 ?_
          refine lv_iload_n S.1 S.2.1 dX12_opens_41 rfl (lv_at hl 2 rfl) ?_
          refine ri (q0 := 7) (n := 12) (f := R 8) h S hK I rfl rfl (by omega) (by decide) dX12_opens_42 ?_
          refine tI (y := nI (wh R h)) (hH h (by omega)).1 ?_
          refine lv_icmp_eq (tgt := 92) S.1 S.2.1 dX12_opens_43 (by decide) (fun c_43 => ?_) (fun c_43 => ?_)
          · skip
            have c_43o := c_43
            have c_43 := nI_ceqT (by omega) (by omega) c_43
            refine lv_iload S.1 S.2.1 dX12_opens_92 (lv_at hl 0 rfl) ?_
            refine lv_istore_n (lv' := [(3, .int (nI (ch R h2))), (4, .int (nI (ch R h2))), (0, .ref (q 33)), (1, .int (nI h)), (2, .int k)]) S.1 S.2.1 dX12_opens_94 rfl hl (by decide) rfl (fun ls hl => ?_)
            refine lv_goto (tgt := 2) S.1 S.2.1 dX12_opens_95 (by decide) ?_
            exact ih_2 (ch R h2) (by omega) (by omega) c_43 (by rw [← hop, op_step hH hh2, c_7, decide_eq_false (by omega : ¬ ¬ kd R h2 = 1), if_pos (by omega)]; rfl) _ _ _ I (lv_sub hl [2, 3, 4, 0] rfl)
          · skip
            have c_43o := c_43
            have c_43 := nI_ceqF (by omega) (by omega) c_43
            have hwn : ¬ wh R (ch R h2) = wh R h2 := by omega
            refine lv_aload_n S.1 S.2.1 dX12_opens_46 rfl (lv_at hl 1 rfl) ?_
            refine lv_iload S.1 S.2.1 dX12_opens_47 (lv_at hl 0 rfl) ?_
            refine cV (np := 1) (ci := 12) (q0 := 0) (As := [.int (nI (ch R h2))]) (rest := []) S (c_stands l D cy q N R X (ch R h2) hW (by omega)) hK hA I wm_X12_126 wi_X12_stands ws_X12_X12_stands wn_X12 wk_X12_stands ⟨rfl, hd_X12_stands⟩ rfl ⟨by decide, by decide⟩ rfl rfl hl.1 rfl (Nat.le_of_ble_eq_true rfl) dX12_opens_49 ⟨by decide, by decide⟩ (fun v_ u_ H locs h_ I => ?_)
            obtain rfl := h_
            have I : IX D A s.heap (wM cy q N R X) H locs := I
            refine W.eq (g2 := F0 m 52 ls [.int (bI (stB R (X 13) (ch R h2)))]) rfl ?_
            refine lv_if_eq (tgt := 90) S.1 S.2.1 dX12_opens_52 (by decide) (fun c_52 => ?_) (fun c_52 => ?_)
            · skip
              have c_52 := bI_f c_52
              refine lv_iconst (v := nI 0) S.1 S.2.1 dX12_opens_90 (by decide) ?_
              exact ru_z hQ S hr hlk (by decide) (u := ()) I (congrArg (fun z => some (Value.int z)) (bI_0 (by rw [← hop, op_step hH hh2]; simp [tkB, c_7, c_17o, c_17, c_43o, c_43, c_52, hwn]))) dX12_opens_91
            · skip
              have c_52 := bI_t c_52
              refine lv_aload_n S.1 S.2.1 dX12_opens_55 rfl (lv_at hl 1 rfl) ?_
              refine rg (ci := 12) (q0 := 0) (v := .ref (q 14)) 14 S hK I cl_X12 rfl wf_X12_47 (by decide) rfl rfl rfl dX12_opens_56 ?_
              refine lv_aload_n S.1 S.2.1 dX12_opens_59 rfl (lv_at hl 1 rfl) ?_
              refine rg (ci := 12) (q0 := 0) (v := .ref (q 8)) 8 S hK I cl_X12 rfl wf_X12_29 (by decide) rfl rfl rfl dX12_opens_60 ?_
              refine lv_iload S.1 S.2.1 dX12_opens_63 (lv_at hl 0 rfl) ?_
              refine ri (q0 := 7) (n := 12) (f := R 8) (ch R h2) S hK I rfl rfl (by omega) (by decide) dX12_opens_65 ?_
              refine tI (y := nI (wh R (ch R h2))) (hH (ch R h2) (by omega)).1 ?_
              refine ri (q0 := 13) (n := 8) (f := X 14) (wh R (ch R h2)) S hK I rfl rfl (by omega) (by decide) dX12_opens_66 ?_
              refine lv_if_le (tgt := 90) S.1 S.2.1 dX12_opens_67 (by decide) (fun c_67 => ?_) (fun c_67 => ?_)
              · skip
                refine lv_iconst (v := nI 0) S.1 S.2.1 dX12_opens_90 (by decide) ?_
                exact ru_z hQ S hr hlk (by decide) (u := ()) I (congrArg (fun z => some (Value.int z)) (bI_0 (by rw [← hop, op_step hH hh2]; simp [tkB, c_7, c_17o, c_17, c_43o, c_43, c_52, c_67, hwn]))) dX12_opens_91
              · skip
                refine lv_aload_n S.1 S.2.1 dX12_opens_70 rfl (lv_at hl 1 rfl) ?_
                refine rg (ci := 12) (q0 := 0) (v := .ref (q 14)) 14 S hK I cl_X12 rfl wf_X12_47 (by decide) rfl rfl rfl dX12_opens_71 ?_
                refine lv_aload_n S.1 S.2.1 dX12_opens_74 rfl (lv_at hl 1 rfl) ?_
                refine rg (ci := 12) (q0 := 0) (v := .ref (q 8)) 8 S hK I cl_X12 rfl wf_X12_29 (by decide) rfl rfl rfl dX12_opens_75 ?_
                refine lv_iload S.1 S.2.1 dX12_opens_78 (lv_at hl 0 rfl) ?_
                refine ri (q0 := 7) (n := 12) (f := R 8) (ch R h2) S hK I rfl rfl (by omega) (by decide) dX12_opens_80 ?_
                refine tI (y := nI (wh R (ch R h2))) (hH (ch R h2) (by omega)).1 ?_
                refine ri (q0 := 13) (n := 8) (f := X 14) (wh R (ch R h2)) S hK I rfl rfl (by omega) (by decide) dX12_opens_81 ?_
                refine lv_iload_n S.1 S.2.1 dX12_opens_82 rfl (lv_at hl 3 rfl) ?_
                refine lv_icmp_ge (tgt := 90) S.1 S.2.1 dX12_opens_83 (by decide) (fun c_83 => ?_) (fun c_83 => ?_)
                · skip
                  refine lv_iconst (v := nI 0) S.1 S.2.1 dX12_opens_90 (by decide) ?_
                  exact ru_z hQ S hr hlk (by decide) (u := ()) I (congrArg (fun z => some (Value.int z)) (bI_0 (by rw [← hop, op_step hH hh2]; simp [tkB, c_7, c_17o, c_17, c_43o, c_43, c_52, c_67, c_83, hwn]))) dX12_opens_91
                · skip
                  refine lv_iconst (v := nI 1) S.1 S.2.1 dX12_opens_86 (by decide) ?_
                  refine lv_goto (tgt := 91) S.1 S.2.1 dX12_opens_87 (by decide) ?_
                  exact ru_z hQ S hr hlk (by decide) (u := ()) I (congrArg (fun z => some (Value.int z)) (bI_1 (by rw [← hop, op_step hH hh2]; simp [tkB, c_7, c_17o, c_17, c_43o, c_43, c_52, c_67, c_83, hwn]))) dX12_opens_91
        · skip
          have c_17o := c_17
          have c_17 := nI_ceqF (by omega) (by omega) c_17
          refine lv_iconst (v := nI 1) S.1 S.2.1 dX12_opens_20 (by decide) ?_
          exact ru_z hQ S hr hlk (by decide) (u := ()) I (congrArg (fun z => some (Value.int z)) (bI_1 (by rw [← hop, op_step hH hh2]; simp [tkB, c_7, c_17o, c_17]))) dX12_opens_21
  exact loop_2 _ h (Nat.lt_succ_self _) hh rfl rfl _ _ _ I (lv_sub hl [1, 2, 3, 0] rfl)
set_option maxHeartbeats 4000000 in
set_option maxRecDepth 100000 in
theorem c_fromFor (l : Launch) (D : va_G) (cy : Nat → ClassId) (q : Nat → Nat) (N : Nat → Nat) (R X : Nat → Nat → Int32) (pa : Nat) (k : Int32) (hW : WFm N R) (hp : pa < N 0) : MS (α := Unit) l D cy yX12_fromFor cX12_fromFor 4 (Option.some FieldType.int) rm_X12_fromFor [.ref (q 33), .int (nI pa), .int k] (wM cy q N R X) (fun v_ (_ : Unit) => v_ = some (.int (frI R (tkB (X 14) k) (N 0) pa))) (fun _ => wM cy q N R X) := by
  refine MS.mk2 (by decide) (Nat.le_of_ble_eq_true rfl) [(0, .ref (q 33)), (1, .int (nI pa)), (2, .int k)] rfl ?_
  intro p e s m args below meth c A ls Q hQ S hr hlk hnm hK hA I hl
  have hW0 := hW
  obtain ⟨hB, hPt, hBo, hH, hM, hQu⟩ := hW0
  have hB0 := hB
  obtain ⟨b0, b6, b17, b24, b30⟩ := hB0
  refine lv_iconst (v := nI 0) S.1 S.2.1 dX12_fromFor_0 (by decide) ?_
  refine lv_istore_n (lv' := [(3, .int (nI 0)), (0, .ref (q 33)), (1, .int (nI pa)), (2, .int k)]) S.1 S.2.1 dX12_fromFor_1 rfl hl (by decide) rfl (fun ls hl => ?_)
  have loop_2 : ∀ (k_ : Nat) (i : Nat), N 0 - i < k_ → i ≤ N 0 → (∀ j, j < i → frP R (tkB (X 14) k) pa j = false) → ∀ (H : Heap) (locs : List Loc) (ls : Array Slot), IX D A s.heap (wM cy q N R X) H locs → lv_has ls 4 [(0, .ref (q 33)), (1, .int (nI pa)), (2, .int k), (3, .int (nI i))] → W p l e rm_X12_fromFor s m args below meth c H locs 0 0 Q (F0 m 2 ls []) := by
    intro k_
    induction k_ with
    | zero => intro i hm_; exact absurd hm_ (Nat.not_lt_zero _)
    | succ k_ ih_2 =>
      intro i hm_ hi hno H locs ls I hl
      refine lv_iload_n S.1 S.2.1 dX12_fromFor_2 rfl (lv_at hl 3 rfl) ?_
      refine lv_aload_n S.1 S.2.1 dX12_fromFor_3 rfl (lv_at hl 0 rfl) ?_
      refine rg (ci := 12) (q0 := 0) (v := .int (nI (N 0))) 0 S hK I cl_X12 rfl wf_X12_95 (by decide) rfl rfl rfl dX12_fromFor_4 ?_
      refine lv_icmp_ge (tgt := 51) S.1 S.2.1 dX12_fromFor_7 (by decide) (fun c_7 => ?_) (fun c_7 => ?_)
      · skip
        have c_7o := c_7
        have c_7 := nI_cgeT (by omega) (by omega) c_7
        refine lv_bipush (v := (-4)) S.1 S.2.1 dX12_fromFor_51 (by decide) ?_
        exact ru_i hQ S hr hlk (u := ()) I (congrArg (fun z => some (Value.int z)) ((frI_no (fun j hj => hno j (by omega))).symm)) dX12_fromFor_53
      · skip
        have c_7o := c_7
        have c_7 := nI_cgeF (by omega) (by omega) c_7
        refine lv_aload_n S.1 S.2.1 dX12_fromFor_10 rfl (lv_at hl 0 rfl) ?_
        refine rg (ci := 12) (q0 := 0) (v := .ref (q 5)) 5 S hK I cl_X12 rfl wf_X12_23 (by decide) rfl rfl rfl dX12_fromFor_11 ?_
        refine lv_bipush (v := nI 8) S.1 S.2.1 dX12_fromFor_14 (by decide) ?_
        refine lv_iload_n S.1 S.2.1 dX12_fromFor_16 rfl (lv_at hl 3 rfl) ?_
        refine lv_imul S.1 S.2.1 dX12_fromFor_17 ?_
        refine tI (y := nI (8 * i)) (pk_mul _ _) ?_
        refine lv_iload_n S.1 S.2.1 dX12_fromFor_18 rfl (lv_at hl 1 rfl) ?_
        refine lv_iadd S.1 S.2.1 dX12_fromFor_19 ?_
        refine tI (y := nI ((8 * i) + pa)) (nI_add _ _) ?_
        refine rz (q0 := 5) (n := 64) (f := R 5) ((8 * i) + pa) S hK I rfl rfl (by omega) (by decide) dX12_fromFor_20 ?_
        refine lv_if_eq (tgt := 45) S.1 S.2.1 dX12_fromFor_21 (by decide) (fun c_21 => ?_) (fun c_21 => ?_)
        · skip
          refine lv_iinc (v := nI (i + 1)) (lv' := [(3, .int (nI (i + 1))), (0, .ref (q 33)), (1, .int (nI pa)), (2, .int k)]) S.1 S.2.1 dX12_fromFor_45 hl (k := 3) rfl (nI_1 _) (by decide) rfl (fun ls hl => ?_)
          refine lv_goto (tgt := 2) S.1 S.2.1 dX12_fromFor_48 (by decide) ?_
          exact ih_2 (i + 1) (by omega) (by omega) (all_s hno (by simp [frP, tkB, c_21])) _ _ _ I (lv_sub hl [1, 2, 3, 0] rfl)
        · skip
          refine lv_aload_n S.1 S.2.1 dX12_fromFor_24 rfl (lv_at hl 0 rfl) ?_
          refine rg (ci := 12) (q0 := 0) (v := .ref (q 14)) 14 S hK I cl_X12 rfl wf_X12_47 (by decide) rfl rfl rfl dX12_fromFor_25 ?_
          refine lv_iload_n S.1 S.2.1 dX12_fromFor_28 rfl (lv_at hl 3 rfl) ?_
          refine ri (q0 := 13) (n := 8) (f := X 14) i S hK I rfl rfl (by omega) (by decide) dX12_fromFor_29 ?_
          refine lv_if_le (tgt := 45) S.1 S.2.1 dX12_fromFor_30 (by decide) (fun c_30 => ?_) (fun c_30 => ?_)
          · skip
            refine lv_iinc (v := nI (i + 1)) (lv' := [(3, .int (nI (i + 1))), (0, .ref (q 33)), (1, .int (nI pa)), (2, .int k)]) S.1 S.2.1 dX12_fromFor_45 hl (k := 3) rfl (nI_1 _) (by decide) rfl (fun ls hl => ?_)
            refine lv_goto (tgt := 2) S.1 S.2.1 dX12_fromFor_48 (by decide) ?_
            exact ih_2 (i + 1) (by omega) (by omega) (all_s hno (by simp [frP, tkB, c_21, c_30])) _ _ _ I (lv_sub hl [1, 2, 3, 0] rfl)
          · skip
            refine lv_aload_n S.1 S.2.1 dX12_fromFor_33 rfl (lv_at hl 0 rfl) ?_
            refine rg (ci := 12) (q0 := 0) (v := .ref (q 14)) 14 S hK I cl_X12 rfl wf_X12_47 (by decide) rfl rfl rfl dX12_fromFor_34 ?_
            refine lv_iload_n S.1 S.2.1 dX12_fromFor_37 rfl (lv_at hl 3 rfl) ?_
            refine ri (q0 := 13) (n := 8) (f := X 14) i S hK I rfl rfl (by omega) (by decide) dX12_fromFor_38 ?_
            refine lv_iload_n S.1 S.2.1 dX12_fromFor_39 rfl (lv_at hl 2 rfl) ?_
            refine lv_icmp_ge (tgt := 45) S.1 S.2.1 dX12_fromFor_40 (by decide) (fun c_40 => ?_) (fun c_40 => ?_)
            · skip
              refine lv_iinc (v := nI (i + 1)) (lv' := [(3, .int (nI (i + 1))), (0, .ref (q 33)), (1, .int (nI pa)), (2, .int k)]) S.1 S.2.1 dX12_fromFor_45 hl (k := 3) rfl (nI_1 _) (by decide) rfl (fun ls hl => ?_)
              refine lv_goto (tgt := 2) S.1 S.2.1 dX12_fromFor_48 (by decide) ?_
              exact ih_2 (i + 1) (by omega) (by omega) (all_s hno (by simp [frP, tkB, c_21, c_30, c_40])) _ _ _ I (lv_sub hl [1, 2, 3, 0] rfl)
            · skip
              refine lv_iload_n S.1 S.2.1 dX12_fromFor_43 rfl (lv_at hl 3 rfl) ?_
              exact ru_i hQ S hr hlk (u := ()) I (congrArg (fun z => some (Value.int z)) ((frI_yes hno (by simp [frP, tkB, c_21, c_30, c_40]) (by omega)).symm)) dX12_fromFor_44
  exact loop_2 _ 0 (Nat.lt_succ_self _) (Nat.zero_le _) (fun p hp => absurd hp (Nat.not_lt_zero _)) _ _ _ I (lv_sub hl [1, 2, 3, 0] rfl)
end
section
/-! who is taken, step by step -/
theorem stB_cg {N : Nat → Nat} {R : Nat → Nat → Int32} (hH : WHo N R) {g g2 : Nat → Int32} (hg : ∀ p, p < N 0 → g p = g2 p) {h : Nat} (h6 : h < N 6) : stB R g h = stB R g2 h := by
  unfold stB
  rw [hg _ (hH h h6).2.1]
theorem opF_cg {N : Nat → Nat} {R : Nat → Nat → Int32} (hH : WHo N R) {g g2 : Nat → Int32} (hg : ∀ p, p < N 0 → g p = g2 p) {T T2 : Nat → Bool} (hT : ∀ p, p < N 0 → T p = T2 p) : ∀ (n h : Nat), h < N 6 → opF R g T n h = opF R g2 T2 n h := by
  intro n
  induction n with
  | zero => intro h _; rfl
  | succ n ih =>
    intro h h6
    rw [opF, opF, stB_cg hH hg h6]
    by_cases hk : kd R h = 1
    · have hc := ((hH h h6).2.2.2.2 hk).2
      rw [ih (ch R h) (by omega), stB_cg hH hg (by omega : ch R h < N 6), hT _ (hH (ch R h) (by omega)).2.1]
    · rw [decide_eq_true hk, Bool.true_or, Bool.true_or]
theorem opB_cg {N : Nat → Nat} {R : Nat → Nat → Int32} (hH : WHo N R) {g g2 : Nat → Int32} (hg : ∀ p, p < N 0 → g p = g2 p) {T T2 : Nat → Bool} (hT : ∀ p, p < N 0 → T p = T2 p) {h : Nat} (h6 : h < N 6) : opB R g T h = opB R g2 T2 h := opF_cg hH hg hT _ h h6
theorem frI_cg {N : Nat → Nat} {R : Nat → Nat → Int32} {T T2 : Nat → Bool} (hT : ∀ p, p < N 0 → T p = T2 p) (p : Nat) : frI R T (N 0) p = frI R T2 (N 0) p := by
  unfold frI
  rw [fst_cong (P2 := frP R T2 p) (fun j hj => by unfold frP; rw [hT j hj])]
def tkN (s : Nat → Nat) (p : Nat) : Bool := decide (0 < s p)
/-- the hole by which p is taken next -/
def nwH (N : Nat → Nat) (R : Nat → Nat → Int32) (g : Nat → Int32) (T : Nat → Bool) (p : Nat) : Nat := fa_first (fun h => decide (wh R h = p) && opB R g T h) (N 6)
/-- from where p is reached: -1 outside, -4 from nowhere -/
def fmI (N : Nat → Nat) (R : Nat → Nat → Int32) (T : Nat → Bool) (p : Nat) : Int32 := if R 3 p = 0 then frI R T (N 0) p else -1
def nwB (N : Nat → Nat) (R : Nat → Nat → Int32) (g : Nat → Int32) (s : Nat → Nat) (p : Nat) : Bool := decide (s p = 0) && (decide (¬ fmI N R (tkN s) p = -4) && decide (nwH N R g (tkN s) p < N 6))
/-- the step in which p is taken, as far as k steps; 0: not taken -/
def stF (N : Nat → Nat) (R : Nat → Nat → Int32) (g : Nat → Int32) : Nat → Nat → Nat
  | 0 => fun _ => 0
  | k + 1 => fun p => if nwB N R g (stF N R g k) p = true then k + 1 else stF N R g k p
theorem stF_s (N : Nat → Nat) (R : Nat → Nat → Int32) (g : Nat → Int32) (k p : Nat) : stF N R g (k + 1) p = if nwB N R g (stF N R g k) p = true then k + 1 else stF N R g k p := rfl
abbrev eS (N : Nat → Nat) (R : Nat → Nat → Int32) (g : Nat → Int32) : Nat → Nat := stF N R g 8
theorem nwH_cg {N : Nat → Nat} {R : Nat → Nat → Int32} (hH : WHo N R) {g g2 : Nat → Int32} (hg : ∀ p, p < N 0 → g p = g2 p) {T T2 : Nat → Bool} (hT : ∀ p, p < N 0 → T p = T2 p) (p : Nat) : nwH N R g T p = nwH N R g2 T2 p := by
  unfold nwH
  exact fst_cong (fun h h6 => by rw [opB_cg hH hg hT h6])
theorem fmI_cg {N : Nat → Nat} {R : Nat → Nat → Int32} {T T2 : Nat → Bool} (hT : ∀ p, p < N 0 → T p = T2 p) (p : Nat) : fmI N R T p = fmI N R T2 p := by
  unfold fmI
  rw [frI_cg hT]
theorem nwB_cg {N : Nat → Nat} {R : Nat → Nat → Int32} (hH : WHo N R) {g g2 : Nat → Int32} (hg : ∀ p, p < N 0 → g p = g2 p) {s s2 : Nat → Nat} (hs : ∀ p, p < N 0 → s p = s2 p) {p : Nat} (hp : s p = s2 p) : nwB N R g s p = nwB N R g2 s2 p := by
  have hT : ∀ p, p < N 0 → tkN s p = tkN s2 p := fun p h => by unfold tkN; rw [hs p h]
  unfold nwB
  rw [fmI_cg hT, nwH_cg hH hg hT, hp]
theorem stF_cg {N : Nat → Nat} {R : Nat → Nat → Int32} (hH : WHo N R) {g g2 : Nat → Int32} (hg : ∀ p, p < N 0 → g p = g2 p) : ∀ k, stF N R g k = stF N R g2 k := by
  intro k
  induction k with
  | zero => rfl
  | succ k ih =>
    funext p
    rw [stF_s, stF_s, ih, nwB_cg hH hg (fun _ _ => rfl) rfl]
theorem stF_le (N : Nat → Nat) (R : Nat → Nat → Int32) (g : Nat → Int32) : ∀ k p, stF N R g k p ≤ k := by
  intro k
  induction k with
  | zero => intro p; exact Nat.le_refl 0
  | succ k ih =>
    intro p
    rw [stF_s]
    split
    · exact Nat.le_refl _
    · have := ih p; omega
theorem stF_keep {N : Nat → Nat} {R : Nat → Nat → Int32} {g : Nat → Int32} {k p : Nat} (h : 0 < stF N R g k p) : stF N R g (k + 1) p = stF N R g k p := by
  rw [stF_s, if_neg]
  intro q
  have : decide (stF N R g k p = 0) = false := decide_eq_false (by omega)
  rw [nwB, this] at q
  cases q
theorem stF_no {N : Nat → Nat} {R : Nat → Nat → Int32} {g : Nat → Int32} {k p : Nat} (h : nwB N R g (stF N R g k) p = false) : stF N R g (k + 1) p = stF N R g k p := by
  rw [stF_s, if_neg]
  rw [h]
  exact Bool.false_ne_true
theorem stF_yes {N : Nat → Nat} {R : Nat → Nat → Int32} {g : Nat → Int32} {k p : Nat} (h : nwB N R g (stF N R g k) p = true) : stF N R g (k + 1) p = k + 1 := by
  rw [stF_s, if_pos h]
/-- no more is taken once a step took none -/
theorem stF_stop {N : Nat → Nat} {R : Nat → Nat → Int32} {g : Nat → Int32} (hH : WHo N R) {k : Nat} (h : ∀ p, p < N 0 → nwB N R g (stF N R g k) p = false) : ∀ j p, p < N 0 → stF N R g (k + j) p = stF N R g k p := by
  intro j
  induction j with
  | zero => intro p _; rfl
  | succ j ih =>
    intro p hp
    rw [show k + (j + 1) = (k + j) + 1 by omega, stF_no, ih p hp]
    rw [nwB_cg hH (fun _ _ => rfl) ih (ih p hp)]
    exact h p hp
def cnS (N : Nat → Nat) (s : Nat → Nat) : Nat := fb_ct (tkN s) (N 0)
theorem cnS_le (N : Nat → Nat) (s : Nat → Nat) : cnS N s ≤ N 0 := fb_ct_le _ _
theorem ct_lt {p q : Nat → Bool} : ∀ {n : Nat}, (∀ k, k < n → p k = true → q k = true) → (∃ k, k < n ∧ p k = false ∧ q k = true) → fb_ct p n < fb_ct q n
  | 0, _, h => by obtain ⟨k, hk, _⟩ := h; exact absurd hk (Nat.not_lt_zero k)
  | n + 1, h, hx => by
    have h1 := fb_ct_sub (p := p) (q := q) (n := n) (fun k hk => h k (Nat.lt_succ_of_lt hk))
    rw [fb_ct_succ, fb_ct_succ]
    obtain ⟨k, hk, e1, e2⟩ := hx
    by_cases e : k = n
    · subst e
      rw [e1, e2]
      simp
      omega
    · have h2 := ct_lt (p := p) (q := q) (n := n) (fun k hk => h k (Nat.lt_succ_of_lt hk)) ⟨k, by omega, e1, e2⟩
      have h3 : (if p n = true then 1 else 0) ≤ (if q n = true then 1 else 0) := by
        by_cases hp : p n = true
        · rw [h n (Nat.lt_succ_self n) hp, if_pos hp]; exact Nat.le_refl _
        · rw [if_neg hp]; exact Nat.zero_le _
      omega
/-- a step that takes one brings the count up -/
theorem cnS_up {N : Nat → Nat} {R : Nat → Nat → Int32} {g : Nat → Int32} {k : Nat} (h : ∃ p, p < N 0 ∧ nwB N R g (stF N R g k) p = true) : cnS N (stF N R g k) < cnS N (stF N R g (k + 1)) := by
  obtain ⟨p, hp, hn⟩ := h
  refine ct_lt (fun q _ hq => ?_) ⟨p, hp, ?_, ?_⟩
  · have h1 : 0 < stF N R g k q := of_decide_eq_true hq
    unfold tkN
    rw [stF_keep h1]
    exact hq
  · unfold nwB at hn
    have h1 : stF N R g k p = 0 := by
      by_cases e : stF N R g k p = 0
      · exact e
      · rw [decide_eq_false e] at hn; cases hn
    unfold tkN
    rw [h1]; rfl
  · unfold tkN
    rw [stF_yes hn]
    exact decide_eq_true (Nat.succ_pos k)
/-- the steps row, the holes row and the parts row say what the steps v say -/
def RowS (N : Nat → Nat) (R : Nat → Nat → Int32) (g : Nat → Int32) (v : Nat → Nat) (r14 r15 r16 : Nat → Int32) : Prop := ∀ p, p < N 0 → r14 p = nI (v p) ∧ (0 < v p → r15 p = nI (nwH N R g (tkN (stF N R g (v p - 1))) p) ∧ r16 p = fmI N R (tkN (stF N R g (v p - 1))) p)
def mixS (N : Nat → Nat) (R : Nat → Nat → Int32) (g : Nat → Int32) (k p q : Nat) : Nat := if q < p then stF N R g (k + 1) q else stF N R g k q
theorem mixS_0 (N : Nat → Nat) (R : Nat → Nat → Int32) (g : Nat → Int32) (k : Nat) : mixS N R g k 0 = stF N R g k := by
  funext q
  exact if_neg (Nat.not_lt_zero q)
theorem mixS_at (N : Nat → Nat) (R : Nat → Nat → Int32) (g : Nat → Int32) (k p : Nat) : mixS N R g k p p = stF N R g k p := if_neg (Nat.lt_irrefl p)
theorem mixS_ne {N : Nat → Nat} {R : Nat → Nat → Int32} {g : Nat → Int32} {k p q : Nat} (h : q ≠ p) : mixS N R g k (p + 1) q = mixS N R g k p q := by
  unfold mixS
  by_cases e : q < p
  · rw [if_pos e, if_pos (by omega)]
  · rw [if_neg e, if_neg (by omega)]
theorem mixS_s (N : Nat → Nat) (R : Nat → Nat → Int32) (g : Nat → Int32) (k p : Nat) : mixS N R g k (p + 1) p = stF N R g (k + 1) p := if_pos (Nat.lt_succ_self p)
theorem tk_mix {N : Nat → Nat} {R : Nat → Nat → Int32} {g : Nat → Int32} {k p : Nat} {r14 r15 r16 : Nat → Int32} (hk : k < 1000) (h : RowS N R g (mixS N R g k p) r14 r15 r16) : ∀ q, q < N 0 → tkB r14 (nI (k + 1)) q = tkN (stF N R g k) q := by
  intro q hq
  have h1 := (h q hq).1
  have hle := stF_le N R g k q
  have key : ∀ v : Nat, v ≤ k + 1 → decide (¬ nI v ≤ 0 ∧ ¬ nI (k + 1) ≤ nI v) = decide (0 < v ∧ v < k + 1) := by
    intro v hv
    apply decide_eq_decide.mpr
    rw [nI_leI (by omega) (by omega), show (0 : Int32) = nI 0 from rfl, nI_leI (by omega) (by omega)]
    omega
  unfold tkB tkN
  rw [h1]
  unfold mixS
  by_cases e : q < p
  · rw [if_pos e]
    by_cases n : nwB N R g (stF N R g k) q = true
    · rw [stF_yes n, key _ (Nat.le_refl _)]
      have h0 : stF N R g k q = 0 := by
        unfold nwB at n
        by_cases e : stF N R g k q = 0
        · exact e
        · rw [decide_eq_false e] at n; cases n
      rw [h0]
      simp
    · rw [stF_no (ts_nt n), key _ (by omega)]
      apply decide_eq_decide.mpr
      omega
  · rw [if_neg e, key _ (by omega)]
    apply decide_eq_decide.mpr
    omega
theorem row_no {N : Nat → Nat} {R : Nat → Nat → Int32} {g : Nat → Int32} {k p : Nat} {r14 r15 r16 : Nat → Int32} (h : RowS N R g (mixS N R g k p) r14 r15 r16) (hn : nwB N R g (stF N R g k) p = false) : RowS N R g (mixS N R g k (p + 1)) r14 r15 r16 := by
  have e : mixS N R g k (p + 1) = mixS N R g k p := by
    funext q
    by_cases e : q = p
    · rw [e, mixS_s, mixS_at, stF_no hn]
    · exact mixS_ne e
  rw [e]
  exact h
theorem row_yes {N : Nat → Nat} {R : Nat → Nat → Int32} {g : Nat → Int32} {k p : Nat} {r14 r15 r16 : Nat → Int32} (h : RowS N R g (mixS N R g k p) r14 r15 r16) (hn : nwB N R g (stF N R g k) p = true) {j : Nat} {x : Int32} (hj : nwH N R g (tkN (stF N R g k)) p = j) (hx : x = fmI N R (tkN (stF N R g k)) p) : RowS N R g (mixS N R g k (p + 1)) (upd r14 p (nI (k + 1))) (upd r15 p (nI j)) (upd r16 p x) := by
  intro q hq
  by_cases e : q = p
  · subst e
    rw [pk_us, pk_us, pk_us, mixS_s, stF_yes hn]
    exact ⟨rfl, fun _ => ⟨by rw [Nat.add_sub_cancel, hj], by rw [Nat.add_sub_cancel]; exact hx⟩⟩
  · rw [pk_un e, pk_un e, pk_un e, mixS_ne e]
    exact h q hq
/-- the sum of the worths of those taken, of those by a used one twice -/
def usF (R : Nat → Nat → Int32) (g : Nat → Int32) (p : Nat) : Nat → Bool
  | 0 => false
  | n + 1 => usF R g p n || (decide (wh R n = p) && (decide (kd R n = 3) && stB R g n))
def rkF (N : Nat → Nat) (R : Nat → Nat → Int32) (g : Nat → Int32) (p : Nat) : Nat := if 0 < eS N R g p then (if usF R g p (N 6) = true then 2 * wo R p else wo R p) else 0
def rsk (N : Nat → Nat) (R : Nat → Nat → Int32) (g : Nat → Int32) : Nat := fb_sm (rkF N R g) (N 0)
theorem usF_cg {N : Nat → Nat} {R : Nat → Nat → Int32} (hH : WHo N R) {g g2 : Nat → Int32} (hg : ∀ p, p < N 0 → g p = g2 p) (p : Nat) : ∀ n, n ≤ N 6 → usF R g p n = usF R g2 p n := by
  intro n
  induction n with
  | zero => intro _; rfl
  | succ n ih =>
    intro hn
    rw [usF, usF, ih (by omega), stB_cg hH hg (by omega : n < N 6)]
theorem rsk_cg {N : Nat → Nat} {R : Nat → Nat → Int32} (hH : WHo N R) {g g2 : Nat → Int32} (hg : ∀ p, p < N 0 → g p = g2 p) : rsk N R g = rsk N R g2 := by
  unfold rsk
  refine fb_sm_cong (fun p _ => ?_)
  unfold rkF
  rw [usF_cg hH hg p _ (Nat.le_refl _), eS, stF_cg hH hg]
theorem RowS_cg {N : Nat → Nat} {R : Nat → Nat → Int32} (hH : WHo N R) {g g2 : Nat → Int32} (hg : ∀ p, p < N 0 → g p = g2 p) {v : Nat → Nat} {a b c : Nat → Int32} (h : RowS N R g v a b c) : RowS N R g2 v a b c := by
  intro p hp
  refine ⟨(h p hp).1, fun h0 => ?_⟩
  rw [← stF_cg hH hg, ← nwH_cg hH hg (fun _ _ => rfl)]
  exact (h p hp).2 h0
theorem rsk_le {N : Nat → Nat} {R : Nat → Nat → Int32} {g : Nat → Int32} (hP : WPt N R) (hB : Bd N) : rsk N R g ≤ 16000 := by
  have h : rsk N R g ≤ N 0 * 2000 := by
    unfold rsk
    refine fb_sm_bound (fun p hp => ?_)
    have := (hP p hp).1.2
    unfold rkF
    split
    · split <;> omega
    · omega
  have := hB.1
  have : N 0 * 2000 ≤ 8 * 2000 := Nat.mul_le_mul_right _ this
  omega
theorem RowS_v {N : Nat → Nat} {R : Nat → Nat → Int32} {g : Nat → Int32} {v v2 : Nat → Nat} {a b c : Nat → Int32} (e : ∀ p, p < N 0 → v p = v2 p) (h : RowS N R g v a b c) : RowS N R g v2 a b c := by
  intro p hp
  rw [← e p hp]
  exact h p hp
theorem row_end {N : Nat → Nat} {R : Nat → Nat → Int32} {g : Nat → Int32} {k p : Nat} {a b c : Nat → Int32} (hp : N 0 ≤ p) (h : RowS N R g (mixS N R g k p) a b c) : RowS N R g (stF N R g (k + 1)) a b c :=
  RowS_v (fun q hq => if_pos (by omega)) h
theorem stF_fin {N : Nat → Nat} {R : Nat → Nat → Int32} {g : Nat → Int32} (hH : WHo N R) {k : Nat} (hk : k ≤ 8) (h : ∀ p, p < N 0 → nwB N R g (stF N R g k) p = false) : ∀ p, p < N 0 → stF N R g (k + 1) p = eS N R g p := by
  intro p hp
  rw [stF_stop hH h 1 p hp, eS, ← stF_stop hH h (8 - k) p hp, show k + (8 - k) = 8 by omega]
end
section
set_option maxHeartbeats 4000000 in
set_option maxRecDepth 100000 in
theorem c_take (l : Launch) (D : va_G) (cy : Nat → ClassId) (q : Nat → Nat) (N : Nat → Nat) (R X : Nat → Nat → Int32) (hW : WFm N R) : MS (α := (Nat → Int32) × (Nat → Int32) × (Nat → Int32)) l D cy yX12_take cX12_take 6 (Option.none : Option FieldType) rm_X12_take [.ref (q 33)] (wM cy q N R X) (fun v_ u_ => v_ = none ∧ RowS N R (X 13) (eS N R (X 13)) u_.1 u_.2.1 u_.2.2) (fun u_ => wM cy q N R (va_up (va_up (va_up X 14 u_.1) 15 u_.2.1) 16 u_.2.2)) := by
  refine MS.mk2 (by decide) (Nat.le_of_ble_eq_true rfl) [(0, .ref (q 33))] rfl ?_
  intro p e s m args below meth c A ls Q hQ S hr hlk hnm hK hA I hl
  have hW0 := hW
  obtain ⟨hB, hPt, hBo, hH, hM, hQu⟩ := hW0
  have hB0 := hB
  obtain ⟨b0, b6, b17, b24, b30⟩ := hB0
  refine lv_iconst (v := nI 0) S.1 S.2.1 dX12_take_0 (by decide) ?_
  refine lv_istore_n (lv' := [(1, .int (nI 0)), (0, .ref (q 33))]) S.1 S.2.1 dX12_take_1 rfl hl (by decide) rfl (fun ls hl => ?_)
  have loop_2 : ∀ (k_ : Nat) (i : Nat) (r14 : Nat → Int32), N 0 - i < k_ → i ≤ N 0 → (∀ p, p < i → r14 p = nI 0) → ∀ (H : Heap) (locs : List Loc) (ls : Array Slot), IX D A s.heap (wM cy q N R (va_up X 14 r14)) H locs → lv_has ls 6 [(0, .ref (q 33)), (1, .int (nI i))] → W p l e rm_X12_take s m args below meth c H locs 0 0 Q (F0 m 2 ls []) := by
    intro k_
    induction k_ with
    | zero => intro i r14 hm_; exact absurd hm_ (Nat.not_lt_zero _)
    | succ k_ ih_2 =>
      intro i r14 hm_ hi hg H locs ls I hl
      refine lv_iload_n S.1 S.2.1 dX12_take_2 rfl (lv_at hl 1 rfl) ?_
      refine lv_aload_n S.1 S.2.1 dX12_take_3 rfl (lv_at hl 0 rfl) ?_
      refine rg (ci := 12) (q0 := 0) (v := .int (nI (N 0))) 0 S hK I cl_X12 rfl wf_X12_95 (by decide) rfl rfl rfl dX12_take_4 ?_
      refine lv_icmp_ge (tgt := 23) S.1 S.2.1 dX12_take_7 (by decide) (fun c_7 => ?_) (fun c_7 => ?_)
      · skip
        have c_7o := c_7
        have c_7 := nI_cgeT (by omega) (by omega) c_7
        refine lv_iconst (v := nI 1) S.1 S.2.1 dX12_take_23 (by decide) ?_
        refine lv_istore_n (lv' := [(1, .int (nI 1)), (0, .ref (q 33))]) S.1 S.2.1 dX12_take_24 rfl hl (by decide) rfl (fun ls hl => ?_)
        refine lv_iconst (v := nI 1) S.1 S.2.1 dX12_take_25 (by decide) ?_
        refine lv_istore_n (lv' := [(2, .int (nI 1)), (1, .int (nI 1)), (0, .ref (q 33))]) S.1 S.2.1 dX12_take_26 rfl hl (by decide) rfl (fun ls hl => ?_)
        have loop_27 : ∀ (k_ : Nat) (k : Nat) (mo : Nat) (r14 : Nat → Int32) (r15 : Nat → Int32) (r16 : Nat → Int32), 9 - k < k_ → k ≤ 9 → mo ≤ 1 → RowS N R (X 13) (stF N R (X 13) k) r14 r15 r16 → (mo = 1 → k ≤ cnS N (stF N R (X 13) k)) → (mo = 0 → ∀ p, p < N 0 → stF N R (X 13) k p = eS N R (X 13) p) → ∀ (H : Heap) (locs : List Loc) (ls : Array Slot), IX D A s.heap (wM cy q N R (va_up (va_up (va_up X 14 r14) 15 r15) 16 r16)) H locs → lv_has ls 6 [(0, .ref (q 33)), (1, .int (nI mo)), (2, .int (nI (k + 1)))] → W p l e rm_X12_take s m args below meth c H locs 0 0 Q (F0 m 27 ls []) := by
          intro k_
          induction k_ with
          | zero => intro k mo r14 r15 r16 hm_; exact absurd hm_ (Nat.not_lt_zero _)
          | succ k_ ih_27 =>
            intro k mo r14 r15 r16 hm_ hk hmo hrow hcn hst H locs ls I hl
            refine lv_iload_n S.1 S.2.1 dX12_take_27 rfl (lv_at hl 1 rfl) ?_
            refine lv_if_eq (tgt := 165) S.1 S.2.1 dX12_take_28 (by decide) (fun c_28 => ?_) (fun c_28 => ?_)
            · skip
              have c_28o := c_28
              have c_28 := nI_zeqT (by omega) c_28
              exact ru_v hQ S hr hlk (u := (r14, r15, r16)) I (⟨rfl, RowS_v (hst c_28) hrow⟩) dX12_take_165
            · skip
              have c_28o := c_28
              have c_28 := nI_zeqF (by omega) c_28
              have hk8 : k ≤ 8 := by have h1 := hcn (by omega); have h2 := cnS_le N (stF N R (X 13) k); omega
              refine lv_iconst (v := nI 0) S.1 S.2.1 dX12_take_31 (by decide) ?_
              refine lv_istore_n (lv' := [(1, .int (nI 0)), (0, .ref (q 33)), (2, .int (nI (k + 1)))]) S.1 S.2.1 dX12_take_32 rfl hl (by decide) rfl (fun ls hl => ?_)
              refine lv_iconst (v := nI 0) S.1 S.2.1 dX12_take_33 (by decide) ?_
              refine lv_istore_n (lv' := [(3, .int (nI 0)), (1, .int (nI 0)), (0, .ref (q 33)), (2, .int (nI (k + 1)))]) S.1 S.2.1 dX12_take_34 rfl hl (by decide) rfl (fun ls hl => ?_)
              have loop_35 : ∀ (k_ : Nat) (pa : Nat) (mb : Nat) (s14 : Nat → Int32) (s15 : Nat → Int32) (s16 : Nat → Int32), N 0 - pa < k_ → pa ≤ N 0 → mb ≤ 1 → RowS N R (X 13) (mixS N R (X 13) k pa) s14 s15 s16 → (mb = 0 → ∀ z, z < pa → nwB N R (X 13) (stF N R (X 13) k) z = false) → (mb = 1 → ∃ z, z < pa ∧ nwB N R (X 13) (stF N R (X 13) k) z = true) → ∀ (H : Heap) (locs : List Loc) (ls : Array Slot), IX D A s.heap (wM cy q N R (va_up (va_up (va_up X 14 s14) 15 s15) 16 s16)) H locs → lv_has ls 6 [(0, .ref (q 33)), (1, .int (nI mb)), (2, .int (nI (k + 1))), (3, .int (nI pa))] → W p l e rm_X12_take s m args below meth c H locs 0 0 Q (F0 m 35 ls []) := by
                intro k_
                induction k_ with
                | zero => intro pa mb s14 s15 s16 hm_; exact absurd hm_ (Nat.not_lt_zero _)
                | succ k_ ih_35 =>
                  intro pa mb s14 s15 s16 hm_ hpa hmb hrw hm0 hm1 H locs ls I hl
                  refine lv_iload_n S.1 S.2.1 dX12_take_35 rfl (lv_at hl 3 rfl) ?_
                  refine lv_aload_n S.1 S.2.1 dX12_take_36 rfl (lv_at hl 0 rfl) ?_
                  refine rg (ci := 12) (q0 := 0) (v := .int (nI (N 0))) 0 S hK I cl_X12 rfl wf_X12_95 (by decide) rfl rfl rfl dX12_take_37 ?_
                  refine lv_icmp_ge (tgt := 159) S.1 S.2.1 dX12_take_40 (by decide) (fun c_40 => ?_) (fun c_40 => ?_)
                  · skip
                    have c_40o := c_40
                    have c_40 := nI_cgeT (by omega) (by omega) c_40
                    refine lv_iinc (v := nI (k + 1 + 1)) (lv' := [(2, .int (nI (k + 1 + 1))), (0, .ref (q 33)), (1, .int (nI mb)), (3, .int (nI pa))]) S.1 S.2.1 dX12_take_159 hl (k := 2) rfl (nI_1 _) (by decide) rfl (fun ls hl => ?_)
                    refine lv_goto (tgt := 27) S.1 S.2.1 dX12_take_162 (by decide) ?_
                    exact ih_27 (k + 1) mb s14 s15 s16 (by omega) (by omega) hmb (row_end (by omega) hrw) (fun h => by have h1 := hcn (by omega); obtain ⟨z, hz, ez⟩ := hm1 h; have h2 := cnS_up ⟨z, by omega, ez⟩; omega) (fun h => stF_fin hH hk8 (fun p hp => hm0 h p (by omega))) _ _ _ I (lv_sub hl [1, 2, 0] rfl)
                  · skip
                    have c_40o := c_40
                    have c_40 := nI_cgeF (by omega) (by omega) c_40
                    refine lv_aload_n S.1 S.2.1 dX12_take_43 rfl (lv_at hl 0 rfl) ?_
                    refine rg (ci := 12) (q0 := 0) (v := .ref (q 3)) 3 S hK I cl_X12 rfl wf_X12_16 (by decide) rfl rfl rfl dX12_take_44 ?_
                    refine lv_iload_n S.1 S.2.1 dX12_take_47 rfl (lv_at hl 3 rfl) ?_
                    refine rz (q0 := 3) (n := 8) (f := R 3) pa S hK I rfl rfl (by omega) (by decide) dX12_take_48 ?_
                    have join_62 : ∀ (x : Int32), x = fmI N R (tkN (stF N R (X 13) k)) pa → ∀ (H : Heap) (locs : List Loc) (ls : Array Slot), IX D A s.heap (wM cy q N R (va_up (va_up (va_up X 14 s14) 15 s15) 16 s16)) H locs → lv_has ls 6 [(0, .ref (q 33)), (1, .int (nI mb)), (2, .int (nI (k + 1))), (3, .int (nI pa))] → W p l e rm_X12_take s m args below meth c H locs 0 0 Q (F0 m 62 ls [.int x]) := by
                      intro x hx H locs ls I hl
                      refine lv_istore (lv' := [(4, .int x), (0, .ref (q 33)), (1, .int (nI mb)), (2, .int (nI (k + 1))), (3, .int (nI pa))]) S.1 S.2.1 dX12_take_62 hl (by decide) rfl (fun ls hl => ?_)
                      refine lv_aload_n S.1 S.2.1 dX12_take_64 rfl (lv_at hl 1 rfl) ?_
                      refine rg (ci := 12) (q0 := 0) (v := .ref (q 14)) 14 S hK I cl_X12 rfl wf_X12_47 (by decide) rfl rfl rfl dX12_take_65 ?_
                      refine lv_iload_n S.1 S.2.1 dX12_take_68 rfl (lv_at hl 4 rfl) ?_
                      have hsle := stF_le N R (X 13) k pa
                      refine ri (q0 := 13) (n := 8) (f := s14) pa S hK I rfl rfl (by omega) (by decide) dX12_take_69 ?_
                      refine tI (y := nI (stF N R (X 13) k pa)) ((hrw pa (by omega)).1.trans (congrArg nI (mixS_at _ _ _ _ _))) ?_
                      refine lv_if_ne (tgt := 153) S.1 S.2.1 dX12_take_70 (by decide) (fun c_70 => ?_) (fun c_70 => ?_)
                      · skip
                        have c_70o := c_70
                        have c_70 := nI_zneT (by omega) c_70
                        have hnn : nwB N R (X 13) (stF N R (X 13) k) pa = false := by unfold nwB; simp [c_70]
                        refine lv_iinc (v := nI (pa + 1)) (lv' := [(3, .int (nI (pa + 1))), (4, .int x), (0, .ref (q 33)), (1, .int (nI mb)), (2, .int (nI (k + 1)))]) S.1 S.2.1 dX12_take_153 hl (k := 4) rfl (nI_1 _) (by decide) rfl (fun ls hl => ?_)
                        refine lv_goto (tgt := 35) S.1 S.2.1 dX12_take_156 (by decide) ?_
                        exact ih_35 (pa + 1) mb s14 s15 s16 (by omega) (by omega) hmb (row_no hrw hnn) (fun h => all_s (hm0 h) hnn) (fun h => by obtain ⟨z, hz, ez⟩ := hm1 h; exact ⟨z, by omega, ez⟩) _ _ _ I (lv_sub hl [2, 3, 4, 0] rfl)
                      · skip
                        have c_70o := c_70
                        have c_70 := nI_zneF (by omega) c_70
                        refine lv_iload S.1 S.2.1 dX12_take_73 (lv_at hl 0 rfl) ?_
                        refine lv_bipush (v := (-4)) S.1 S.2.1 dX12_take_75 (by decide) ?_
                        refine lv_icmp_eq (tgt := 153) S.1 S.2.1 dX12_take_77 (by decide) (fun c_77 => ?_) (fun c_77 => ?_)
                        · skip
                          have hnn : nwB N R (X 13) (stF N R (X 13) k) pa = false := by unfold nwB; rw [← hx, c_77]; simp
                          refine lv_iinc (v := nI (pa + 1)) (lv' := [(3, .int (nI (pa + 1))), (4, .int x), (0, .ref (q 33)), (1, .int (nI mb)), (2, .int (nI (k + 1)))]) S.1 S.2.1 dX12_take_153 hl (k := 4) rfl (nI_1 _) (by decide) rfl (fun ls hl => ?_)
                          refine lv_goto (tgt := 35) S.1 S.2.1 dX12_take_156 (by decide) ?_
                          exact ih_35 (pa + 1) mb s14 s15 s16 (by omega) (by omega) hmb (row_no hrw hnn) (fun h => all_s (hm0 h) hnn) (fun h => by obtain ⟨z, hz, ez⟩ := hm1 h; exact ⟨z, by omega, ez⟩) _ _ _ I (lv_sub hl [2, 3, 4, 0] rfl)
                        · skip
                          refine lv_iconst (v := nI 0) S.1 S.2.1 dX12_take_80 (by decide) ?_
                          refine lv_istore (lv' := [(5, .int (nI 0)), (4, .int x), (0, .ref (q 33)), (1, .int (nI mb)), (2, .int (nI (k + 1))), (3, .int (nI pa))]) S.1 S.2.1 dX12_take_81 hl (by decide) rfl (fun ls hl => ?_)
                          have loop_83 : ∀ (k_ : Nat) (j : Nat), N 6 - j < k_ → j ≤ N 6 → (∀ i, i < j → (decide (wh R i = pa) && opB R (X 13) (tkN (stF N R (X 13) k)) i) = false) → ∀ (H : Heap) (locs : List Loc) (ls : Array Slot), IX D A s.heap (wM cy q N R (va_up (va_up (va_up X 14 s14) 15 s15) 16 s16)) H locs → lv_has ls 6 [(0, .ref (q 33)), (1, .int (nI mb)), (2, .int (nI (k + 1))), (3, .int (nI pa)), (4, .int x), (5, .int (nI j))] → W p l e rm_X12_take s m args below meth c H locs 0 0 Q (F0 m 83 ls []) := by
                            intro k_
                            induction k_ with
                            | zero => intro j hm_; exact absurd hm_ (Nat.not_lt_zero _)
                            | succ k_ ih_83 =>
                              intro j hm_ hj hno H locs ls I hl
                              refine lv_iload S.1 S.2.1 dX12_take_83 (lv_at hl 5 rfl) ?_
                              refine lv_aload_n S.1 S.2.1 dX12_take_85 rfl (lv_at hl 0 rfl) ?_
                              refine rg (ci := 12) (q0 := 0) (v := .int (nI (N 6))) 6 S hK I cl_X12 rfl wf_X12_110 (by decide) rfl rfl rfl dX12_take_86 ?_
                              refine lv_icmp_ge (tgt := 153) S.1 S.2.1 dX12_take_89 (by decide) (fun c_89 => ?_) (fun c_89 => ?_)
                              · skip
                                have c_89o := c_89
                                have c_89 := nI_cgeT (by omega) (by omega) c_89
                                have hnn : nwB N R (X 13) (stF N R (X 13) k) pa = false := by unfold nwB; rw [show nwH N R (X 13) (tkN (stF N R (X 13) k)) pa = N 6 from fst_none (fun i hi => hno i (by omega))]; simp
                                refine lv_iinc (v := nI (pa + 1)) (lv' := [(3, .int (nI (pa + 1))), (0, .ref (q 33)), (1, .int (nI mb)), (2, .int (nI (k + 1))), (4, .int x), (5, .int (nI j))]) S.1 S.2.1 dX12_take_153 hl (k := 3) rfl (nI_1 _) (by decide) rfl (fun ls hl => ?_)
                                refine lv_goto (tgt := 35) S.1 S.2.1 dX12_take_156 (by decide) ?_
                                exact ih_35 (pa + 1) mb s14 s15 s16 (by omega) (by omega) hmb (row_no hrw hnn) (fun h => all_s (hm0 h) hnn) (fun h => by obtain ⟨z, hz, ez⟩ := hm1 h; exact ⟨z, by omega, ez⟩) _ _ _ I (lv_sub hl [1, 2, 3, 0] rfl)
                              · skip
                                have c_89o := c_89
                                have c_89 := nI_cgeF (by omega) (by omega) c_89
                                refine lv_aload_n S.1 S.2.1 dX12_take_92 rfl (lv_at hl 0 rfl) ?_
                                refine rg (ci := 12) (q0 := 0) (v := .ref (q 14)) 14 S hK I cl_X12 rfl wf_X12_47 (by decide) rfl rfl rfl dX12_take_93 ?_
                                refine lv_iload_n S.1 S.2.1 dX12_take_96 rfl (lv_at hl 3 rfl) ?_
                                refine ri (q0 := 13) (n := 8) (f := s14) pa S hK I rfl rfl (by omega) (by decide) dX12_take_97 ?_
                                refine tI (y := nI 0) ((hrw pa (by omega)).1.trans (congrArg nI ((mixS_at _ _ _ _ _).trans c_70))) ?_
                                refine lv_if_ne (tgt := 153) S.1 S.2.1 dX12_take_98 (by decide) (fun c_98 => ?_) (fun c_98 => ?_)
                                · skip
                                  have c_98 := nI_zneT (by omega) c_98
                                  exact absurd rfl c_98
                                · skip
                                  have c_98o := c_98
                                  have c_98 := nI_zneF (by omega) c_98
                                  refine lv_aload_n S.1 S.2.1 dX12_take_101 rfl (lv_at hl 0 rfl) ?_
                                  refine rg (ci := 12) (q0 := 0) (v := .ref (q 8)) 8 S hK I cl_X12 rfl wf_X12_29 (by decide) rfl rfl rfl dX12_take_102 ?_
                                  refine lv_iload S.1 S.2.1 dX12_take_105 (lv_at hl 5 rfl) ?_
                                  refine ri (q0 := 7) (n := 12) (f := R 8) j S hK I rfl rfl (by omega) (by decide) dX12_take_107 ?_
                                  refine tI (y := nI (wh R j)) (hH j (by omega)).1 ?_
                                  have hwb := (hH j (by omega)).2.1
                                  refine lv_iload_n S.1 S.2.1 dX12_take_108 rfl (lv_at hl 3 rfl) ?_
                                  refine lv_icmp_ne (tgt := 147) S.1 S.2.1 dX12_take_109 (by decide) (fun c_109 => ?_) (fun c_109 => ?_)
                                  · skip
                                    have c_109o := c_109
                                    have c_109 := nI_cneT (by omega) (by omega) c_109
                                    refine lv_iinc (v := nI (j + 1)) (lv' := [(5, .int (nI (j + 1))), (0, .ref (q 33)), (1, .int (nI mb)), (2, .int (nI (k + 1))), (3, .int (nI pa)), (4, .int x)]) S.1 S.2.1 dX12_take_147 hl (k := 5) rfl (nI_1 _) (by decide) rfl (fun ls hl => ?_)
                                    refine lv_goto (tgt := 83) S.1 S.2.1 dX12_take_150 (by decide) ?_
                                    exact ih_83 (j + 1) (by omega) (by omega) (all_s (P := fun i => decide (wh R i = pa) && opB R (X 13) (tkN (stF N R (X 13) k)) i) hno (by simp [c_109])) _ _ _ I (lv_sub hl [1, 2, 3, 4, 5, 0] rfl)
                                  · skip
                                    have c_109o := c_109
                                    have c_109 := nI_cneF (by omega) (by omega) c_109
                                    refine lv_aload_n S.1 S.2.1 dX12_take_112 rfl (lv_at hl 0 rfl) ?_
                                    refine lv_iload S.1 S.2.1 dX12_take_113 (lv_at hl 5 rfl) ?_
                                    refine lv_iload_n S.1 S.2.1 dX12_take_115 rfl (lv_at hl 2 rfl) ?_
                                    refine cV (np := 2) (ci := 12) (q0 := 0) (As := [.int (nI j), .int (nI (k + 1))]) (rest := []) S (c_opens l D cy q N R (va_up (va_up (va_up X 14 s14) 15 s15) 16 s16) j (nI (k + 1)) hW (by omega)) hK hA I wm_X12_133 wi_X12_opens ws_X12_X12_opens wn_X12 wk_X12_opens ⟨rfl, hd_X12_opens⟩ rfl ⟨by decide, by decide⟩ rfl rfl hl.1 rfl (Nat.le_of_ble_eq_true rfl) dX12_take_116 ⟨by decide, by decide⟩ (fun v_ u_ H locs h_ I => ?_)
                                    obtain rfl := h_
                                    have I : IX D A s.heap (wM cy q N R (va_up (va_up (va_up X 14 s14) 15 s15) 16 s16)) H locs := I
                                    refine W.eq (g2 := F0 m 119 ls [.int (bI (opB R (X 13) (tkB s14 (nI (k + 1))) j))]) rfl ?_
                                    refine tI (y := bI (opB R (X 13) (tkN (stF N R (X 13) k)) j)) (congrArg bI (opB_cg hH (fun _ _ => rfl) (tk_mix (by omega) hrw) (by omega))) ?_
                                    refine lv_if_eq (tgt := 147) S.1 S.2.1 dX12_take_119 (by decide) (fun c_119 => ?_) (fun c_119 => ?_)
                                    · skip
                                      have c_119 := bI_f c_119
                                      refine lv_iinc (v := nI (j + 1)) (lv' := [(5, .int (nI (j + 1))), (0, .ref (q 33)), (1, .int (nI mb)), (2, .int (nI (k + 1))), (3, .int (nI pa)), (4, .int x)]) S.1 S.2.1 dX12_take_147 hl (k := 5) rfl (nI_1 _) (by decide) rfl (fun ls hl => ?_)
                                      refine lv_goto (tgt := 83) S.1 S.2.1 dX12_take_150 (by decide) ?_
                                      exact ih_83 (j + 1) (by omega) (by omega) (all_s (P := fun i => decide (wh R i = pa) && opB R (X 13) (tkN (stF N R (X 13) k)) i) hno (by simp [c_109, c_119])) _ _ _ I (lv_sub hl [1, 2, 3, 4, 5, 0] rfl)
                                    · skip
                                      have c_119 := bI_t c_119
                                      have hjn : nwH N R (X 13) (tkN (stF N R (X 13) k)) pa = j := fst_eq hno (by simp [c_109, c_119]) (by omega)
                                      have hnw : nwB N R (X 13) (stF N R (X 13) k) pa = true := by unfold nwB; rw [hjn, ← hx]; simp [c_70, c_77]; omega
                                      refine lv_aload_n S.1 S.2.1 dX12_take_122 rfl (lv_at hl 0 rfl) ?_
                                      refine rg (ci := 12) (q0 := 0) (v := .ref (q 14)) 14 S hK I cl_X12 rfl wf_X12_47 (by decide) rfl rfl rfl dX12_take_123 ?_
                                      refine lv_iload_n S.1 S.2.1 dX12_take_126 rfl (lv_at hl 3 rfl) ?_
                                      refine lv_iload_n S.1 S.2.1 dX12_take_127 rfl (lv_at hl 2 rfl) ?_
                                      refine si (q0 := 13) (n := 8) (f := s14) pa S hK I rfl rfl (by omega) (by decide) dX12_take_128 (fun H locs I => ?_)
                                      have I : IX D A s.heap (wM cy q N R (va_up (va_up (va_up X 14 (upd s14 pa (nI (k + 1)))) 15 s15) 16 s16)) H locs := I
                                      refine lv_aload_n S.1 S.2.1 dX12_take_129 rfl (lv_at hl 0 rfl) ?_
                                      refine rg (ci := 12) (q0 := 0) (v := .ref (q 15)) 15 S hK I cl_X12 rfl wf_X12_50 (by decide) rfl rfl rfl dX12_take_130 ?_
                                      refine lv_iload_n S.1 S.2.1 dX12_take_133 rfl (lv_at hl 3 rfl) ?_
                                      refine lv_iload S.1 S.2.1 dX12_take_134 (lv_at hl 5 rfl) ?_
                                      refine si (q0 := 14) (n := 8) (f := s15) pa S hK I rfl rfl (by omega) (by decide) dX12_take_136 (fun H locs I => ?_)
                                      have I : IX D A s.heap (wM cy q N R (va_up (va_up (va_up X 14 (upd s14 pa (nI (k + 1)))) 15 (upd s15 pa (nI j))) 16 s16)) H locs := I
                                      refine lv_aload_n S.1 S.2.1 dX12_take_137 rfl (lv_at hl 0 rfl) ?_
                                      refine rg (ci := 12) (q0 := 0) (v := .ref (q 16)) 16 S hK I cl_X12 rfl wf_X12_53 (by decide) rfl rfl rfl dX12_take_138 ?_
                                      refine lv_iload_n S.1 S.2.1 dX12_take_141 rfl (lv_at hl 3 rfl) ?_
                                      refine lv_iload S.1 S.2.1 dX12_take_142 (lv_at hl 4 rfl) ?_
                                      refine si (q0 := 15) (n := 8) (f := s16) pa S hK I rfl rfl (by omega) (by decide) dX12_take_144 (fun H locs I => ?_)
                                      have I : IX D A s.heap (wM cy q N R (va_up (va_up (va_up X 14 (upd s14 pa (nI (k + 1)))) 15 (upd s15 pa (nI j))) 16 (upd s16 pa x))) H locs := I
                                      refine lv_iconst (v := nI 1) S.1 S.2.1 dX12_take_145 (by decide) ?_
                                      refine lv_istore_n (lv' := [(1, .int (nI 1)), (0, .ref (q 33)), (2, .int (nI (k + 1))), (3, .int (nI pa)), (4, .int x), (5, .int (nI j))]) S.1 S.2.1 dX12_take_146 rfl hl (by decide) rfl (fun ls hl => ?_)
                                      refine lv_iinc (v := nI (j + 1)) (lv' := [(5, .int (nI (j + 1))), (1, .int (nI 1)), (0, .ref (q 33)), (2, .int (nI (k + 1))), (3, .int (nI pa)), (4, .int x)]) S.1 S.2.1 dX12_take_147 hl (k := 5) rfl (nI_1 _) (by decide) rfl (fun ls hl => ?_)
                                      refine lv_goto (tgt := 83) S.1 S.2.1 dX12_take_150 (by decide) ?_
                                      refine lv_iload S.1 S.2.1 dX12_take_83 (lv_at hl 0 rfl) ?_
                                      refine lv_aload_n S.1 S.2.1 dX12_take_85 rfl (lv_at hl 2 rfl) ?_
                                      refine rg (ci := 12) (q0 := 0) (v := .int (nI (N 6))) 6 S hK I cl_X12 rfl wf_X12_110 (by decide) rfl rfl rfl dX12_take_86 ?_
                                      refine lv_icmp_ge (tgt := 153) S.1 S.2.1 dX12_take_89 (by decide) (fun c_89 => ?_) (fun c_89 => ?_)
                                      · skip
                                        have c_89o := c_89
                                        have c_89 := nI_cgeT (by omega) (by omega) c_89
                                        
                                        refine lv_iinc (v := nI (pa + 1)) (lv' := [(3, .int (nI (pa + 1))), (5, .int (nI (j + 1))), (1, .int (nI 1)), (0, .ref (q 33)), (2, .int (nI (k + 1))), (4, .int x)]) S.1 S.2.1 dX12_take_153 hl (k := 4) rfl (nI_1 _) (by decide) rfl (fun ls hl => ?_)
                                        refine lv_goto (tgt := 35) S.1 S.2.1 dX12_take_156 (by decide) ?_
                                        exact ih_35 (pa + 1) 1 (upd s14 pa (nI (k + 1))) (upd s15 pa (nI j)) (upd s16 pa x) (by omega) (by omega) (Nat.le_refl 1) (row_yes hrw hnw hjn hx) (fun h => absurd h (by decide)) (fun _ => ⟨pa, by omega, hnw⟩) _ _ _ I (lv_sub hl [3, 2, 4, 0] rfl)
                                      · skip
                                        have c_89o := c_89
                                        have c_89 := nI_cgeF (by omega) (by omega) c_89
                                        refine lv_aload_n S.1 S.2.1 dX12_take_92 rfl (lv_at hl 2 rfl) ?_
                                        refine rg (ci := 12) (q0 := 0) (v := .ref (q 14)) 14 S hK I cl_X12 rfl wf_X12_47 (by decide) rfl rfl rfl dX12_take_93 ?_
                                        refine lv_iload_n S.1 S.2.1 dX12_take_96 rfl (lv_at hl 4 rfl) ?_
                                        refine ri (q0 := 13) (n := 8) (f := upd s14 pa (nI (k + 1))) pa S hK I rfl rfl (by omega) (by decide) dX12_take_97 ?_
                                        refine tI (y := nI (k + 1)) pk_us ?_
                                        refine lv_if_ne (tgt := 153) S.1 S.2.1 dX12_take_98 (by decide) (fun c_98 => ?_) (fun c_98 => ?_)
                                        · skip
                                          have c_98o := c_98
                                          have c_98 := nI_zneT (by omega) c_98
                                          refine lv_iinc (v := nI (pa + 1)) (lv' := [(3, .int (nI (pa + 1))), (5, .int (nI (j + 1))), (1, .int (nI 1)), (0, .ref (q 33)), (2, .int (nI (k + 1))), (4, .int x)]) S.1 S.2.1 dX12_take_153 hl (k := 4) rfl (nI_1 _) (by decide) rfl (fun ls hl => ?_)
                                          refine lv_goto (tgt := 35) S.1 S.2.1 dX12_take_156 (by decide) ?_
                                          exact ih_35 (pa + 1) 1 (upd s14 pa (nI (k + 1))) (upd s15 pa (nI j)) (upd s16 pa x) (by omega) (by omega) (Nat.le_refl 1) (row_yes hrw hnw hjn hx) (fun h => absurd h (by decide)) (fun _ => ⟨pa, by omega, hnw⟩) _ _ _ I (lv_sub hl [3, 2, 4, 0] rfl)
                                        · skip
                                          have c_98 := nI_zneF (by omega) c_98
                                          exact absurd c_98 (by omega)
                          exact loop_83 _ 0 (Nat.lt_succ_self _) (Nat.zero_le _) (fun i hi => absurd hi (Nat.not_lt_zero i)) _ _ _ I (lv_sub hl [2, 3, 4, 5, 1, 0] rfl)
                    refine lv_if_eq (tgt := 56) S.1 S.2.1 dX12_take_49 (by decide) (fun c_49 => ?_) (fun c_49 => ?_)
                    · skip
                      refine lv_aload_n S.1 S.2.1 dX12_take_56 rfl (lv_at hl 0 rfl) ?_
                      refine lv_iload_n S.1 S.2.1 dX12_take_57 rfl (lv_at hl 3 rfl) ?_
                      refine lv_iload_n S.1 S.2.1 dX12_take_58 rfl (lv_at hl 2 rfl) ?_
                      refine cV (np := 2) (ci := 12) (q0 := 0) (As := [.int (nI pa), .int (nI (k + 1))]) (rest := []) S (c_fromFor l D cy q N R (va_up (va_up (va_up X 14 s14) 15 s15) 16 s16) pa (nI (k + 1)) hW (by omega)) hK hA I wm_X12_129 wi_X12_fromFor ws_X12_X12_fromFor wn_X12 wk_X12_fromFor ⟨rfl, hd_X12_fromFor⟩ rfl ⟨by decide, by decide⟩ rfl rfl hl.1 rfl (Nat.le_of_ble_eq_true rfl) dX12_take_59 ⟨by decide, by decide⟩ (fun v_ u_ H locs h_ I => ?_)
                      obtain rfl := h_
                      have I : IX D A s.heap (wM cy q N R (va_up (va_up (va_up X 14 s14) 15 s15) 16 s16)) H locs := I
                      refine W.eq (g2 := F0 m 62 ls [.int (frI R (tkB s14 (nI (k + 1))) (N 0) pa)]) rfl ?_
                      exact join_62 (frI R (tkB s14 (nI (k + 1))) (N 0) pa) (by unfold fmI; rw [if_pos c_49]; exact frI_cg (tk_mix (by omega) hrw) pa) _ _ _ I (lv_sub hl [0, 1, 2, 3] rfl)
                    · skip
                      refine lv_iconst (v := (-1)) S.1 S.2.1 dX12_take_52 (by decide) ?_
                      refine lv_goto (tgt := 62) S.1 S.2.1 dX12_take_53 (by decide) ?_
                      exact join_62 (-1) (by unfold fmI; rw [if_neg c_49]) _ _ _ I (lv_sub hl [0, 1, 2, 3] rfl)
              exact loop_35 _ 0 0 r14 r15 r16 (Nat.lt_succ_self _) (Nat.zero_le _) (Nat.zero_le 1) (by rw [mixS_0]; exact hrow) (fun _ z hz => absurd hz (Nat.not_lt_zero z)) (fun h => absurd h (by decide)) _ _ _ I (lv_sub hl [2, 1, 3, 0] rfl)
        exact loop_27 _ 0 1 r14 (X 15) (X 16) (Nat.lt_succ_self _) (Nat.zero_le _) (Nat.le_refl 1) (fun p hp => ⟨hg p (by omega), fun h => absurd h (Nat.lt_irrefl 0)⟩) (fun _ => Nat.zero_le _) (fun h => absurd h (by decide)) _ _ _ I (lv_sub hl [2, 1, 0] rfl)
      · skip
        have c_7o := c_7
        have c_7 := nI_cgeF (by omega) (by omega) c_7
        refine lv_aload_n S.1 S.2.1 dX12_take_10 rfl (lv_at hl 0 rfl) ?_
        refine rg (ci := 12) (q0 := 0) (v := .ref (q 14)) 14 S hK I cl_X12 rfl wf_X12_47 (by decide) rfl rfl rfl dX12_take_11 ?_
        refine lv_iload_n S.1 S.2.1 dX12_take_14 rfl (lv_at hl 1 rfl) ?_
        refine lv_iconst (v := nI 0) S.1 S.2.1 dX12_take_15 (by decide) ?_
        refine si (q0 := 13) (n := 8) (f := r14) i S hK I rfl rfl (by omega) (by decide) dX12_take_16 (fun H locs I => ?_)
        have I : IX D A s.heap (wM cy q N R (va_up X 14 (upd r14 i (nI 0)))) H locs := I
        refine lv_iinc (v := nI (i + 1)) (lv' := [(1, .int (nI (i + 1))), (0, .ref (q 33))]) S.1 S.2.1 dX12_take_17 hl (k := 1) rfl (nI_1 _) (by decide) rfl (fun ls hl => ?_)
        refine lv_goto (tgt := 2) S.1 S.2.1 dX12_take_20 (by decide) ?_
        exact ih_2 (i + 1) (upd r14 i (nI 0)) (by omega) (by omega) (cp_s (f := fun _ => nI 0) hg) _ _ _ I (lv_sub hl [1, 0] rfl)
  exact loop_2 _ 0 (X 14) (Nat.lt_succ_self _) (Nat.zero_le _) (fun p hp => absurd hp (Nat.not_lt_zero _)) _ _ _ I (lv_sub hl [1, 0] rfl)
set_option maxHeartbeats 4000000 in
set_option maxRecDepth 100000 in
theorem c_riskNow (l : Launch) (D : va_G) (cy : Nat → ClassId) (q : Nat → Nat) (N : Nat → Nat) (R X : Nat → Nat → Int32) (hW : WFm N R) : MS (α := (Nat → Int32) × (Nat → Int32) × (Nat → Int32)) l D cy yX12_riskNow cX12_riskNow 5 (Option.some FieldType.int) rm_X12_riskNow [.ref (q 33)] (wM cy q N R X) (fun v_ u_ => v_ = some (.int (nI (rsk N R (X 13)))) ∧ RowS N R (X 13) (eS N R (X 13)) u_.1 u_.2.1 u_.2.2) (fun u_ => wM cy q N R (va_up (va_up (va_up X 14 u_.1) 15 u_.2.1) 16 u_.2.2)) := by
  refine MS.mk2 (by decide) (Nat.le_of_ble_eq_true rfl) [(0, .ref (q 33))] rfl ?_
  intro p e s m args below meth c A ls Q hQ S hr hlk hnm hK hA I hl
  have hW0 := hW
  obtain ⟨hB, hPt, hBo, hH, hM, hQu⟩ := hW0
  have hB0 := hB
  obtain ⟨b0, b6, b17, b24, b30⟩ := hB0
  refine lv_aload_n S.1 S.2.1 dX12_riskNow_0 rfl (lv_at hl 0 rfl) ?_
  refine cV (np := 0) (ci := 12) (q0 := 0) (As := []) (rest := []) S (c_take l D cy q N R X hW) hK hA I wm_X12_137 wi_X12_take ws_X12_X12_take wn_X12 wk_X12_take ⟨rfl, hd_X12_take⟩ rfl ⟨by decide, by decide⟩ rfl rfl hl.1 rfl (Nat.le_of_ble_eq_true rfl) dX12_riskNow_1 ⟨by decide, by decide⟩ (fun v_ u_ H locs h_ I => ?_)
  obtain ⟨rfl, hr_1⟩ := h_
  obtain ⟨a14_1, a15_1, a16_1⟩ := u_
  have hr_1 : RowS N R (X 13) (eS N R (X 13)) a14_1 a15_1 a16_1 := hr_1
  have I : IX D A s.heap (wM cy q N R (va_up (va_up (va_up X 14 a14_1) 15 a15_1) 16 a16_1)) H locs := I
  refine W.eq (g2 := F0 m 4 ls []) rfl ?_
  refine lv_iconst (v := nI 0) S.1 S.2.1 dX12_riskNow_4 (by decide) ?_
  refine lv_istore_n (lv' := [(1, .int (nI 0)), (0, .ref (q 33))]) S.1 S.2.1 dX12_riskNow_5 rfl hl (by decide) rfl (fun ls hl => ?_)
  refine lv_iconst (v := nI 0) S.1 S.2.1 dX12_riskNow_6 (by decide) ?_
  refine lv_istore_n (lv' := [(2, .int (nI 0)), (1, .int (nI 0)), (0, .ref (q 33))]) S.1 S.2.1 dX12_riskNow_7 rfl hl (by decide) rfl (fun ls hl => ?_)
  have loop_8 : ∀ (k_ : Nat) (pa : Nat) (su : Nat), N 0 - pa < k_ → pa ≤ N 0 → su = fb_sm (rkF N R (X 13)) pa → ∀ (H : Heap) (locs : List Loc) (ls : Array Slot), IX D A s.heap (wM cy q N R (va_up (va_up (va_up X 14 a14_1) 15 a15_1) 16 a16_1)) H locs → lv_has ls 5 [(0, .ref (q 33)), (1, .int (nI su)), (2, .int (nI pa))] → W p l e rm_X12_riskNow s m args below meth c H locs 0 0 Q (F0 m 8 ls []) := by
    intro k_
    induction k_ with
    | zero => intro pa su hm_; exact absurd hm_ (Nat.not_lt_zero _)
    | succ k_ ih_8 =>
      intro pa su hm_ hpa hsu H locs ls I hl
      refine lv_iload_n S.1 S.2.1 dX12_riskNow_8 rfl (lv_at hl 2 rfl) ?_
      refine lv_aload_n S.1 S.2.1 dX12_riskNow_9 rfl (lv_at hl 0 rfl) ?_
      refine rg (ci := 12) (q0 := 0) (v := .int (nI (N 0))) 0 S hK I cl_X12 rfl wf_X12_95 (by decide) rfl rfl rfl dX12_riskNow_10 ?_
      refine lv_icmp_ge (tgt := 116) S.1 S.2.1 dX12_riskNow_13 (by decide) (fun c_13 => ?_) (fun c_13 => ?_)
      · skip
        have c_13o := c_13
        have c_13 := nI_cgeT (by omega) (by omega) c_13
        refine lv_iload_n S.1 S.2.1 dX12_riskNow_116 rfl (lv_at hl 1 rfl) ?_
        exact ru_i hQ S hr hlk (u := (a14_1, a15_1, a16_1)) I (⟨by rw [hsu, show pa = N 0 by omega]; rfl, hr_1⟩) dX12_riskNow_117
      · skip
        have c_13o := c_13
        have c_13 := nI_cgeF (by omega) (by omega) c_13
        refine lv_aload_n S.1 S.2.1 dX12_riskNow_16 rfl (lv_at hl 0 rfl) ?_
        refine rg (ci := 12) (q0 := 0) (v := .ref (q 14)) 14 S hK I cl_X12 rfl wf_X12_47 (by decide) rfl rfl rfl dX12_riskNow_17 ?_
        refine lv_iload_n S.1 S.2.1 dX12_riskNow_20 rfl (lv_at hl 2 rfl) ?_
        have hsle : eS N R (X 13) pa ≤ 8 := stF_le N R (X 13) 8 pa
        refine ri (q0 := 13) (n := 8) (f := a14_1) pa S hK I rfl rfl (by omega) (by decide) dX12_riskNow_21 ?_
        refine tI (y := nI (eS N R (X 13) pa)) ((hr_1 pa (by omega)).1) ?_
        refine lv_if_le (tgt := 110) S.1 S.2.1 dX12_riskNow_22 (by decide) (fun c_22 => ?_) (fun c_22 => ?_)
        · skip
          have c_22o := c_22
          have c_22 := nI_zleT (by omega) c_22
          refine lv_iinc (v := nI (pa + 1)) (lv' := [(2, .int (nI (pa + 1))), (0, .ref (q 33)), (1, .int (nI su))]) S.1 S.2.1 dX12_riskNow_110 hl (k := 2) rfl (nI_1 _) (by decide) rfl (fun ls hl => ?_)
          refine lv_goto (tgt := 8) S.1 S.2.1 dX12_riskNow_113 (by decide) ?_
          exact ih_8 (pa + 1) su (by omega) (by omega) (by rw [fb_sm_succ, ← hsu, rkF, if_neg (by omega), Nat.add_zero]) _ _ _ I (lv_sub hl [1, 2, 0] rfl)
        · skip
          have c_22o := c_22
          have c_22 := nI_zleF (by omega) c_22
          refine lv_iconst (v := nI 0) S.1 S.2.1 dX12_riskNow_25 (by decide) ?_
          refine tI (y := bI false) rfl ?_
          refine lv_istore_n (lv' := [(3, .int (bI false)), (0, .ref (q 33)), (1, .int (nI su)), (2, .int (nI pa))]) S.1 S.2.1 dX12_riskNow_26 rfl hl (by decide) rfl (fun ls hl => ?_)
          refine lv_iconst (v := nI 0) S.1 S.2.1 dX12_riskNow_27 (by decide) ?_
          refine lv_istore (lv' := [(4, .int (nI 0)), (3, .int (bI false)), (0, .ref (q 33)), (1, .int (nI su)), (2, .int (nI pa))]) S.1 S.2.1 dX12_riskNow_28 hl (by decide) rfl (fun ls hl => ?_)
          have loop_30 : ∀ (k_ : Nat) (j : Nat) (ub : Bool), N 6 - j < k_ → j ≤ N 6 → ub = usF R (X 13) pa j → ∀ (H : Heap) (locs : List Loc) (ls : Array Slot), IX D A s.heap (wM cy q N R (va_up (va_up (va_up X 14 a14_1) 15 a15_1) 16 a16_1)) H locs → lv_has ls 5 [(0, .ref (q 33)), (1, .int (nI su)), (2, .int (nI pa)), (3, .int (bI ub)), (4, .int (nI j))] → W p l e rm_X12_riskNow s m args below meth c H locs 0 0 Q (F0 m 30 ls []) := by
            intro k_
            induction k_ with
            | zero => intro j ub hm_; exact absurd hm_ (Nat.not_lt_zero _)
            | succ k_ ih_30 =>
              intro j ub hm_ hj hu H locs ls I hl
              refine lv_iload S.1 S.2.1 dX12_riskNow_30 (lv_at hl 4 rfl) ?_
              refine lv_aload_n S.1 S.2.1 dX12_riskNow_32 rfl (lv_at hl 0 rfl) ?_
              refine rg (ci := 12) (q0 := 0) (v := .int (nI (N 6))) 6 S hK I cl_X12 rfl wf_X12_110 (by decide) rfl rfl rfl dX12_riskNow_33 ?_
              refine lv_icmp_ge (tgt := 86) S.1 S.2.1 dX12_riskNow_36 (by decide) (fun c_36 => ?_) (fun c_36 => ?_)
              · skip
                have c_36o := c_36
                have c_36 := nI_cgeT (by omega) (by omega) c_36
                refine lv_iload_n S.1 S.2.1 dX12_riskNow_86 rfl (lv_at hl 1 rfl) ?_
                refine lv_iload_n S.1 S.2.1 dX12_riskNow_87 rfl (lv_at hl 3 rfl) ?_
                refine lv_if_eq (tgt := 102) S.1 S.2.1 dX12_riskNow_88 (by decide) (fun c_88 => ?_) (fun c_88 => ?_)
                · skip
                  have c_88 := bI_f c_88
                  refine lv_aload_n S.1 S.2.1 dX12_riskNow_102 rfl (lv_at hl 0 rfl) ?_
                  refine rg (ci := 12) (q0 := 0) (v := .ref (q 2)) 2 S hK I cl_X12 rfl wf_X12_13 (by decide) rfl rfl rfl dX12_riskNow_103 ?_
                  refine lv_iload_n S.1 S.2.1 dX12_riskNow_106 rfl (lv_at hl 2 rfl) ?_
                  refine ri (q0 := 2) (n := 8) (f := R 2) pa S hK I rfl rfl (by omega) (by decide) dX12_riskNow_107 ?_
                  refine tI (y := nI (wo R pa)) (hPt pa (by omega)).1.1 ?_
                  refine lv_iadd S.1 S.2.1 dX12_riskNow_108 ?_
                  refine tI (y := nI (su + (wo R pa))) (nI_add _ _) ?_
                  refine lv_istore_n (lv' := [(1, .int (nI (su + (wo R pa)))), (0, .ref (q 33)), (2, .int (nI pa)), (3, .int (bI ub)), (4, .int (nI j))]) S.1 S.2.1 dX12_riskNow_109 rfl hl (by decide) rfl (fun ls hl => ?_)
                  refine lv_iinc (v := nI (pa + 1)) (lv' := [(2, .int (nI (pa + 1))), (1, .int (nI (su + (wo R pa)))), (0, .ref (q 33)), (3, .int (bI ub)), (4, .int (nI j))]) S.1 S.2.1 dX12_riskNow_110 hl (k := 2) rfl (nI_1 _) (by decide) rfl (fun ls hl => ?_)
                  refine lv_goto (tgt := 8) S.1 S.2.1 dX12_riskNow_113 (by decide) ?_
                  exact ih_8 (pa + 1) (su + (wo R pa)) (by omega) (by omega) (by rw [fb_sm_succ, ← hsu, rkF, if_pos (by omega), show N 6 = j by omega, ← hu, if_neg (by rw [c_88]; exact Bool.false_ne_true)]) _ _ _ I (lv_sub hl [2, 1, 0] rfl)
                · skip
                  have c_88 := bI_t c_88
                  refine lv_iconst (v := nI 2) S.1 S.2.1 dX12_riskNow_91 (by decide) ?_
                  refine lv_aload_n S.1 S.2.1 dX12_riskNow_92 rfl (lv_at hl 0 rfl) ?_
                  refine rg (ci := 12) (q0 := 0) (v := .ref (q 2)) 2 S hK I cl_X12 rfl wf_X12_13 (by decide) rfl rfl rfl dX12_riskNow_93 ?_
                  refine lv_iload_n S.1 S.2.1 dX12_riskNow_96 rfl (lv_at hl 2 rfl) ?_
                  refine ri (q0 := 2) (n := 8) (f := R 2) pa S hK I rfl rfl (by omega) (by decide) dX12_riskNow_97 ?_
                  refine tI (y := nI (wo R pa)) (hPt pa (by omega)).1.1 ?_
                  refine lv_imul S.1 S.2.1 dX12_riskNow_98 ?_
                  refine tI (y := nI (2 * (wo R pa))) (pk_mul _ _) ?_
                  refine lv_goto (tgt := 108) S.1 S.2.1 dX12_riskNow_99 (by decide) ?_
                  refine lv_iadd S.1 S.2.1 dX12_riskNow_108 ?_
                  refine tI (y := nI (su + (2 * (wo R pa)))) (nI_add _ _) ?_
                  refine lv_istore_n (lv' := [(1, .int (nI (su + (2 * (wo R pa))))), (0, .ref (q 33)), (2, .int (nI pa)), (3, .int (bI ub)), (4, .int (nI j))]) S.1 S.2.1 dX12_riskNow_109 rfl hl (by decide) rfl (fun ls hl => ?_)
                  refine lv_iinc (v := nI (pa + 1)) (lv' := [(2, .int (nI (pa + 1))), (1, .int (nI (su + (2 * (wo R pa))))), (0, .ref (q 33)), (3, .int (bI ub)), (4, .int (nI j))]) S.1 S.2.1 dX12_riskNow_110 hl (k := 2) rfl (nI_1 _) (by decide) rfl (fun ls hl => ?_)
                  refine lv_goto (tgt := 8) S.1 S.2.1 dX12_riskNow_113 (by decide) ?_
                  exact ih_8 (pa + 1) (su + (2 * (wo R pa))) (by omega) (by omega) (by rw [fb_sm_succ, ← hsu, rkF, if_pos (by omega), show N 6 = j by omega, ← hu, if_pos c_88]) _ _ _ I (lv_sub hl [2, 1, 0] rfl)
              · skip
                have c_36o := c_36
                have c_36 := nI_cgeF (by omega) (by omega) c_36
                refine lv_iload_n S.1 S.2.1 dX12_riskNow_39 rfl (lv_at hl 3 rfl) ?_
                refine lv_if_ne (tgt := 74) S.1 S.2.1 dX12_riskNow_40 (by decide) (fun c_40 => ?_) (fun c_40 => ?_)
                · skip
                  have c_40 := bI_t c_40
                  refine lv_iconst (v := nI 1) S.1 S.2.1 dX12_riskNow_74 (by decide) ?_
                  refine tI (y := bI true) rfl ?_
                  refine lv_goto (tgt := 79) S.1 S.2.1 dX12_riskNow_75 (by decide) ?_
                  refine lv_istore_n (lv' := [(3, .int (bI true)), (0, .ref (q 33)), (1, .int (nI su)), (2, .int (nI pa)), (4, .int (nI j))]) S.1 S.2.1 dX12_riskNow_79 rfl hl (by decide) rfl (fun ls hl => ?_)
                  refine lv_iinc (v := nI (j + 1)) (lv' := [(4, .int (nI (j + 1))), (3, .int (bI true)), (0, .ref (q 33)), (1, .int (nI su)), (2, .int (nI pa))]) S.1 S.2.1 dX12_riskNow_80 hl (k := 4) rfl (nI_1 _) (by decide) rfl (fun ls hl => ?_)
                  refine lv_goto (tgt := 30) S.1 S.2.1 dX12_riskNow_83 (by decide) ?_
                  exact ih_30 (j + 1) true (by omega) (by omega) (by rw [usF, ← hu]; simp [c_40]) _ _ _ I (lv_sub hl [2, 3, 4, 1, 0] rfl)
                · skip
                  have c_40 := bI_f c_40
                  refine lv_aload_n S.1 S.2.1 dX12_riskNow_43 rfl (lv_at hl 0 rfl) ?_
                  refine rg (ci := 12) (q0 := 0) (v := .ref (q 8)) 8 S hK I cl_X12 rfl wf_X12_29 (by decide) rfl rfl rfl dX12_riskNow_44 ?_
                  refine lv_iload S.1 S.2.1 dX12_riskNow_47 (lv_at hl 4 rfl) ?_
                  have hwb := (hH j (by omega)).2.1
                  have hkb := (hH j (by omega)).2.2.2.1
                  refine ri (q0 := 7) (n := 12) (f := R 8) j S hK I rfl rfl (by omega) (by decide) dX12_riskNow_49 ?_
                  refine tI (y := nI (wh R j)) (hH j (by omega)).1 ?_
                  refine lv_iload_n S.1 S.2.1 dX12_riskNow_50 rfl (lv_at hl 2 rfl) ?_
                  refine lv_icmp_ne (tgt := 78) S.1 S.2.1 dX12_riskNow_51 (by decide) (fun c_51 => ?_) (fun c_51 => ?_)
                  · skip
                    have c_51o := c_51
                    have c_51 := nI_cneT (by omega) (by omega) c_51
                    refine lv_iconst (v := nI 0) S.1 S.2.1 dX12_riskNow_78 (by decide) ?_
                    refine tI (y := bI false) rfl ?_
                    refine lv_istore_n (lv' := [(3, .int (bI false)), (0, .ref (q 33)), (1, .int (nI su)), (2, .int (nI pa)), (4, .int (nI j))]) S.1 S.2.1 dX12_riskNow_79 rfl hl (by decide) rfl (fun ls hl => ?_)
                    refine lv_iinc (v := nI (j + 1)) (lv' := [(4, .int (nI (j + 1))), (3, .int (bI false)), (0, .ref (q 33)), (1, .int (nI su)), (2, .int (nI pa))]) S.1 S.2.1 dX12_riskNow_80 hl (k := 4) rfl (nI_1 _) (by decide) rfl (fun ls hl => ?_)
                    refine lv_goto (tgt := 30) S.1 S.2.1 dX12_riskNow_83 (by decide) ?_
                    exact ih_30 (j + 1) false (by omega) (by omega) (by rw [usF, ← hu]; simp [c_40, c_51]) _ _ _ I (lv_sub hl [2, 3, 4, 1, 0] rfl)
                  · skip
                    have c_51o := c_51
                    have c_51 := nI_cneF (by omega) (by omega) c_51
                    refine lv_aload_n S.1 S.2.1 dX12_riskNow_54 rfl (lv_at hl 0 rfl) ?_
                    refine rg (ci := 12) (q0 := 0) (v := .ref (q 7)) 7 S hK I cl_X12 rfl wf_X12_26 (by decide) rfl rfl rfl dX12_riskNow_55 ?_
                    refine lv_iload S.1 S.2.1 dX12_riskNow_58 (lv_at hl 4 rfl) ?_
                    refine ri (q0 := 6) (n := 12) (f := R 7) j S hK I rfl rfl (by omega) (by decide) dX12_riskNow_60 ?_
                    refine tI (y := nI (kd R j)) (hH j (by omega)).2.2.1 ?_
                    refine lv_iconst (v := nI 3) S.1 S.2.1 dX12_riskNow_61 (by decide) ?_
                    refine lv_icmp_ne (tgt := 78) S.1 S.2.1 dX12_riskNow_62 (by decide) (fun c_62 => ?_) (fun c_62 => ?_)
                    · skip
                      have c_62o := c_62
                      have c_62 := nI_cneT (by omega) (by omega) c_62
                      refine lv_iconst (v := nI 0) S.1 S.2.1 dX12_riskNow_78 (by decide) ?_
                      refine tI (y := bI false) rfl ?_
                      refine lv_istore_n (lv' := [(3, .int (bI false)), (0, .ref (q 33)), (1, .int (nI su)), (2, .int (nI pa)), (4, .int (nI j))]) S.1 S.2.1 dX12_riskNow_79 rfl hl (by decide) rfl (fun ls hl => ?_)
                      refine lv_iinc (v := nI (j + 1)) (lv' := [(4, .int (nI (j + 1))), (3, .int (bI false)), (0, .ref (q 33)), (1, .int (nI su)), (2, .int (nI pa))]) S.1 S.2.1 dX12_riskNow_80 hl (k := 4) rfl (nI_1 _) (by decide) rfl (fun ls hl => ?_)
                      refine lv_goto (tgt := 30) S.1 S.2.1 dX12_riskNow_83 (by decide) ?_
                      exact ih_30 (j + 1) false (by omega) (by omega) (by rw [usF, ← hu]; simp [c_40, c_51, c_62]) _ _ _ I (lv_sub hl [2, 3, 4, 1, 0] rfl)
                    · skip
                      have c_62o := c_62
                      have c_62 := nI_cneF (by omega) (by omega) c_62
                      refine lv_aload_n S.1 S.2.1 dX12_riskNow_65 rfl (lv_at hl 0 rfl) ?_
                      refine lv_iload S.1 S.2.1 dX12_riskNow_66 (lv_at hl 4 rfl) ?_
                      refine cV (np := 1) (ci := 12) (q0 := 0) (As := [.int (nI j)]) (rest := []) S (c_stands l D cy q N R (va_up (va_up (va_up X 14 a14_1) 15 a15_1) 16 a16_1) j hW (by omega)) hK hA I wm_X12_126 wi_X12_stands ws_X12_X12_stands wn_X12 wk_X12_stands ⟨rfl, hd_X12_stands⟩ rfl ⟨by decide, by decide⟩ rfl rfl hl.1 rfl (Nat.le_of_ble_eq_true rfl) dX12_riskNow_68 ⟨by decide, by decide⟩ (fun v_ u_ H locs h_ I => ?_)
                      obtain rfl := h_
                      have I : IX D A s.heap (wM cy q N R (va_up (va_up (va_up X 14 a14_1) 15 a15_1) 16 a16_1)) H locs := I
                      refine W.eq (g2 := F0 m 71 ls [.int (bI (stB R (X 13) j))]) rfl ?_
                      refine lv_if_eq (tgt := 78) S.1 S.2.1 dX12_riskNow_71 (by decide) (fun c_71 => ?_) (fun c_71 => ?_)
                      · skip
                        have c_71 := bI_f c_71
                        refine lv_iconst (v := nI 0) S.1 S.2.1 dX12_riskNow_78 (by decide) ?_
                        refine tI (y := bI false) rfl ?_
                        refine lv_istore_n (lv' := [(3, .int (bI false)), (0, .ref (q 33)), (1, .int (nI su)), (2, .int (nI pa)), (4, .int (nI j))]) S.1 S.2.1 dX12_riskNow_79 rfl hl (by decide) rfl (fun ls hl => ?_)
                        refine lv_iinc (v := nI (j + 1)) (lv' := [(4, .int (nI (j + 1))), (3, .int (bI false)), (0, .ref (q 33)), (1, .int (nI su)), (2, .int (nI pa))]) S.1 S.2.1 dX12_riskNow_80 hl (k := 4) rfl (nI_1 _) (by decide) rfl (fun ls hl => ?_)
                        refine lv_goto (tgt := 30) S.1 S.2.1 dX12_riskNow_83 (by decide) ?_
                        exact ih_30 (j + 1) false (by omega) (by omega) (by rw [usF, ← hu]; simp [c_40, c_51, c_62, c_71]) _ _ _ I (lv_sub hl [2, 3, 4, 1, 0] rfl)
                      · skip
                        have c_71 := bI_t c_71
                        refine lv_iconst (v := nI 1) S.1 S.2.1 dX12_riskNow_74 (by decide) ?_
                        refine tI (y := bI true) rfl ?_
                        refine lv_goto (tgt := 79) S.1 S.2.1 dX12_riskNow_75 (by decide) ?_
                        refine lv_istore_n (lv' := [(3, .int (bI true)), (0, .ref (q 33)), (1, .int (nI su)), (2, .int (nI pa)), (4, .int (nI j))]) S.1 S.2.1 dX12_riskNow_79 rfl hl (by decide) rfl (fun ls hl => ?_)
                        refine lv_iinc (v := nI (j + 1)) (lv' := [(4, .int (nI (j + 1))), (3, .int (bI true)), (0, .ref (q 33)), (1, .int (nI su)), (2, .int (nI pa))]) S.1 S.2.1 dX12_riskNow_80 hl (k := 4) rfl (nI_1 _) (by decide) rfl (fun ls hl => ?_)
                        refine lv_goto (tgt := 30) S.1 S.2.1 dX12_riskNow_83 (by decide) ?_
                        exact ih_30 (j + 1) true (by omega) (by omega) (by rw [usF, ← hu]; simp [c_40, c_51, c_62, c_71]) _ _ _ I (lv_sub hl [2, 3, 4, 1, 0] rfl)
          exact loop_30 _ 0 false (Nat.lt_succ_self _) (Nat.zero_le _) rfl _ _ _ I (lv_sub hl [2, 3, 4, 1, 0] rfl)
  exact loop_8 _ 0 0 (Nat.lt_succ_self _) (Nat.zero_le _) rfl _ _ _ I (lv_sub hl [2, 1, 0] rfl)
set_option maxHeartbeats 4000000 in
set_option maxRecDepth 100000 in
theorem c_riskOf (l : Launch) (D : va_G) (cy : Nat → ClassId) (q : Nat → Nat) (N : Nat → Nat) (R X : Nat → Nat → Int32) (d : Nat) (hW : WFm N R) (hd : d < 2147483648) : MS (α := (Nat → Int32) × (Nat → Int32) × (Nat → Int32) × (Nat → Int32)) l D cy yX12_riskOf cX12_riskOf 2 (Option.some FieldType.int) rm_X12_riskOf [.ref (q 33), .int (nI d)] (wM cy q N R X) (fun v_ u_ => v_ = some (.int (nI (rsk N R (vtF R d (N 17))))) ∧ (∀ p, p < N 0 → u_.1 p = vtF R d (N 17) p) ∧ RowS N R (vtF R d (N 17)) (eS N R (vtF R d (N 17))) u_.2.1 u_.2.2.1 u_.2.2.2) (fun u_ => wM cy q N R (va_up (va_up (va_up (va_up X 13 u_.1) 14 u_.2.1) 15 u_.2.2.1) 16 u_.2.2.2)) := by
  refine MS.mk2 (by decide) (Nat.le_of_ble_eq_true rfl) [(0, .ref (q 33)), (1, .int (nI d))] rfl ?_
  intro p e s m args below meth c A ls Q hQ S hr hlk hnm hK hA I hl
  have hW0 := hW
  obtain ⟨hB, hPt, hBo, hH, hM, hQu⟩ := hW0
  have hB0 := hB
  obtain ⟨b0, b6, b17, b24, b30⟩ := hB0
  refine lv_aload_n S.1 S.2.1 dX12_riskOf_0 rfl (lv_at hl 0 rfl) ?_
  refine lv_iload_n S.1 S.2.1 dX12_riskOf_1 rfl (lv_at hl 1 rfl) ?_
  refine cV (np := 1) (ci := 12) (q0 := 0) (As := [.int (nI d)]) (rest := []) S (c_takeVersions l D cy q N R X d hW hd) hK hA I wm_X12_140 wi_X12_takeVersions ws_X12_X12_takeVersions wn_X12 wk_X12_takeVersions ⟨rfl, hd_X12_takeVersions⟩ rfl ⟨by decide, by decide⟩ rfl rfl hl.1 rfl (Nat.le_of_ble_eq_true rfl) dX12_riskOf_2 ⟨by decide, by decide⟩ (fun v_ u_ H locs h_ I => ?_)
  obtain ⟨rfl, hnw_2⟩ := h_
  generalize u_ = nw_2 at hnw_2 I
  have hnw_2 : ∀ p, p < N 0 → nw_2 p = vtF R d (N 17) p := hnw_2
  have I : IX D A s.heap (wM cy q N R (va_up X 13 nw_2)) H locs := I
  refine W.eq (g2 := F0 m 5 ls []) rfl ?_
  refine lv_aload_n S.1 S.2.1 dX12_riskOf_5 rfl (lv_at hl 0 rfl) ?_
  refine cV (np := 0) (ci := 12) (q0 := 0) (As := []) (rest := []) S (c_riskNow l D cy q N R (va_up X 13 nw_2) hW) hK hA I wm_X12_144 wi_X12_riskNow ws_X12_X12_riskNow wn_X12 wk_X12_riskNow ⟨rfl, hd_X12_riskNow⟩ rfl ⟨by decide, by decide⟩ rfl rfl hl.1 rfl (Nat.le_of_ble_eq_true rfl) dX12_riskOf_6 ⟨by decide, by decide⟩ (fun v_ u_ H locs h_ I => ?_)
  obtain ⟨rfl, hr_6⟩ := h_
  obtain ⟨a14_6, a15_6, a16_6⟩ := u_
  have hr_6 : RowS N R nw_2 (eS N R nw_2) a14_6 a15_6 a16_6 := hr_6
  have I : IX D A s.heap (wM cy q N R (va_up (va_up (va_up (va_up X 13 nw_2) 14 a14_6) 15 a15_6) 16 a16_6)) H locs := I
  refine W.eq (g2 := F0 m 9 ls [.int (nI (rsk N R nw_2))]) rfl ?_
  exact ru_i hQ S hr hlk (u := (nw_2, a14_6, a15_6, a16_6)) I (⟨by rw [rsk_cg hH hnw_2], hnw_2, RowS_cg hH hnw_2 (by rw [eS, ← stF_cg hH hnw_2]; exact hr_6)⟩) dX12_riskOf_9
end
section
theorem vt0 (R : Nat → Nat → Int32) : ∀ n, vtF R 0 n = R 1 := by
  intro n
  induction n with
  | zero => rfl
  | succ n ih => rw [vtF, if_neg (by simp), ih]
theorem or256 {d m : Nat} (hd : d < 256) (hm : m < 8) : d ||| 2 ^ m < 256 := Nat.or_lt_two_pow (n := 8) hd (Nat.pow_lt_pow_right (by decide) hm)
/-- the number of a set of parts -/
def msk (b : Nat → Bool) : Nat → Nat
  | 0 => 0
  | n + 1 => msk b n ||| (if b n = true then 2 ^ n else 0)
theorem msk_lt (b : Nat → Bool) : ∀ n, msk b n < 2 ^ n := by
  intro n
  induction n with
  | zero => exact Nat.one_pos
  | succ n ih =>
    rw [msk]
    refine Nat.or_lt_two_pow (Nat.lt_trans ih (Nat.pow_lt_pow_right (by decide) (Nat.lt_succ_self n))) ?_
    split
    · exact Nat.pow_lt_pow_right (by decide) (Nat.lt_succ_self n)
    · exact Nat.two_pow_pos _
theorem msk_cg {b b2 : Nat → Bool} : ∀ {n : Nat}, (∀ k, k < n → b k = b2 k) → msk b n = msk b2 n := by
  intro n
  induction n with
  | zero => intro _; rfl
  | succ n ih => intro h; rw [msk, msk, ih (fun k hk => h k (by omega)), h n (by omega)]
/-- promise 10 -/
def sp_told (N : Nat → Nat) (R : Nat → Nat → Int32) (h w : Int32) : Int32 :=
  if isP (N 6) h = true then
    if w = 0 then R 7 h.toNatClampNeg else if w = 1 then R 8 h.toNatClampNeg else if w = 2 then R 9 h.toNatClampNeg else if w = 3 then R 10 h.toNatClampNeg else if w = 4 then bI (stB R (R 1) h.toNatClampNeg) else -1
  else -1
/-- promise 11 -/
def sp_risk (N : Nat → Nat) (R : Nat → Nat → Int32) : Int32 := nI (rsk N R (R 1))
/-- promise 12 -/
def sp_taken (N : Nat → Nat) (R : Nat → Nat → Int32) : Int32 := nI (msk (tkN (eS N R (R 1))) (N 0))
/-- promise 13 -/
def sp_way (N : Nat → Nat) (R : Nat → Nat → Int32) (x w : Int32) : Int32 :=
  if isP (N 0) x = true ∧ inB w (nI 0) (nI 2) = true then
    if eS N R (R 1) x.toNatClampNeg = 0 then -4
    else if w = 0 then nI (eS N R (R 1) x.toNatClampNeg)
    else if w = nI 1 then nI (nwH N R (R 1) (tkN (stF N R (R 1) (eS N R (R 1) x.toNatClampNeg - 1))) x.toNatClampNeg)
    else fmI N R (tkN (stF N R (R 1) (eS N R (R 1) x.toNatClampNeg - 1))) x.toNatClampNeg
  else -1
/-- promise 14 -/
def gR (R : Nat → Nat → Int32) (p : Nat) : Nat → Nat → Int32 := va_up R 4 (upd (R 4) p (nI 1))
def bgF (N : Nat → Nat) (R : Nat → Nat → Int32) : Nat → Int32 × Nat
  | 0 => (-4, rsk N R (R 1))
  | p + 1 => if R 4 p = 0 ∧ rsk N (gR R p) (R 1) < (bgF N R p).2 then (nI p, rsk N (gR R p) (R 1)) else bgF N R p
def sp_bestGuard (N : Nat → Nat) (R : Nat → Nat → Int32) : Int32 := (bgF N R (N 0)).1
theorem va_upI (R : Nat → Nat → Int32) (k : Nat) : va_up R k (R k) = R := by
  funext j
  unfold va_up
  by_cases e : j = k
  · rw [if_pos e, e]
  · rw [if_neg e]
theorem gd_back {R : Nat → Nat → Int32} {p : Nat} (h : R 4 p = 0) : va_up R 4 (upd (upd (R 4) p (nI 1)) p (nI 0)) = R := by
  rw [fa_upd_twice, fa_upd_same (show R 4 p = nI 0 from h), va_upI]
theorem WFm_g {N : Nat → Nat} {R : Nat → Nat → Int32} {p : Nat} (h : WFm N R) : WFm N (gR R p) := by
  refine ⟨h.1, h.2.1, fun i => ?_, h.2.2.2⟩
  obtain ⟨a, b, c, d⟩ := h.2.2.1 i
  refine ⟨a, ?_, c, d⟩
  show upd (R 4) p (nI 1) i = 0 ∨ upd (R 4) p (nI 1) i = 1
  by_cases e : i = p
  · rw [e, pk_us]; exact Or.inr rfl
  · rw [pk_un e]; exact b
/-- promise 15 -/
def sp_mend (N : Nat → Nat) (R : Nat → Nat → Int32) (x v hn nd f la : Int32) : Int32 × SR :=
  if isP (N 0) x = true ∧ isV v = true ∧ inB hn (nI 1) (nI 9) = true ∧ inB nd (-1) (nI (N 17) - nI 1) = true ∧ inB f (nI 0) la = true ∧ la ≤ nI 5 then
    if N 17 = 8 then (-3, N, R) else (nI (N 17), va_up N 17 (N 17 + 1), va_up (va_up (va_up (va_up (va_up (va_up R 18 (upd (R 18) (N 17) x)) 19 (upd (R 19) (N 17) v)) 20 (upd (R 20) (N 17) hn)) 21 (upd (R 21) (N 17) nd)) 22 (upd (R 22) (N 17) f)) 23 (upd (R 23) (N 17) la))
  else (-1, N, R)
/-- promise 16 -/
def sp_quarrel (N : Nat → Nat) (R : Nat → Nat → Int32) (x v y w : Int32) : Int32 × SR :=
  if isP (N 0) x = true ∧ isP (N 0) y = true ∧ ¬ x = y ∧ isV v = true ∧ isV w = true then
    if N 24 = 8 then (-3, N, R) else (nI (N 24 + 1), va_up N 24 (N 24 + 1), va_up R 25 (upd (upd (upd (upd (R 25) (4 * N 24) x) (4 * N 24 + 1) v) (4 * N 24 + 2) y) (4 * N 24 + 3) w))
  else (-1, N, R)
/-- whether a quarrel holds, with the versions g -/
def quF (R : Nat → Nat → Int32) (g : Nat → Int32) : Nat → Bool
  | 0 => false
  | n + 1 => quF R g n || (decide (g (qa R n) = R 25 (4 * n + 1)) && decide (g (qb R n) = R 25 (4 * n + 3)))
theorem quF_cg {N : Nat → Nat} {R : Nat → Nat → Int32} (hQ : WQu N R) {g g2 : Nat → Int32} (hg : ∀ p, p < N 0 → g p = g2 p) : ∀ n, n ≤ N 24 → quF R g n = quF R g2 n := by
  intro n
  induction n with
  | zero => intro _; rfl
  | succ n ih =>
    intro hn
    rw [quF, quF, ih (by omega), hg _ (hQ n (by omega)).1.2, hg _ (hQ n (by omega)).2.2]
/-- whether every mend of the set has its need in it -/
def neF (R : Nat → Nat → Int32) (d : Nat) : Nat → Bool
  | 0 => true
  | n + 1 => neF R d n && (!(d.testBit n) || (decide (R 21 n < 0) || d.testBit (mn R n)))
def soB (N : Nat → Nat) (R : Nat → Nat → Int32) (d : Nat) : Bool := neF R d (N 17) && !(quF R (vtF R d (N 17)) (N 24))
theorem neF_false {R : Nat → Nat → Int32} {d : Nat} : ∀ {n i : Nat}, i < n → (!(d.testBit i) || (decide (R 21 i < 0) || d.testBit (mn R i))) = false → neF R d n = false := by
  intro n
  induction n with
  | zero => intro i h; exact absurd h (Nat.not_lt_zero i)
  | succ n ih =>
    intro i hi h
    rw [neF]
    by_cases e : i = n
    · rw [← e, h, Bool.and_false]
    · rw [ih (by omega) h, Bool.false_and]
theorem need_of {R : Nat → Nat → Int32} {m : Nat} (h : R 21 m = -1 ∨ (R 21 m = nI (mn R m) ∧ mn R m < m)) (h2 : ¬ R 21 m < 0) : R 21 m = nI (mn R m) ∧ mn R m < m := by
  rcases h with h | h
  · rw [h] at h2; exact absurd (by decide) h2
  · exact h
/-- promise 17 -/
def sp_riskWith (N : Nat → Nat) (R : Nat → Nat → Int32) (x : Int32) : Int32 := if isP (2 ^ N 17) x = true then nI (rsk N R (vtF R x.toNatClampNeg (N 17))) else -1
/-- promise 18 -/
def sp_sound (N : Nat → Nat) (R : Nat → Nat → Int32) (x : Int32) : Int32 := if isP (2 ^ N 17) x = true then bI (soB N R x.toNatClampNeg) else -1
/-- promise 19 -/
def sp_gain (N : Nat → Nat) (R : Nat → Nat → Int32) (x y : Int32) : Int32 :=
  if isP (N 17) x = true ∧ isP (2 ^ N 17) y = true ∧ y.toNatClampNeg.testBit x.toNatClampNeg = false then nI (rsk N R (vtF R y.toNatClampNeg (N 17))) - nI (rsk N R (vtF R (y.toNatClampNeg ||| 2 ^ x.toNatClampNeg) (N 17))) else -100001
/-- promise 20 -/
def nxV (N : Nat → Nat) (R : Nat → Nat → Int32) (d k : Nat) : Int32 := nI (rsk N R (vtF R d (N 17))) - nI (rsk N R (vtF R (d ||| 2 ^ k) (N 17)))
def nxF (N : Nat → Nat) (R : Nat → Nat → Int32) (d : Nat) : Nat → Int32 × Int32
  | 0 => (-4, nI 0)
  | k + 1 => if d.testBit k = false ∧ soB N R (d ||| 2 ^ k) = true ∧ ¬ nxV N R d k ≤ 0 ∧ ((nxF N R d k).1 = -4 ∨ ¬ nxV N R d k * R 20 (nxF N R d k).1.toNatClampNeg ≤ (nxF N R d k).2 * R 20 k) then (nI k, nxV N R d k) else nxF N R d k
def sp_next (N : Nat → Nat) (R : Nat → Nat → Int32) (x : Int32) : Int32 := if isP (2 ^ N 17) x = true then (nxF N R x.toNatClampNeg (N 17)).1 else -1
end
section
set_option maxHeartbeats 4000000 in
set_option maxRecDepth 100000 in
theorem c_told (l : Launch) (D : va_G) (cy : Nat → ClassId) (q : Nat → Nat) (N : Nat → Nat) (R X : Nat → Nat → Int32) (h w : Int32) (hW : WFm N R) : MS (α := (Nat → Nat → Int32)) l D cy yX12_told cX12_told 3 (Option.some FieldType.int) rm_X12_told [.ref (q 33), .int h, .int w] (wM cy q N R X) (fun v_ (_ : (Nat → Nat → Int32)) => v_ = some (.int (sp_told N R h w))) (fun u_ => wM cy q N R u_) := by
  refine MS.mk2 (by decide) (Nat.le_of_ble_eq_true rfl) [(0, .ref (q 33)), (1, .int h), (2, .int w)] rfl ?_
  intro p e s m args below meth c A ls Q hQ S hr hlk hnm hK hA I hl
  have hW0 := hW
  obtain ⟨hB, hPt, hBo, hH, hM, hQu⟩ := hW0
  have hB0 := hB
  obtain ⟨b0, b6, b17, b24, b30⟩ := hB0
  refine lv_aload_n S.1 S.2.1 dX12_told_0 rfl (lv_at hl 0 rfl) ?_
  refine lv_iload_n S.1 S.2.1 dX12_told_1 rfl (lv_at hl 1 rfl) ?_
  refine cV (np := 1) (ci := 12) (q0 := 0) (As := [.int h]) (rest := []) S (c_isHole l D cy q N R X (h) hB) hK hA I wm_X12_120 wi_X12_isHole ws_X12_X12_isHole wn_X12 wk_X12_isHole ⟨rfl, hd_X12_isHole⟩ rfl ⟨by decide, by decide⟩ rfl rfl hl.1 rfl (Nat.le_of_ble_eq_true rfl) dX12_told_2 ⟨by decide, by decide⟩ (fun v_ u_ H locs h_ I => ?_)
  obtain rfl := h_
  have I : IX D A s.heap (wM cy q N R X) H locs := I
  refine W.eq (g2 := F0 m 5 ls [.int (bI (isP (N 6) h))]) rfl ?_
  refine lv_if_ne (tgt := 10) S.1 S.2.1 dX12_told_5 (by decide) (fun c_5 => ?_) (fun c_5 => ?_)
  · skip
    have c_5 := bI_t c_5
    obtain ⟨j, h_j, rfl⟩ := isP_of c_5 (by omega)
    have e_j : (nI j).toNatClampNeg = j := nI_clamp (by omega)
    refine lv_aload_n S.1 S.2.1 dX12_told_10 rfl (lv_at hl 0 rfl) ?_
    refine lv_iconst (v := nI 0) S.1 S.2.1 dX12_told_11 (by decide) ?_
    refine cV (np := 1) (ci := 12) (q0 := 0) (As := [.int (nI 0)]) (rest := []) S (c_takeVersions l D cy q N R X 0 hW (by omega)) hK hA I wm_X12_140 wi_X12_takeVersions ws_X12_X12_takeVersions wn_X12 wk_X12_takeVersions ⟨rfl, hd_X12_takeVersions⟩ rfl ⟨by decide, by decide⟩ rfl rfl hl.1 rfl (Nat.le_of_ble_eq_true rfl) dX12_told_12 ⟨by decide, by decide⟩ (fun v_ u_ H locs h_ I => ?_)
    obtain ⟨rfl, hnw_12⟩ := h_
    generalize u_ = nw_12 at hnw_12 I
    have hnw_12 : ∀ p, p < N 0 → nw_12 p = vtF R 0 (N 17) p := hnw_12
    have I : IX D A s.heap (wM cy q N R (va_up X 13 nw_12)) H locs := I
    refine W.eq (g2 := F0 m 15 ls []) rfl ?_
    refine lv_iload_n S.1 S.2.1 dX12_told_15 rfl (lv_at hl 2 rfl) ?_
    rcases sw_5 w with hsw | hsw | hsw | hsw | hsw | hsw
    · skip
      refine lv_tableIn (off := 36) (tgt := 52) S.1 S.2.1 dX12_told_16 (by rw [hsw]; decide) (by rw [hsw]; decide) (by rw [hsw]; rfl) (by decide) ?_
      refine lv_aload_n S.1 S.2.1 dX12_told_52 rfl (lv_at hl 0 rfl) ?_
      refine rg (ci := 12) (q0 := 0) (v := .ref (q 7)) 7 S hK I cl_X12 rfl wf_X12_26 (by decide) rfl rfl rfl dX12_told_53 ?_
      refine lv_iload_n S.1 S.2.1 dX12_told_56 rfl (lv_at hl 1 rfl) ?_
      refine ri (q0 := 6) (n := 12) (f := R 7) j S hK I rfl rfl (by omega) (by decide) dX12_told_57 ?_
      exact ru_i hQ S hr hlk (u := (va_up X 13 nw_12)) I (by simp [sp_told, c_5, e_j, hsw, bI, nI_one, nI_zero]) dX12_told_58
    · skip
      refine lv_tableIn (off := 43) (tgt := 59) S.1 S.2.1 dX12_told_16 (by rw [hsw]; decide) (by rw [hsw]; decide) (by rw [hsw]; rfl) (by decide) ?_
      refine lv_aload_n S.1 S.2.1 dX12_told_59 rfl (lv_at hl 0 rfl) ?_
      refine rg (ci := 12) (q0 := 0) (v := .ref (q 8)) 8 S hK I cl_X12 rfl wf_X12_29 (by decide) rfl rfl rfl dX12_told_60 ?_
      refine lv_iload_n S.1 S.2.1 dX12_told_63 rfl (lv_at hl 1 rfl) ?_
      refine ri (q0 := 7) (n := 12) (f := R 8) j S hK I rfl rfl (by omega) (by decide) dX12_told_64 ?_
      exact ru_i hQ S hr hlk (u := (va_up X 13 nw_12)) I (by simp [sp_told, c_5, e_j, hsw, bI, nI_one, nI_zero]) dX12_told_65
    · skip
      refine lv_tableIn (off := 50) (tgt := 66) S.1 S.2.1 dX12_told_16 (by rw [hsw]; decide) (by rw [hsw]; decide) (by rw [hsw]; rfl) (by decide) ?_
      refine lv_aload_n S.1 S.2.1 dX12_told_66 rfl (lv_at hl 0 rfl) ?_
      refine rg (ci := 12) (q0 := 0) (v := .ref (q 9)) 9 S hK I cl_X12 rfl wf_X12_32 (by decide) rfl rfl rfl dX12_told_67 ?_
      refine lv_iload_n S.1 S.2.1 dX12_told_70 rfl (lv_at hl 1 rfl) ?_
      refine ri (q0 := 8) (n := 12) (f := R 9) j S hK I rfl rfl (by omega) (by decide) dX12_told_71 ?_
      exact ru_i hQ S hr hlk (u := (va_up X 13 nw_12)) I (by simp [sp_told, c_5, e_j, hsw, bI, nI_one, nI_zero]) dX12_told_72
    · skip
      refine lv_tableIn (off := 57) (tgt := 73) S.1 S.2.1 dX12_told_16 (by rw [hsw]; decide) (by rw [hsw]; decide) (by rw [hsw]; rfl) (by decide) ?_
      refine lv_aload_n S.1 S.2.1 dX12_told_73 rfl (lv_at hl 0 rfl) ?_
      refine rg (ci := 12) (q0 := 0) (v := .ref (q 10)) 10 S hK I cl_X12 rfl wf_X12_35 (by decide) rfl rfl rfl dX12_told_74 ?_
      refine lv_iload_n S.1 S.2.1 dX12_told_77 rfl (lv_at hl 1 rfl) ?_
      refine ri (q0 := 9) (n := 12) (f := R 10) j S hK I rfl rfl (by omega) (by decide) dX12_told_78 ?_
      exact ru_i hQ S hr hlk (u := (va_up X 13 nw_12)) I (by simp [sp_told, c_5, e_j, hsw, bI, nI_one, nI_zero]) dX12_told_79
    · skip
      refine lv_tableIn (off := 64) (tgt := 80) S.1 S.2.1 dX12_told_16 (by rw [hsw]; decide) (by rw [hsw]; decide) (by rw [hsw]; rfl) (by decide) ?_
      refine lv_aload_n S.1 S.2.1 dX12_told_80 rfl (lv_at hl 0 rfl) ?_
      refine lv_iload_n S.1 S.2.1 dX12_told_81 rfl (lv_at hl 1 rfl) ?_
      refine cV (np := 1) (ci := 12) (q0 := 0) (As := [.int (nI j)]) (rest := []) S (c_stands l D cy q N R (va_up X 13 nw_12) j hW (by omega)) hK hA I wm_X12_126 wi_X12_stands ws_X12_X12_stands wn_X12 wk_X12_stands ⟨rfl, hd_X12_stands⟩ rfl ⟨by decide, by decide⟩ rfl rfl hl.1 rfl (Nat.le_of_ble_eq_true rfl) dX12_told_82 ⟨by decide, by decide⟩ (fun v_ u_ H locs h_ I => ?_)
      obtain rfl := h_
      have I : IX D A s.heap (wM cy q N R (va_up X 13 nw_12)) H locs := I
      refine W.eq (g2 := F0 m 85 ls [.int (bI (stB R nw_12 j))]) rfl ?_
      refine tI (y := bI (stB R (R 1) j)) (congrArg bI ((stB_cg hH hnw_12 (by omega)).trans (by rw [vt0]))) ?_
      refine lv_if_eq (tgt := 92) S.1 S.2.1 dX12_told_85 (by decide) (fun c_85 => ?_) (fun c_85 => ?_)
      · skip
        have c_85 := bI_f c_85
        refine lv_iconst (v := nI 0) S.1 S.2.1 dX12_told_92 (by decide) ?_
        exact ru_i hQ S hr hlk (u := (va_up X 13 nw_12)) I (by simp [sp_told, c_5, e_j, hsw, c_85, bI, nI_one, nI_zero]) dX12_told_93
      · skip
        have c_85 := bI_t c_85
        refine lv_iconst (v := nI 1) S.1 S.2.1 dX12_told_88 (by decide) ?_
        refine lv_goto (tgt := 93) S.1 S.2.1 dX12_told_89 (by decide) ?_
        exact ru_i hQ S hr hlk (u := (va_up X 13 nw_12)) I (by simp [sp_told, c_5, e_j, hsw, c_85, bI, nI_one, nI_zero]) dX12_told_93
    · skip
      refine lv_tableOut (tgt := 94) S.1 S.2.1 dX12_told_16 hsw.2 (by decide) ?_
      refine lv_iconst (v := (-1)) S.1 S.2.1 dX12_told_94 (by decide) ?_
      exact ru_i hQ S hr hlk (u := (va_up X 13 nw_12)) I (by simp [sp_told, c_5, e_j, hsw.1.1, hsw.1.2, bI, nI_one, nI_zero]) dX12_told_95
  · skip
    have c_5 := bI_f c_5
    refine lv_iconst (v := (-1)) S.1 S.2.1 dX12_told_8 (by decide) ?_
    exact ru_i hQ S hr hlk (u := X) I (by simp [sp_told, c_5, bI, nI_one, nI_zero]) dX12_told_9
set_option maxHeartbeats 4000000 in
set_option maxRecDepth 100000 in
theorem c_risk (l : Launch) (D : va_G) (cy : Nat → ClassId) (q : Nat → Nat) (N : Nat → Nat) (R X : Nat → Nat → Int32) (hW : WFm N R) : MS (α := (Nat → Nat → Int32)) l D cy yX12_risk cX12_risk 1 (Option.some FieldType.int) rm_X12_risk [.ref (q 33)] (wM cy q N R X) (fun v_ (_ : (Nat → Nat → Int32)) => v_ = some (.int (sp_risk N R))) (fun u_ => wM cy q N R u_) := by
  refine MS.mk2 (by decide) (Nat.le_of_ble_eq_true rfl) [(0, .ref (q 33))] rfl ?_
  intro p e s m args below meth c A ls Q hQ S hr hlk hnm hK hA I hl
  have hW0 := hW
  obtain ⟨hB, hPt, hBo, hH, hM, hQu⟩ := hW0
  have hB0 := hB
  obtain ⟨b0, b6, b17, b24, b30⟩ := hB0
  refine lv_aload_n S.1 S.2.1 dX12_risk_0 rfl (lv_at hl 0 rfl) ?_
  refine lv_iconst (v := nI 0) S.1 S.2.1 dX12_risk_1 (by decide) ?_
  refine cV (np := 1) (ci := 12) (q0 := 0) (As := [.int (nI 0)]) (rest := []) S (c_riskOf l D cy q N R X 0 hW (by omega)) hK hA I wm_X12_148 wi_X12_riskOf ws_X12_X12_riskOf wn_X12 wk_X12_riskOf ⟨rfl, hd_X12_riskOf⟩ rfl ⟨by decide, by decide⟩ rfl rfl hl.1 rfl (Nat.le_of_ble_eq_true rfl) dX12_risk_2 ⟨by decide, by decide⟩ (fun v_ u_ H locs h_ I => ?_)
  obtain ⟨rfl, hv_2, hr_2⟩ := h_
  obtain ⟨a13_2, a14_2, a15_2, a16_2⟩ := u_
  have hr_2 : RowS N R (vtF R 0 (N 17)) (eS N R (vtF R 0 (N 17))) a14_2 a15_2 a16_2 := hr_2
  have I : IX D A s.heap (wM cy q N R (va_up (va_up (va_up (va_up X 13 a13_2) 14 a14_2) 15 a15_2) 16 a16_2)) H locs := I
  refine W.eq (g2 := F0 m 5 ls [.int (nI (rsk N R (vtF R 0 (N 17))))]) rfl ?_
  refine tI (y := nI (rsk N R (R 1))) (by rw [vt0]) ?_
  exact ru_i hQ S hr hlk (u := (va_up (va_up (va_up (va_up X 13 a13_2) 14 a14_2) 15 a15_2) 16 a16_2)) I rfl dX12_risk_5
set_option maxHeartbeats 4000000 in
set_option maxRecDepth 100000 in
theorem c_taken (l : Launch) (D : va_G) (cy : Nat → ClassId) (q : Nat → Nat) (N : Nat → Nat) (R X : Nat → Nat → Int32) (hW : WFm N R) : MS (α := (Nat → Nat → Int32)) l D cy yX12_taken cX12_taken 4 (Option.some FieldType.int) rm_X12_taken [.ref (q 33)] (wM cy q N R X) (fun v_ (_ : (Nat → Nat → Int32)) => v_ = some (.int (sp_taken N R))) (fun u_ => wM cy q N R u_) := by
  refine MS.mk2 (by decide) (Nat.le_of_ble_eq_true rfl) [(0, .ref (q 33))] rfl ?_
  intro p e s m args below meth c A ls Q hQ S hr hlk hnm hK hA I hl
  have hW0 := hW
  obtain ⟨hB, hPt, hBo, hH, hM, hQu⟩ := hW0
  have hB0 := hB
  obtain ⟨b0, b6, b17, b24, b30⟩ := hB0
  refine lv_aload_n S.1 S.2.1 dX12_taken_0 rfl (lv_at hl 0 rfl) ?_
  refine lv_iconst (v := nI 0) S.1 S.2.1 dX12_taken_1 (by decide) ?_
  refine cV (np := 1) (ci := 12) (q0 := 0) (As := [.int (nI 0)]) (rest := []) S (c_riskOf l D cy q N R X 0 hW (by omega)) hK hA I wm_X12_148 wi_X12_riskOf ws_X12_X12_riskOf wn_X12 wk_X12_riskOf ⟨rfl, hd_X12_riskOf⟩ rfl ⟨by decide, by decide⟩ rfl rfl hl.1 rfl (Nat.le_of_ble_eq_true rfl) dX12_taken_2 ⟨by decide, by decide⟩ (fun v_ u_ H locs h_ I => ?_)
  obtain ⟨rfl, hv_2, hr_2⟩ := h_
  obtain ⟨a13_2, a14_2, a15_2, a16_2⟩ := u_
  have hr_2 : RowS N R (vtF R 0 (N 17)) (eS N R (vtF R 0 (N 17))) a14_2 a15_2 a16_2 := hr_2
  have I : IX D A s.heap (wM cy q N R (va_up (va_up (va_up (va_up X 13 a13_2) 14 a14_2) 15 a15_2) 16 a16_2)) H locs := I
  refine W.eq (g2 := F0 m 5 ls [.int (nI (rsk N R (vtF R 0 (N 17))))]) rfl ?_
  refine tI (y := nI (rsk N R (R 1))) (by rw [vt0]) ?_
  refine lv_istore_n (lv' := [(1, .int (nI (rsk N R (R 1)))), (0, .ref (q 33))]) S.1 S.2.1 dX12_taken_5 rfl hl (by decide) rfl (fun ls hl => ?_)
  refine lv_iconst (v := nI 0) S.1 S.2.1 dX12_taken_6 (by decide) ?_
  refine lv_istore_n (lv' := [(2, .int (nI 0)), (1, .int (nI (rsk N R (R 1)))), (0, .ref (q 33))]) S.1 S.2.1 dX12_taken_7 rfl hl (by decide) rfl (fun ls hl => ?_)
  refine lv_iconst (v := nI 0) S.1 S.2.1 dX12_taken_8 (by decide) ?_
  refine lv_istore_n (lv' := [(3, .int (nI 0)), (2, .int (nI 0)), (1, .int (nI (rsk N R (R 1)))), (0, .ref (q 33))]) S.1 S.2.1 dX12_taken_9 rfl hl (by decide) rfl (fun ls hl => ?_)
  have loop_10 : ∀ (k_ : Nat) (pa : Nat) (bi : Nat), N 0 - pa < k_ → pa ≤ N 0 → bi = msk (tkN (eS N R (R 1))) pa → ∀ (H : Heap) (locs : List Loc) (ls : Array Slot), IX D A s.heap (wM cy q N R (va_up (va_up (va_up (va_up X 13 a13_2) 14 a14_2) 15 a15_2) 16 a16_2)) H locs → lv_has ls 4 [(0, .ref (q 33)), (2, .int (nI bi)), (3, .int (nI pa))] → W p l e rm_X12_taken s m args below meth c H locs 0 0 Q (F0 m 10 ls []) := by
    intro k_
    induction k_ with
    | zero => intro pa bi hm_; exact absurd hm_ (Nat.not_lt_zero _)
    | succ k_ ih_10 =>
      intro pa bi hm_ hpa hb H locs ls I hl
      refine lv_iload_n S.1 S.2.1 dX12_taken_10 rfl (lv_at hl 2 rfl) ?_
      refine lv_aload_n S.1 S.2.1 dX12_taken_11 rfl (lv_at hl 0 rfl) ?_
      refine rg (ci := 12) (q0 := 0) (v := .int (nI (N 0))) 0 S hK I cl_X12 rfl wf_X12_95 (by decide) rfl rfl rfl dX12_taken_12 ?_
      refine lv_icmp_ge (tgt := 43) S.1 S.2.1 dX12_taken_15 (by decide) (fun c_15 => ?_) (fun c_15 => ?_)
      · skip
        have c_15o := c_15
        have c_15 := nI_cgeT (by omega) (by omega) c_15
        refine lv_iload_n S.1 S.2.1 dX12_taken_43 rfl (lv_at hl 1 rfl) ?_
        exact ru_i hQ S hr hlk (u := (va_up (va_up (va_up (va_up X 13 a13_2) 14 a14_2) 15 a15_2) 16 a16_2)) I (congrArg (fun z => some (Value.int z)) (by rw [hb, show pa = N 0 by omega]; rfl)) dX12_taken_44
      · skip
        have c_15o := c_15
        have c_15 := nI_cgeF (by omega) (by omega) c_15
        refine lv_iload_n S.1 S.2.1 dX12_taken_18 rfl (lv_at hl 1 rfl) ?_
        refine lv_aload_n S.1 S.2.1 dX12_taken_19 rfl (lv_at hl 0 rfl) ?_
        refine rg (ci := 12) (q0 := 0) (v := .ref (q 14)) 14 S hK I cl_X12 rfl wf_X12_47 (by decide) rfl rfl rfl dX12_taken_20 ?_
        refine lv_iload_n S.1 S.2.1 dX12_taken_23 rfl (lv_at hl 2 rfl) ?_
        have hsle : eS N R (R 1) pa ≤ 8 := stF_le N R (R 1) 8 pa
        refine ri (q0 := 13) (n := 8) (f := a14_2) pa S hK I rfl rfl (by omega) (by decide) dX12_taken_24 ?_
        refine tI (y := nI (eS N R (R 1) pa)) ((hr_2 pa (by omega)).1.trans (by rw [vt0])) ?_
        refine lv_if_le (tgt := 34) S.1 S.2.1 dX12_taken_25 (by decide) (fun c_25 => ?_) (fun c_25 => ?_)
        · skip
          have c_25o := c_25
          have c_25 := nI_zleT (by omega) c_25
          refine lv_iconst (v := nI 0) S.1 S.2.1 dX12_taken_34 (by decide) ?_
          refine lv_ior S.1 S.2.1 dX12_taken_35 ?_
          refine tI (y := nI (bi ||| 0)) (fa_or _ _) ?_
          refine lv_istore_n (lv' := [(2, .int (nI (bi ||| 0))), (0, .ref (q 33)), (3, .int (nI pa))]) S.1 S.2.1 dX12_taken_36 rfl hl (by decide) rfl (fun ls hl => ?_)
          refine lv_iinc (v := nI (pa + 1)) (lv' := [(3, .int (nI (pa + 1))), (2, .int (nI (bi ||| 0))), (0, .ref (q 33))]) S.1 S.2.1 dX12_taken_37 hl (k := 2) rfl (nI_1 _) (by decide) rfl (fun ls hl => ?_)
          refine lv_goto (tgt := 10) S.1 S.2.1 dX12_taken_40 (by decide) ?_
          exact ih_10 (pa + 1) (bi ||| 0) (by omega) (by omega) (by rw [msk, ← hb, tkN, decide_eq_false (by omega), if_neg Bool.false_ne_true]) _ _ _ I (lv_sub hl [2, 1, 0] rfl)
        · skip
          have c_25o := c_25
          have c_25 := nI_zleF (by omega) c_25
          refine lv_iconst (v := nI 1) S.1 S.2.1 dX12_taken_28 (by decide) ?_
          refine lv_iload_n S.1 S.2.1 dX12_taken_29 rfl (lv_at hl 2 rfl) ?_
          refine lv_ishl S.1 S.2.1 dX12_taken_30 ?_
          refine tI (y := nI (2 ^ pa)) (bitS (by omega)) ?_
          refine lv_goto (tgt := 35) S.1 S.2.1 dX12_taken_31 (by decide) ?_
          refine lv_ior S.1 S.2.1 dX12_taken_35 ?_
          refine tI (y := nI (bi ||| (2 ^ pa))) (fa_or _ _) ?_
          refine lv_istore_n (lv' := [(2, .int (nI (bi ||| (2 ^ pa)))), (0, .ref (q 33)), (3, .int (nI pa))]) S.1 S.2.1 dX12_taken_36 rfl hl (by decide) rfl (fun ls hl => ?_)
          refine lv_iinc (v := nI (pa + 1)) (lv' := [(3, .int (nI (pa + 1))), (2, .int (nI (bi ||| (2 ^ pa)))), (0, .ref (q 33))]) S.1 S.2.1 dX12_taken_37 hl (k := 2) rfl (nI_1 _) (by decide) rfl (fun ls hl => ?_)
          refine lv_goto (tgt := 10) S.1 S.2.1 dX12_taken_40 (by decide) ?_
          exact ih_10 (pa + 1) (bi ||| (2 ^ pa)) (by omega) (by omega) (by rw [msk, ← hb, tkN, decide_eq_true c_25, if_pos rfl]) _ _ _ I (lv_sub hl [2, 1, 0] rfl)
  exact loop_10 _ 0 0 (Nat.lt_succ_self _) (Nat.zero_le _) rfl _ _ _ I (lv_sub hl [3, 1, 0] rfl)
set_option maxHeartbeats 4000000 in
set_option maxRecDepth 100000 in
theorem c_way (l : Launch) (D : va_G) (cy : Nat → ClassId) (q : Nat → Nat) (N : Nat → Nat) (R X : Nat → Nat → Int32) (x w : Int32) (hW : WFm N R) : MS (α := (Nat → Nat → Int32)) l D cy yX12_way cX12_way 4 (Option.some FieldType.int) rm_X12_way [.ref (q 33), .int x, .int w] (wM cy q N R X) (fun v_ (_ : (Nat → Nat → Int32)) => v_ = some (.int (sp_way N R x w))) (fun u_ => wM cy q N R u_) := by
  refine MS.mk2 (by decide) (Nat.le_of_ble_eq_true rfl) [(0, .ref (q 33)), (1, .int x), (2, .int w)] rfl ?_
  intro p e s m args below meth c A ls Q hQ S hr hlk hnm hK hA I hl
  have hW0 := hW
  obtain ⟨hB, hPt, hBo, hH, hM, hQu⟩ := hW0
  have hB0 := hB
  obtain ⟨b0, b6, b17, b24, b30⟩ := hB0
  refine lv_aload_n S.1 S.2.1 dX12_way_0 rfl (lv_at hl 0 rfl) ?_
  refine lv_iload_n S.1 S.2.1 dX12_way_1 rfl (lv_at hl 1 rfl) ?_
  refine cV (np := 1) (ci := 12) (q0 := 0) (As := [.int x]) (rest := []) S (c_isPart l D cy q N R X (x) hB) hK hA I wm_X12_107 wi_X12_isPart ws_X12_X12_isPart wn_X12 wk_X12_isPart ⟨rfl, hd_X12_isPart⟩ rfl ⟨by decide, by decide⟩ rfl rfl hl.1 rfl (Nat.le_of_ble_eq_true rfl) dX12_way_2 ⟨by decide, by decide⟩ (fun v_ u_ H locs h_ I => ?_)
  obtain rfl := h_
  have I : IX D A s.heap (wM cy q N R X) H locs := I
  refine W.eq (g2 := F0 m 5 ls [.int (bI (isP (N 0) x))]) rfl ?_
  refine lv_if_eq (tgt := 17) S.1 S.2.1 dX12_way_5 (by decide) (fun c_5 => ?_) (fun c_5 => ?_)
  · skip
    have c_5 := bI_f c_5
    refine lv_iconst (v := (-1)) S.1 S.2.1 dX12_way_17 (by decide) ?_
    exact ru_i hQ S hr hlk (u := X) I (by simp [sp_way, c_5]) dX12_way_18
  · skip
    have c_5 := bI_t c_5
    obtain ⟨j, h_j, rfl⟩ := isP_of c_5 (by omega)
    have e_j : (nI j).toNatClampNeg = j := nI_clamp (by omega)
    refine lv_iload_n S.1 S.2.1 dX12_way_8 rfl (lv_at hl 2 rfl) ?_
    refine lv_iconst (v := nI 0) S.1 S.2.1 dX12_way_9 (by decide) ?_
    refine lv_iconst (v := nI 2) S.1 S.2.1 dX12_way_10 (by decide) ?_
    refine cS (np := 3) (As := [.int w, .int (nI 0), .int (nI 2)]) (rest := []) S (c_in l D cy (wM cy q N R X) w (nI 0) (nI 2)) hK hA I wm_X12_99 wt_X12_in wn_X12 wk_X12_in ⟨rfl, hd_X12_in⟩ rfl ⟨by decide, by decide⟩ hl.1 rfl (Nat.le_of_ble_eq_true rfl) dX12_way_11 ⟨by decide, by decide⟩ (fun v_ u_ H locs h_ I => ?_)
    obtain rfl := h_
    have I : IX D A s.heap (wM cy q N R X) H locs := I
    refine W.eq (g2 := F0 m 14 ls [.int (bI (inB w (nI 0) (nI 2)))]) rfl ?_
    refine lv_if_ne (tgt := 19) S.1 S.2.1 dX12_way_14 (by decide) (fun c_14 => ?_) (fun c_14 => ?_)
    · skip
      have c_14 := bI_t c_14
      refine lv_aload_n S.1 S.2.1 dX12_way_19 rfl (lv_at hl 0 rfl) ?_
      refine lv_iconst (v := nI 0) S.1 S.2.1 dX12_way_20 (by decide) ?_
      refine cV (np := 1) (ci := 12) (q0 := 0) (As := [.int (nI 0)]) (rest := []) S (c_riskOf l D cy q N R X 0 hW (by omega)) hK hA I wm_X12_148 wi_X12_riskOf ws_X12_X12_riskOf wn_X12 wk_X12_riskOf ⟨rfl, hd_X12_riskOf⟩ rfl ⟨by decide, by decide⟩ rfl rfl hl.1 rfl (Nat.le_of_ble_eq_true rfl) dX12_way_21 ⟨by decide, by decide⟩ (fun v_ u_ H locs h_ I => ?_)
      obtain ⟨rfl, hv_21, hr_21⟩ := h_
      obtain ⟨a13_21, a14_21, a15_21, a16_21⟩ := u_
      have hr_21 : RowS N R (vtF R 0 (N 17)) (eS N R (vtF R 0 (N 17))) a14_21 a15_21 a16_21 := hr_21
      have I : IX D A s.heap (wM cy q N R (va_up (va_up (va_up (va_up X 13 a13_21) 14 a14_21) 15 a15_21) 16 a16_21)) H locs := I
      refine W.eq (g2 := F0 m 24 ls [.int (nI (rsk N R (vtF R 0 (N 17))))]) rfl ?_
      refine tI (y := nI (rsk N R (R 1))) (by rw [vt0]) ?_
      refine lv_istore_n (lv' := [(3, .int (nI (rsk N R (R 1)))), (0, .ref (q 33)), (1, .int (nI j)), (2, .int w)]) S.1 S.2.1 dX12_way_24 rfl hl (by decide) rfl (fun ls hl => ?_)
      have hr0 : RowS N R (R 1) (eS N R (R 1)) a14_21 a15_21 a16_21 := by have h9 := hr_21; rw [vt0] at h9; exact h9
      have hsle : eS N R (R 1) j ≤ 8 := stF_le N R (R 1) 8 j
      refine lv_aload_n S.1 S.2.1 dX12_way_25 rfl (lv_at hl 1 rfl) ?_
      refine rg (ci := 12) (q0 := 0) (v := .ref (q 14)) 14 S hK I cl_X12 rfl wf_X12_47 (by decide) rfl rfl rfl dX12_way_26 ?_
      refine lv_iload_n S.1 S.2.1 dX12_way_29 rfl (lv_at hl 2 rfl) ?_
      refine ri (q0 := 13) (n := 8) (f := a14_21) j S hK I rfl rfl (by omega) (by decide) dX12_way_30 ?_
      refine tI (y := nI (eS N R (R 1) j)) ((hr0 j (by omega)).1) ?_
      refine lv_if_ne (tgt := 37) S.1 S.2.1 dX12_way_31 (by decide) (fun c_31 => ?_) (fun c_31 => ?_)
      · skip
        have c_31o := c_31
        have c_31 := nI_zneT (by omega) c_31
        refine lv_iload_n S.1 S.2.1 dX12_way_37 rfl (lv_at hl 3 rfl) ?_
        refine lv_if_ne (tgt := 50) S.1 S.2.1 dX12_way_38 (by decide) (fun c_38 => ?_) (fun c_38 => ?_)
        · skip
          refine lv_iload_n S.1 S.2.1 dX12_way_50 rfl (lv_at hl 3 rfl) ?_
          refine lv_iconst (v := nI 1) S.1 S.2.1 dX12_way_51 (by decide) ?_
          refine lv_icmp_ne (tgt := 64) S.1 S.2.1 dX12_way_52 (by decide) (fun c_52 => ?_) (fun c_52 => ?_)
          · skip
            refine lv_aload_n S.1 S.2.1 dX12_way_64 rfl (lv_at hl 1 rfl) ?_
            refine rg (ci := 12) (q0 := 0) (v := .ref (q 16)) 16 S hK I cl_X12 rfl wf_X12_53 (by decide) rfl rfl rfl dX12_way_65 ?_
            refine lv_iload_n S.1 S.2.1 dX12_way_68 rfl (lv_at hl 2 rfl) ?_
            refine ri (q0 := 15) (n := 8) (f := a16_21) j S hK I rfl rfl (by omega) (by decide) dX12_way_69 ?_
            refine tI (y := fmI N R (tkN (stF N R (R 1) (eS N R (R 1) j - 1))) j) (((hr0 j (by omega)).2 (by omega)).2) ?_
            exact ru_i hQ S hr hlk (u := (va_up (va_up (va_up (va_up X 13 a13_21) 14 a14_21) 15 a15_21) 16 a16_21)) I (congrArg (fun z => some (Value.int z)) (by rw [sp_way, if_pos ⟨c_5, c_14⟩, e_j, if_neg c_31, if_neg c_38, if_neg c_52])) dX12_way_70
          · skip
            refine lv_aload_n S.1 S.2.1 dX12_way_55 rfl (lv_at hl 1 rfl) ?_
            refine rg (ci := 12) (q0 := 0) (v := .ref (q 15)) 15 S hK I cl_X12 rfl wf_X12_50 (by decide) rfl rfl rfl dX12_way_56 ?_
            refine lv_iload_n S.1 S.2.1 dX12_way_59 rfl (lv_at hl 2 rfl) ?_
            refine ri (q0 := 14) (n := 8) (f := a15_21) j S hK I rfl rfl (by omega) (by decide) dX12_way_60 ?_
            refine tI (y := nI (nwH N R (R 1) (tkN (stF N R (R 1) (eS N R (R 1) j - 1))) j)) (((hr0 j (by omega)).2 (by omega)).1) ?_
            refine lv_goto (tgt := 70) S.1 S.2.1 dX12_way_61 (by decide) ?_
            exact ru_i hQ S hr hlk (u := (va_up (va_up (va_up (va_up X 13 a13_21) 14 a14_21) 15 a15_21) 16 a16_21)) I (congrArg (fun z => some (Value.int z)) (by rw [sp_way, if_pos ⟨c_5, c_14⟩, e_j, if_neg c_31, if_neg c_38, if_pos c_52])) dX12_way_70
        · skip
          refine lv_aload_n S.1 S.2.1 dX12_way_41 rfl (lv_at hl 1 rfl) ?_
          refine rg (ci := 12) (q0 := 0) (v := .ref (q 14)) 14 S hK I cl_X12 rfl wf_X12_47 (by decide) rfl rfl rfl dX12_way_42 ?_
          refine lv_iload_n S.1 S.2.1 dX12_way_45 rfl (lv_at hl 2 rfl) ?_
          refine ri (q0 := 13) (n := 8) (f := a14_21) j S hK I rfl rfl (by omega) (by decide) dX12_way_46 ?_
          refine tI (y := nI (eS N R (R 1) j)) ((hr0 j (by omega)).1) ?_
          refine lv_goto (tgt := 70) S.1 S.2.1 dX12_way_47 (by decide) ?_
          exact ru_i hQ S hr hlk (u := (va_up (va_up (va_up (va_up X 13 a13_21) 14 a14_21) 15 a15_21) 16 a16_21)) I (congrArg (fun z => some (Value.int z)) (by rw [sp_way, if_pos ⟨c_5, c_14⟩, e_j, if_neg c_31, if_pos c_38])) dX12_way_70
      · skip
        have c_31o := c_31
        have c_31 := nI_zneF (by omega) c_31
        refine lv_bipush (v := (-4)) S.1 S.2.1 dX12_way_34 (by decide) ?_
        exact ru_i hQ S hr hlk (u := (va_up (va_up (va_up (va_up X 13 a13_21) 14 a14_21) 15 a15_21) 16 a16_21)) I (by simp [sp_way, c_5, e_j, c_14, c_31o, c_31]) dX12_way_36
    · skip
      have c_14 := bI_f c_14
      refine lv_iconst (v := (-1)) S.1 S.2.1 dX12_way_17 (by decide) ?_
      exact ru_i hQ S hr hlk (u := X) I (by simp [sp_way, c_5, e_j, c_14]) dX12_way_18
set_option maxHeartbeats 4000000 in
set_option maxRecDepth 100000 in
theorem c_bestGuard (l : Launch) (D : va_G) (cy : Nat → ClassId) (q : Nat → Nat) (N : Nat → Nat) (R X : Nat → Nat → Int32) (hW : WFm N R) : MS (α := (Nat → Nat → Int32)) l D cy yX12_bestGuard cX12_bestGuard 5 (Option.some FieldType.int) rm_X12_bestGuard [.ref (q 33)] (wM cy q N R X) (fun v_ (_ : (Nat → Nat → Int32)) => v_ = some (.int (sp_bestGuard N R))) (fun u_ => wM cy q N R u_) := by
  refine MS.mk2 (by decide) (Nat.le_of_ble_eq_true rfl) [(0, .ref (q 33))] rfl ?_
  intro p e s m args below meth c A ls Q hQ S hr hlk hnm hK hA I hl
  have hW0 := hW
  obtain ⟨hB, hPt, hBo, hH, hM, hQu⟩ := hW0
  have hB0 := hB
  obtain ⟨b0, b6, b17, b24, b30⟩ := hB0
  refine lv_bipush (v := (-4)) S.1 S.2.1 dX12_bestGuard_0 (by decide) ?_
  refine lv_istore_n (lv' := [(1, .int (-4)), (0, .ref (q 33))]) S.1 S.2.1 dX12_bestGuard_2 rfl hl (by decide) rfl (fun ls hl => ?_)
  refine lv_aload_n S.1 S.2.1 dX12_bestGuard_3 rfl (lv_at hl 1 rfl) ?_
  refine lv_iconst (v := nI 0) S.1 S.2.1 dX12_bestGuard_4 (by decide) ?_
  refine cV (np := 1) (ci := 12) (q0 := 0) (As := [.int (nI 0)]) (rest := []) S (c_riskOf l D cy q N R X 0 hW (by omega)) hK hA I wm_X12_148 wi_X12_riskOf ws_X12_X12_riskOf wn_X12 wk_X12_riskOf ⟨rfl, hd_X12_riskOf⟩ rfl ⟨by decide, by decide⟩ rfl rfl hl.1 rfl (Nat.le_of_ble_eq_true rfl) dX12_bestGuard_5 ⟨by decide, by decide⟩ (fun v_ u_ H locs h_ I => ?_)
  obtain ⟨rfl, hv_5, hr_5⟩ := h_
  obtain ⟨a13_5, a14_5, a15_5, a16_5⟩ := u_
  have hr_5 : RowS N R (vtF R 0 (N 17)) (eS N R (vtF R 0 (N 17))) a14_5 a15_5 a16_5 := hr_5
  have I : IX D A s.heap (wM cy q N R (va_up (va_up (va_up (va_up X 13 a13_5) 14 a14_5) 15 a15_5) 16 a16_5)) H locs := I
  refine W.eq (g2 := F0 m 8 ls [.int (nI (rsk N R (vtF R 0 (N 17))))]) rfl ?_
  refine tI (y := nI (rsk N R (R 1))) (by rw [vt0]) ?_
  refine lv_istore_n (lv' := [(2, .int (nI (rsk N R (R 1)))), (1, .int (-4)), (0, .ref (q 33))]) S.1 S.2.1 dX12_bestGuard_8 rfl hl (by decide) rfl (fun ls hl => ?_)
  refine lv_iconst (v := nI 0) S.1 S.2.1 dX12_bestGuard_9 (by decide) ?_
  refine lv_istore_n (lv' := [(3, .int (nI 0)), (2, .int (nI (rsk N R (R 1)))), (1, .int (-4)), (0, .ref (q 33))]) S.1 S.2.1 dX12_bestGuard_10 rfl hl (by decide) rfl (fun ls hl => ?_)
  have loop_11 : ∀ (k_ : Nat) (pa : Nat) (be : Int32) (le : Nat) (z13 : Nat → Int32) (z14 : Nat → Int32) (z15 : Nat → Int32) (z16 : Nat → Int32), N 0 - pa < k_ → pa ≤ N 0 → (be, le) = bgF N R pa → le ≤ 16000 → ∀ (H : Heap) (locs : List Loc) (ls : Array Slot), IX D A s.heap (wM cy q N R (va_up (va_up (va_up (va_up X 13 z13) 14 z14) 15 z15) 16 z16)) H locs → lv_has ls 5 [(0, .ref (q 33)), (1, .int be), (2, .int (nI le)), (3, .int (nI pa))] → W p l e rm_X12_bestGuard s m args below meth c H locs 0 0 Q (F0 m 11 ls []) := by
    intro k_
    induction k_ with
    | zero => intro pa be le z13 z14 z15 z16 hm_; exact absurd hm_ (Nat.not_lt_zero _)
    | succ k_ ih_11 =>
      intro pa be le z13 z14 z15 z16 hm_ hpa hbl hle H locs ls I hl
      refine lv_iload_n S.1 S.2.1 dX12_bestGuard_11 rfl (lv_at hl 3 rfl) ?_
      refine lv_aload_n S.1 S.2.1 dX12_bestGuard_12 rfl (lv_at hl 0 rfl) ?_
      refine rg (ci := 12) (q0 := 0) (v := .int (nI (N 0))) 0 S hK I cl_X12 rfl wf_X12_95 (by decide) rfl rfl rfl dX12_bestGuard_13 ?_
      refine lv_icmp_ge (tgt := 66) S.1 S.2.1 dX12_bestGuard_16 (by decide) (fun c_16 => ?_) (fun c_16 => ?_)
      · skip
        have c_16o := c_16
        have c_16 := nI_cgeT (by omega) (by omega) c_16
        refine lv_iload_n S.1 S.2.1 dX12_bestGuard_66 rfl (lv_at hl 1 rfl) ?_
        exact ru_i hQ S hr hlk (u := (va_up (va_up (va_up (va_up X 13 z13) 14 z14) 15 z15) 16 z16)) I (congrArg (fun z => some (Value.int z)) (by rw [sp_bestGuard, show N 0 = pa by omega, ← hbl])) dX12_bestGuard_67
      · skip
        have c_16o := c_16
        have c_16 := nI_cgeF (by omega) (by omega) c_16
        refine lv_aload_n S.1 S.2.1 dX12_bestGuard_19 rfl (lv_at hl 0 rfl) ?_
        refine rg (ci := 12) (q0 := 0) (v := .ref (q 4)) 4 S hK I cl_X12 rfl wf_X12_20 (by decide) rfl rfl rfl dX12_bestGuard_20 ?_
        refine lv_iload_n S.1 S.2.1 dX12_bestGuard_23 rfl (lv_at hl 3 rfl) ?_
        refine rz (q0 := 4) (n := 8) (f := R 4) pa S hK I rfl rfl (by omega) (by decide) dX12_bestGuard_24 ?_
        refine lv_if_ne (tgt := 60) S.1 S.2.1 dX12_bestGuard_25 (by decide) (fun c_25 => ?_) (fun c_25 => ?_)
        · skip
          refine lv_iinc (v := nI (pa + 1)) (lv' := [(3, .int (nI (pa + 1))), (0, .ref (q 33)), (1, .int be), (2, .int (nI le))]) S.1 S.2.1 dX12_bestGuard_60 hl (k := 3) rfl (nI_1 _) (by decide) rfl (fun ls hl => ?_)
          refine lv_goto (tgt := 11) S.1 S.2.1 dX12_bestGuard_63 (by decide) ?_
          exact ih_11 (pa + 1) be le z13 z14 z15 z16 (by omega) (by omega) (by rw [bgF, ← hbl, if_neg (fun h => c_25 h.1)]) hle _ _ _ I (lv_sub hl [1, 2, 3, 0] rfl)
        · skip
          refine lv_aload_n S.1 S.2.1 dX12_bestGuard_28 rfl (lv_at hl 0 rfl) ?_
          refine rg (ci := 12) (q0 := 0) (v := .ref (q 4)) 4 S hK I cl_X12 rfl wf_X12_20 (by decide) rfl rfl rfl dX12_bestGuard_29 ?_
          refine lv_iload_n S.1 S.2.1 dX12_bestGuard_32 rfl (lv_at hl 3 rfl) ?_
          refine lv_iconst (v := nI 1) S.1 S.2.1 dX12_bestGuard_33 (by decide) ?_
          refine sz (q0 := 4) (n := 8) (f := R 4) pa S hK I rfl rfl (by omega) (by decide) (by decide) dX12_bestGuard_34 (fun H locs I => ?_)
          have I : IX D A s.heap (wM cy q N (va_up R 4 (upd (R 4) pa (nI 1))) (va_up (va_up (va_up (va_up X 13 z13) 14 z14) 15 z15) 16 z16)) H locs := I
          refine lv_aload_n S.1 S.2.1 dX12_bestGuard_35 rfl (lv_at hl 0 rfl) ?_
          refine lv_iconst (v := nI 0) S.1 S.2.1 dX12_bestGuard_36 (by decide) ?_
          refine cV (np := 1) (ci := 12) (q0 := 0) (As := [.int (nI 0)]) (rest := []) S (c_riskOf l D cy q N (va_up R 4 (upd (R 4) pa (nI 1))) (va_up (va_up (va_up (va_up X 13 z13) 14 z14) 15 z15) 16 z16) 0 (WFm_g hW) (by omega)) hK hA I wm_X12_148 wi_X12_riskOf ws_X12_X12_riskOf wn_X12 wk_X12_riskOf ⟨rfl, hd_X12_riskOf⟩ rfl ⟨by decide, by decide⟩ rfl rfl hl.1 rfl (Nat.le_of_ble_eq_true rfl) dX12_bestGuard_37 ⟨by decide, by decide⟩ (fun v_ u_ H locs h_ I => ?_)
          obtain ⟨rfl, hv_37, hr_37⟩ := h_
          obtain ⟨a13_37, a14_37, a15_37, a16_37⟩ := u_
          have hr_37 : RowS N (va_up R 4 (upd (R 4) pa (nI 1))) (vtF (va_up R 4 (upd (R 4) pa (nI 1))) 0 (N 17)) (eS N (va_up R 4 (upd (R 4) pa (nI 1))) (vtF (va_up R 4 (upd (R 4) pa (nI 1))) 0 (N 17))) a14_37 a15_37 a16_37 := hr_37
          have I : IX D A s.heap (wM cy q N (va_up R 4 (upd (R 4) pa (nI 1))) (va_up (va_up (va_up (va_up X 13 a13_37) 14 a14_37) 15 a15_37) 16 a16_37)) H locs := I
          refine W.eq (g2 := F0 m 40 ls [.int (nI (rsk N (va_up R 4 (upd (R 4) pa (nI 1))) (vtF (va_up R 4 (upd (R 4) pa (nI 1))) 0 (N 17))))]) rfl ?_
          refine tI (y := nI (rsk N (gR R pa) (R 1))) (by rw [vt0]; rfl) ?_
          refine lv_istore (lv' := [(4, .int (nI (rsk N (gR R pa) (R 1)))), (0, .ref (q 33)), (1, .int be), (2, .int (nI le)), (3, .int (nI pa))]) S.1 S.2.1 dX12_bestGuard_40 hl (by decide) rfl (fun ls hl => ?_)
          have hv1 : rsk N (gR R pa) (R 1) ≤ 16000 := rsk_le (WFm_g (p := pa) hW).2.1 hB
          refine lv_aload_n S.1 S.2.1 dX12_bestGuard_42 rfl (lv_at hl 1 rfl) ?_
          refine rg (ci := 12) (q0 := 0) (v := .ref (q 4)) 4 S hK I cl_X12 rfl wf_X12_20 (by decide) rfl rfl rfl dX12_bestGuard_43 ?_
          refine lv_iload_n S.1 S.2.1 dX12_bestGuard_46 rfl (lv_at hl 4 rfl) ?_
          refine lv_iconst (v := nI 0) S.1 S.2.1 dX12_bestGuard_47 (by decide) ?_
          refine sz (q0 := 4) (n := 8) (f := upd (R 4) pa (nI 1)) pa S hK I rfl rfl (by omega) (by decide) (by decide) dX12_bestGuard_48 (fun H locs I => ?_)
          have I : IX D A s.heap (wM cy q N (va_up R 4 (upd (upd (R 4) pa (nI 1)) pa (nI 0))) (va_up (va_up (va_up (va_up X 13 a13_37) 14 a14_37) 15 a15_37) 16 a16_37)) H locs := I
          rw [gd_back c_25] at I
          refine lv_iload S.1 S.2.1 dX12_bestGuard_49 (lv_at hl 0 rfl) ?_
          refine lv_iload_n S.1 S.2.1 dX12_bestGuard_51 rfl (lv_at hl 3 rfl) ?_
          refine lv_icmp_ge (tgt := 60) S.1 S.2.1 dX12_bestGuard_52 (by decide) (fun c_52 => ?_) (fun c_52 => ?_)
          · skip
            have c_52o := c_52
            have c_52 := nI_cgeT (by omega) (by omega) c_52
            refine lv_iinc (v := nI (pa + 1)) (lv' := [(3, .int (nI (pa + 1))), (4, .int (nI (rsk N (gR R pa) (R 1)))), (0, .ref (q 33)), (1, .int be), (2, .int (nI le))]) S.1 S.2.1 dX12_bestGuard_60 hl (k := 4) rfl (nI_1 _) (by decide) rfl (fun ls hl => ?_)
            refine lv_goto (tgt := 11) S.1 S.2.1 dX12_bestGuard_63 (by decide) ?_
            exact ih_11 (pa + 1) be le a13_37 a14_37 a15_37 a16_37 (by omega) (by omega) (by rw [bgF, ← hbl, if_neg (fun h => by have := h.2; omega)]) hle _ _ _ I (lv_sub hl [2, 3, 4, 0] rfl)
          · skip
            have c_52o := c_52
            have c_52 := nI_cgeF (by omega) (by omega) c_52
            refine lv_iload S.1 S.2.1 dX12_bestGuard_55 (lv_at hl 0 rfl) ?_
            refine lv_istore_n (lv' := [(2, .int (nI (rsk N (gR R pa) (R 1)))), (4, .int (nI (rsk N (gR R pa) (R 1)))), (0, .ref (q 33)), (1, .int be), (3, .int (nI pa))]) S.1 S.2.1 dX12_bestGuard_57 rfl hl (by decide) rfl (fun ls hl => ?_)
            refine lv_iload_n S.1 S.2.1 dX12_bestGuard_58 rfl (lv_at hl 4 rfl) ?_
            refine lv_istore_n (lv' := [(1, .int (nI pa)), (2, .int (nI (rsk N (gR R pa) (R 1)))), (4, .int (nI (rsk N (gR R pa) (R 1)))), (0, .ref (q 33)), (3, .int (nI pa))]) S.1 S.2.1 dX12_bestGuard_59 rfl hl (by decide) rfl (fun ls hl => ?_)
            refine lv_iinc (v := nI (pa + 1)) (lv' := [(3, .int (nI (pa + 1))), (1, .int (nI pa)), (2, .int (nI (rsk N (gR R pa) (R 1)))), (4, .int (nI (rsk N (gR R pa) (R 1)))), (0, .ref (q 33))]) S.1 S.2.1 dX12_bestGuard_60 hl (k := 4) rfl (nI_1 _) (by decide) rfl (fun ls hl => ?_)
            refine lv_goto (tgt := 11) S.1 S.2.1 dX12_bestGuard_63 (by decide) ?_
            exact ih_11 (pa + 1) (nI pa) (rsk N (gR R pa) (R 1)) a13_37 a14_37 a15_37 a16_37 (by omega) (by omega) (by rw [bgF, ← hbl, if_pos ⟨c_25, by omega⟩]) hv1 _ _ _ I (lv_sub hl [4, 1, 2, 0] rfl)
  exact loop_11 _ 0 (-4) (rsk N R (R 1)) a13_5 a14_5 a15_5 a16_5 (Nat.lt_succ_self _) (Nat.zero_le _) rfl (rsk_le hPt hB) _ _ _ I (lv_sub hl [3, 2, 1, 0] rfl)
set_option maxHeartbeats 4000000 in
set_option maxRecDepth 100000 in
theorem c_mend (l : Launch) (D : va_G) (cy : Nat → ClassId) (q : Nat → Nat) (N : Nat → Nat) (R X : Nat → Nat → Int32) (x v hn nd f la : Int32) (hB : Bd N) : MS (α := SR) l D cy yX12_mend cX12_mend 7 (Option.some FieldType.int) rm_X12_mend [.ref (q 33), .int x, .int v, .int hn, .int nd, .int f, .int la] (wM cy q N R X) (fun v_ u_ => v_ = some (.int (sp_mend N R x v hn nd f la).1) ∧ u_ = (sp_mend N R x v hn nd f la).2) (fun u_ => wM cy q u_.1 u_.2 X) := by
  refine MS.mk2 (by decide) (Nat.le_of_ble_eq_true rfl) [(0, .ref (q 33)), (1, .int x), (2, .int v), (3, .int hn), (4, .int nd), (5, .int f), (6, .int la)] rfl ?_
  intro p e s m args below meth c A ls Q hQ S hr hlk hnm hK hA I hl
  have hB0 := hB
  obtain ⟨b0, b6, b17, b24, b30⟩ := hB0
  refine lv_aload_n S.1 S.2.1 dX12_mend_0 rfl (lv_at hl 0 rfl) ?_
  refine lv_iload_n S.1 S.2.1 dX12_mend_1 rfl (lv_at hl 1 rfl) ?_
  refine cV (np := 1) (ci := 12) (q0 := 0) (As := [.int x]) (rest := []) S (c_isPart l D cy q N R X (x) hB) hK hA I wm_X12_107 wi_X12_isPart ws_X12_X12_isPart wn_X12 wk_X12_isPart ⟨rfl, hd_X12_isPart⟩ rfl ⟨by decide, by decide⟩ rfl rfl hl.1 rfl (Nat.le_of_ble_eq_true rfl) dX12_mend_2 ⟨by decide, by decide⟩ (fun v_ u_ H locs h_ I => ?_)
  obtain rfl := h_
  have I : IX D A s.heap (wM cy q N R X) H locs := I
  refine W.eq (g2 := F0 m 5 ls [.int (bI (isP (N 0) x))]) rfl ?_
  refine lv_if_eq (tgt := 57) S.1 S.2.1 dX12_mend_5 (by decide) (fun c_5 => ?_) (fun c_5 => ?_)
  · skip
    have c_5 := bI_f c_5
    refine lv_iconst (v := (-1)) S.1 S.2.1 dX12_mend_57 (by decide) ?_
    exact ru_i hQ S hr hlk (u := (N, R)) I (by simp [sp_mend, c_5]) dX12_mend_58
  · skip
    have c_5 := bI_t c_5
    refine lv_iload_n S.1 S.2.1 dX12_mend_8 rfl (lv_at hl 2 rfl) ?_
    refine cS (np := 1) (As := [.int v]) (rest := []) S (c_isVersion l D cy (wM cy q N R X) v) hK hA I wm_X12_103 wt_X12_isVersion wn_X12 wk_X12_isVersion ⟨rfl, hd_X12_isVersion⟩ rfl ⟨by decide, by decide⟩ hl.1 rfl (Nat.le_of_ble_eq_true rfl) dX12_mend_9 ⟨by decide, by decide⟩ (fun v_ u_ H locs h_ I => ?_)
    obtain rfl := h_
    have I : IX D A s.heap (wM cy q N R X) H locs := I
    refine W.eq (g2 := F0 m 12 ls [.int (bI (isV v))]) rfl ?_
    refine lv_if_eq (tgt := 57) S.1 S.2.1 dX12_mend_12 (by decide) (fun c_12 => ?_) (fun c_12 => ?_)
    · skip
      have c_12 := bI_f c_12
      refine lv_iconst (v := (-1)) S.1 S.2.1 dX12_mend_57 (by decide) ?_
      exact ru_i hQ S hr hlk (u := (N, R)) I (by simp [sp_mend, c_5, c_12]) dX12_mend_58
    · skip
      have c_12 := bI_t c_12
      refine lv_iload_n S.1 S.2.1 dX12_mend_15 rfl (lv_at hl 3 rfl) ?_
      refine lv_iconst (v := nI 1) S.1 S.2.1 dX12_mend_16 (by decide) ?_
      refine lv_bipush (v := nI 9) S.1 S.2.1 dX12_mend_17 (by decide) ?_
      refine cS (np := 3) (As := [.int hn, .int (nI 1), .int (nI 9)]) (rest := []) S (c_in l D cy (wM cy q N R X) hn (nI 1) (nI 9)) hK hA I wm_X12_99 wt_X12_in wn_X12 wk_X12_in ⟨rfl, hd_X12_in⟩ rfl ⟨by decide, by decide⟩ hl.1 rfl (Nat.le_of_ble_eq_true rfl) dX12_mend_19 ⟨by decide, by decide⟩ (fun v_ u_ H locs h_ I => ?_)
      obtain rfl := h_
      have I : IX D A s.heap (wM cy q N R X) H locs := I
      refine W.eq (g2 := F0 m 22 ls [.int (bI (inB hn (nI 1) (nI 9)))]) rfl ?_
      refine lv_if_eq (tgt := 57) S.1 S.2.1 dX12_mend_22 (by decide) (fun c_22 => ?_) (fun c_22 => ?_)
      · skip
        have c_22 := bI_f c_22
        refine lv_iconst (v := (-1)) S.1 S.2.1 dX12_mend_57 (by decide) ?_
        exact ru_i hQ S hr hlk (u := (N, R)) I (by simp [sp_mend, c_5, c_12, c_22]) dX12_mend_58
      · skip
        have c_22 := bI_t c_22
        refine lv_iload S.1 S.2.1 dX12_mend_25 (lv_at hl 4 rfl) ?_
        refine lv_iconst (v := (-1)) S.1 S.2.1 dX12_mend_27 (by decide) ?_
        refine lv_aload_n S.1 S.2.1 dX12_mend_28 rfl (lv_at hl 0 rfl) ?_
        refine rg (ci := 12) (q0 := 0) (v := .int (nI (N 17))) 17 S hK I cl_X12 rfl wf_X12_123 (by decide) rfl rfl rfl dX12_mend_29 ?_
        refine lv_iconst (v := nI 1) S.1 S.2.1 dX12_mend_32 (by decide) ?_
        refine lv_isub S.1 S.2.1 dX12_mend_33 ?_
        refine cS (np := 3) (As := [.int nd, .int (-1), .int ((nI (N 17)) - (nI 1))]) (rest := []) S (c_in l D cy (wM cy q N R X) nd (-1) ((nI (N 17)) - (nI 1))) hK hA I wm_X12_99 wt_X12_in wn_X12 wk_X12_in ⟨rfl, hd_X12_in⟩ rfl ⟨by decide, by decide⟩ hl.1 rfl (Nat.le_of_ble_eq_true rfl) dX12_mend_34 ⟨by decide, by decide⟩ (fun v_ u_ H locs h_ I => ?_)
        obtain rfl := h_
        have I : IX D A s.heap (wM cy q N R X) H locs := I
        refine W.eq (g2 := F0 m 37 ls [.int (bI (inB nd (-1) ((nI (N 17)) - (nI 1))))]) rfl ?_
        refine lv_if_eq (tgt := 57) S.1 S.2.1 dX12_mend_37 (by decide) (fun c_37 => ?_) (fun c_37 => ?_)
        · skip
          have c_37 := bI_f c_37
          refine lv_iconst (v := (-1)) S.1 S.2.1 dX12_mend_57 (by decide) ?_
          exact ru_i hQ S hr hlk (u := (N, R)) I (by simp [sp_mend, c_5, c_12, c_22, c_37]) dX12_mend_58
        · skip
          have c_37 := bI_t c_37
          refine lv_iload S.1 S.2.1 dX12_mend_40 (lv_at hl 5 rfl) ?_
          refine lv_iconst (v := nI 0) S.1 S.2.1 dX12_mend_42 (by decide) ?_
          refine lv_iload S.1 S.2.1 dX12_mend_43 (lv_at hl 6 rfl) ?_
          refine cS (np := 3) (As := [.int f, .int (nI 0), .int la]) (rest := []) S (c_in l D cy (wM cy q N R X) f (nI 0) la) hK hA I wm_X12_99 wt_X12_in wn_X12 wk_X12_in ⟨rfl, hd_X12_in⟩ rfl ⟨by decide, by decide⟩ hl.1 rfl (Nat.le_of_ble_eq_true rfl) dX12_mend_45 ⟨by decide, by decide⟩ (fun v_ u_ H locs h_ I => ?_)
          obtain rfl := h_
          have I : IX D A s.heap (wM cy q N R X) H locs := I
          refine W.eq (g2 := F0 m 48 ls [.int (bI (inB f (nI 0) la))]) rfl ?_
          refine lv_if_eq (tgt := 57) S.1 S.2.1 dX12_mend_48 (by decide) (fun c_48 => ?_) (fun c_48 => ?_)
          · skip
            have c_48 := bI_f c_48
            refine lv_iconst (v := (-1)) S.1 S.2.1 dX12_mend_57 (by decide) ?_
            exact ru_i hQ S hr hlk (u := (N, R)) I (by simp [sp_mend, c_5, c_12, c_22, c_37, c_48]) dX12_mend_58
          · skip
            have c_48 := bI_t c_48
            refine lv_iload S.1 S.2.1 dX12_mend_51 (lv_at hl 6 rfl) ?_
            refine lv_iconst (v := nI 5) S.1 S.2.1 dX12_mend_53 (by decide) ?_
            refine lv_icmp_le (tgt := 59) S.1 S.2.1 dX12_mend_54 (by decide) (fun c_54 => ?_) (fun c_54 => ?_)
            · skip
              refine lv_aload_n S.1 S.2.1 dX12_mend_59 rfl (lv_at hl 0 rfl) ?_
              refine rg (ci := 12) (q0 := 0) (v := .int (nI (N 17))) 17 S hK I cl_X12 rfl wf_X12_123 (by decide) rfl rfl rfl dX12_mend_60 ?_
              refine lv_bipush (v := nI 8) S.1 S.2.1 dX12_mend_63 (by decide) ?_
              refine lv_icmp_ne (tgt := 71) S.1 S.2.1 dX12_mend_65 (by decide) (fun c_65 => ?_) (fun c_65 => ?_)
              · skip
                have c_65o := c_65
                have c_65 := nI_cneT (by omega) (by omega) c_65
                refine lv_aload_n S.1 S.2.1 dX12_mend_71 rfl (lv_at hl 0 rfl) ?_
                refine rg (ci := 12) (q0 := 0) (v := .ref (q 18)) 18 S hK I cl_X12 rfl wf_X12_56 (by decide) rfl rfl rfl dX12_mend_72 ?_
                refine lv_aload_n S.1 S.2.1 dX12_mend_75 rfl (lv_at hl 0 rfl) ?_
                refine rg (ci := 12) (q0 := 0) (v := .int (nI (N 17))) 17 S hK I cl_X12 rfl wf_X12_123 (by decide) rfl rfl rfl dX12_mend_76 ?_
                refine lv_iload_n S.1 S.2.1 dX12_mend_79 rfl (lv_at hl 1 rfl) ?_
                refine si (q0 := 16) (n := 8) (f := R 18) (N 17) S hK I rfl rfl (by omega) (by decide) dX12_mend_80 (fun H locs I => ?_)
                have I : IX D A s.heap (wM cy q N (va_up R 18 (upd (R 18) (N 17) x)) X) H locs := I
                refine lv_aload_n S.1 S.2.1 dX12_mend_81 rfl (lv_at hl 0 rfl) ?_
                refine rg (ci := 12) (q0 := 0) (v := .ref (q 19)) 19 S hK I cl_X12 rfl wf_X12_59 (by decide) rfl rfl rfl dX12_mend_82 ?_
                refine lv_aload_n S.1 S.2.1 dX12_mend_85 rfl (lv_at hl 0 rfl) ?_
                refine rg (ci := 12) (q0 := 0) (v := .int (nI (N 17))) 17 S hK I cl_X12 rfl wf_X12_123 (by decide) rfl rfl rfl dX12_mend_86 ?_
                refine lv_iload_n S.1 S.2.1 dX12_mend_89 rfl (lv_at hl 2 rfl) ?_
                refine si (q0 := 17) (n := 8) (f := R 19) (N 17) S hK I rfl rfl (by omega) (by decide) dX12_mend_90 (fun H locs I => ?_)
                have I : IX D A s.heap (wM cy q N (va_up (va_up R 18 (upd (R 18) (N 17) x)) 19 (upd (R 19) (N 17) v)) X) H locs := I
                refine lv_aload_n S.1 S.2.1 dX12_mend_91 rfl (lv_at hl 0 rfl) ?_
                refine rg (ci := 12) (q0 := 0) (v := .ref (q 20)) 20 S hK I cl_X12 rfl wf_X12_62 (by decide) rfl rfl rfl dX12_mend_92 ?_
                refine lv_aload_n S.1 S.2.1 dX12_mend_95 rfl (lv_at hl 0 rfl) ?_
                refine rg (ci := 12) (q0 := 0) (v := .int (nI (N 17))) 17 S hK I cl_X12 rfl wf_X12_123 (by decide) rfl rfl rfl dX12_mend_96 ?_
                refine lv_iload_n S.1 S.2.1 dX12_mend_99 rfl (lv_at hl 3 rfl) ?_
                refine si (q0 := 18) (n := 8) (f := R 20) (N 17) S hK I rfl rfl (by omega) (by decide) dX12_mend_100 (fun H locs I => ?_)
                have I : IX D A s.heap (wM cy q N (va_up (va_up (va_up R 18 (upd (R 18) (N 17) x)) 19 (upd (R 19) (N 17) v)) 20 (upd (R 20) (N 17) hn)) X) H locs := I
                refine lv_aload_n S.1 S.2.1 dX12_mend_101 rfl (lv_at hl 0 rfl) ?_
                refine rg (ci := 12) (q0 := 0) (v := .ref (q 21)) 21 S hK I cl_X12 rfl wf_X12_65 (by decide) rfl rfl rfl dX12_mend_102 ?_
                refine lv_aload_n S.1 S.2.1 dX12_mend_105 rfl (lv_at hl 0 rfl) ?_
                refine rg (ci := 12) (q0 := 0) (v := .int (nI (N 17))) 17 S hK I cl_X12 rfl wf_X12_123 (by decide) rfl rfl rfl dX12_mend_106 ?_
                refine lv_iload S.1 S.2.1 dX12_mend_109 (lv_at hl 4 rfl) ?_
                refine si (q0 := 19) (n := 8) (f := R 21) (N 17) S hK I rfl rfl (by omega) (by decide) dX12_mend_111 (fun H locs I => ?_)
                have I : IX D A s.heap (wM cy q N (va_up (va_up (va_up (va_up R 18 (upd (R 18) (N 17) x)) 19 (upd (R 19) (N 17) v)) 20 (upd (R 20) (N 17) hn)) 21 (upd (R 21) (N 17) nd)) X) H locs := I
                refine lv_aload_n S.1 S.2.1 dX12_mend_112 rfl (lv_at hl 0 rfl) ?_
                refine rg (ci := 12) (q0 := 0) (v := .ref (q 22)) 22 S hK I cl_X12 rfl wf_X12_68 (by decide) rfl rfl rfl dX12_mend_113 ?_
                refine lv_aload_n S.1 S.2.1 dX12_mend_116 rfl (lv_at hl 0 rfl) ?_
                refine rg (ci := 12) (q0 := 0) (v := .int (nI (N 17))) 17 S hK I cl_X12 rfl wf_X12_123 (by decide) rfl rfl rfl dX12_mend_117 ?_
                refine lv_iload S.1 S.2.1 dX12_mend_120 (lv_at hl 5 rfl) ?_
                refine si (q0 := 20) (n := 8) (f := R 22) (N 17) S hK I rfl rfl (by omega) (by decide) dX12_mend_122 (fun H locs I => ?_)
                have I : IX D A s.heap (wM cy q N (va_up (va_up (va_up (va_up (va_up R 18 (upd (R 18) (N 17) x)) 19 (upd (R 19) (N 17) v)) 20 (upd (R 20) (N 17) hn)) 21 (upd (R 21) (N 17) nd)) 22 (upd (R 22) (N 17) f)) X) H locs := I
                refine lv_aload_n S.1 S.2.1 dX12_mend_123 rfl (lv_at hl 0 rfl) ?_
                refine rg (ci := 12) (q0 := 0) (v := .ref (q 23)) 23 S hK I cl_X12 rfl wf_X12_71 (by decide) rfl rfl rfl dX12_mend_124 ?_
                refine lv_aload_n S.1 S.2.1 dX12_mend_127 rfl (lv_at hl 0 rfl) ?_
                refine rg (ci := 12) (q0 := 0) (v := .int (nI (N 17))) 17 S hK I cl_X12 rfl wf_X12_123 (by decide) rfl rfl rfl dX12_mend_128 ?_
                refine lv_iload S.1 S.2.1 dX12_mend_131 (lv_at hl 6 rfl) ?_
                refine si (q0 := 21) (n := 8) (f := R 23) (N 17) S hK I rfl rfl (by omega) (by decide) dX12_mend_133 (fun H locs I => ?_)
                have I : IX D A s.heap (wM cy q N (va_up (va_up (va_up (va_up (va_up (va_up R 18 (upd (R 18) (N 17) x)) 19 (upd (R 19) (N 17) v)) 20 (upd (R 20) (N 17) hn)) 21 (upd (R 21) (N 17) nd)) 22 (upd (R 22) (N 17) f)) 23 (upd (R 23) (N 17) la)) X) H locs := I
                refine lv_aload_n S.1 S.2.1 dX12_mend_134 rfl (lv_at hl 0 rfl) ?_
                refine lv_dup S.1 S.2.1 dX12_mend_135 rfl ?_
                refine rg (ci := 12) (q0 := 0) (v := .int (nI (N 17))) 17 S hK I cl_X12 rfl wf_X12_123 (by decide) rfl rfl rfl dX12_mend_136 ?_
                refine lv_iconst (v := nI 1) S.1 S.2.1 dX12_mend_139 (by decide) ?_
                refine lv_iadd S.1 S.2.1 dX12_mend_140 ?_
                refine tI (y := nI ((N 17) + 1)) (nI_add _ _) ?_
                refine rp (ci := 12) (q0 := 0) (v := .int (nI ((N 17) + 1))) (ty := .int) 17 S hK I cl_X12 rfl wf_X12_123 (by decide) rfl tyX12_ok nmX12 rfl (by decide +kernel) rfl rfl (by exact Nat.le_of_ble_eq_true rfl) rfl dX12_mend_141 (fun H locs I => ?_)
                have I : IX D A s.heap (wM cy q (va_up N 17 ((N 17) + 1)) (va_up (va_up (va_up (va_up (va_up (va_up R 18 (upd (R 18) (N 17) x)) 19 (upd (R 19) (N 17) v)) 20 (upd (R 20) (N 17) hn)) 21 (upd (R 21) (N 17) nd)) 22 (upd (R 22) (N 17) f)) 23 (upd (R 23) (N 17) la)) X) H locs := I
                refine lv_aload_n S.1 S.2.1 dX12_mend_144 rfl (lv_at hl 0 rfl) ?_
                refine rg (ci := 12) (q0 := 0) (v := .int (nI ((N 17) + 1))) 17 S hK I cl_X12 rfl wf_X12_123 (by decide) rfl rfl rfl dX12_mend_145 ?_
                refine lv_iconst (v := nI 1) S.1 S.2.1 dX12_mend_148 (by decide) ?_
                refine lv_isub S.1 S.2.1 dX12_mend_149 ?_
                refine tI (y := nI (N 17)) (by rw [pk_sub (by omega)]; rfl) ?_
                exact ru_i hQ S hr hlk (u := ((va_up N 17 ((N 17) + 1)), (va_up (va_up (va_up (va_up (va_up (va_up R 18 (upd (R 18) (N 17) x)) 19 (upd (R 19) (N 17) v)) 20 (upd (R 20) (N 17) hn)) 21 (upd (R 21) (N 17) nd)) 22 (upd (R 22) (N 17) f)) 23 (upd (R 23) (N 17) la)))) I (by simp [sp_mend, c_5, c_12, c_22, c_37, c_48, c_54, c_65o, c_65]) dX12_mend_150
              · skip
                have c_65o := c_65
                have c_65 := nI_cneF (by omega) (by omega) c_65
                refine lv_bipush (v := (-3)) S.1 S.2.1 dX12_mend_68 (by decide) ?_
                exact ru_i hQ S hr hlk (u := (N, R)) I (by rw [sp_mend, if_pos ⟨c_5, c_12, c_22, c_37, c_48, c_54⟩, if_pos c_65]; exact ⟨rfl, rfl⟩) dX12_mend_70
            · skip
              refine lv_iconst (v := (-1)) S.1 S.2.1 dX12_mend_57 (by decide) ?_
              exact ru_i hQ S hr hlk (u := (N, R)) I (by simp [sp_mend, c_5, c_12, c_22, c_37, c_48, c_54]) dX12_mend_58
set_option maxHeartbeats 4000000 in
set_option maxRecDepth 100000 in
theorem c_quarrel (l : Launch) (D : va_G) (cy : Nat → ClassId) (q : Nat → Nat) (N : Nat → Nat) (R X : Nat → Nat → Int32) (x v y w : Int32) (hB : Bd N) : MS (α := SR) l D cy yX12_quarrel cX12_quarrel 5 (Option.some FieldType.int) rm_X12_quarrel [.ref (q 33), .int x, .int v, .int y, .int w] (wM cy q N R X) (fun v_ u_ => v_ = some (.int (sp_quarrel N R x v y w).1) ∧ u_ = (sp_quarrel N R x v y w).2) (fun u_ => wM cy q u_.1 u_.2 X) := by
  refine MS.mk2 (by decide) (Nat.le_of_ble_eq_true rfl) [(0, .ref (q 33)), (1, .int x), (2, .int v), (3, .int y), (4, .int w)] rfl ?_
  intro p e s m args below meth c A ls Q hQ S hr hlk hnm hK hA I hl
  have hB0 := hB
  obtain ⟨b0, b6, b17, b24, b30⟩ := hB0
  refine lv_aload_n S.1 S.2.1 dX12_quarrel_0 rfl (lv_at hl 0 rfl) ?_
  refine lv_iload_n S.1 S.2.1 dX12_quarrel_1 rfl (lv_at hl 1 rfl) ?_
  refine cV (np := 1) (ci := 12) (q0 := 0) (As := [.int x]) (rest := []) S (c_isPart l D cy q N R X (x) hB) hK hA I wm_X12_107 wi_X12_isPart ws_X12_X12_isPart wn_X12 wk_X12_isPart ⟨rfl, hd_X12_isPart⟩ rfl ⟨by decide, by decide⟩ rfl rfl hl.1 rfl (Nat.le_of_ble_eq_true rfl) dX12_quarrel_2 ⟨by decide, by decide⟩ (fun v_ u_ H locs h_ I => ?_)
  obtain rfl := h_
  have I : IX D A s.heap (wM cy q N R X) H locs := I
  refine W.eq (g2 := F0 m 5 ls [.int (bI (isP (N 0) x))]) rfl ?_
  refine lv_if_eq (tgt := 36) S.1 S.2.1 dX12_quarrel_5 (by decide) (fun c_5 => ?_) (fun c_5 => ?_)
  · skip
    have c_5 := bI_f c_5
    refine lv_iconst (v := (-1)) S.1 S.2.1 dX12_quarrel_36 (by decide) ?_
    exact ru_i hQ S hr hlk (u := (N, R)) I (by simp [sp_quarrel, c_5]) dX12_quarrel_37
  · skip
    have c_5 := bI_t c_5
    refine lv_aload_n S.1 S.2.1 dX12_quarrel_8 rfl (lv_at hl 0 rfl) ?_
    refine lv_iload_n S.1 S.2.1 dX12_quarrel_9 rfl (lv_at hl 3 rfl) ?_
    refine cV (np := 1) (ci := 12) (q0 := 0) (As := [.int y]) (rest := []) S (c_isPart l D cy q N R X (y) hB) hK hA I wm_X12_107 wi_X12_isPart ws_X12_X12_isPart wn_X12 wk_X12_isPart ⟨rfl, hd_X12_isPart⟩ rfl ⟨by decide, by decide⟩ rfl rfl hl.1 rfl (Nat.le_of_ble_eq_true rfl) dX12_quarrel_10 ⟨by decide, by decide⟩ (fun v_ u_ H locs h_ I => ?_)
    obtain rfl := h_
    have I : IX D A s.heap (wM cy q N R X) H locs := I
    refine W.eq (g2 := F0 m 13 ls [.int (bI (isP (N 0) y))]) rfl ?_
    refine lv_if_eq (tgt := 36) S.1 S.2.1 dX12_quarrel_13 (by decide) (fun c_13 => ?_) (fun c_13 => ?_)
    · skip
      have c_13 := bI_f c_13
      refine lv_iconst (v := (-1)) S.1 S.2.1 dX12_quarrel_36 (by decide) ?_
      exact ru_i hQ S hr hlk (u := (N, R)) I (by simp [sp_quarrel, c_5, c_13]) dX12_quarrel_37
    · skip
      have c_13 := bI_t c_13
      refine lv_iload_n S.1 S.2.1 dX12_quarrel_16 rfl (lv_at hl 1 rfl) ?_
      refine lv_iload_n S.1 S.2.1 dX12_quarrel_17 rfl (lv_at hl 3 rfl) ?_
      refine lv_icmp_eq (tgt := 36) S.1 S.2.1 dX12_quarrel_18 (by decide) (fun c_18 => ?_) (fun c_18 => ?_)
      · skip
        refine lv_iconst (v := (-1)) S.1 S.2.1 dX12_quarrel_36 (by decide) ?_
        exact ru_i hQ S hr hlk (u := (N, R)) I (by simp [sp_quarrel, c_5, c_13, c_18]) dX12_quarrel_37
      · skip
        refine lv_iload_n S.1 S.2.1 dX12_quarrel_21 rfl (lv_at hl 2 rfl) ?_
        refine cS (np := 1) (As := [.int v]) (rest := []) S (c_isVersion l D cy (wM cy q N R X) v) hK hA I wm_X12_103 wt_X12_isVersion wn_X12 wk_X12_isVersion ⟨rfl, hd_X12_isVersion⟩ rfl ⟨by decide, by decide⟩ hl.1 rfl (Nat.le_of_ble_eq_true rfl) dX12_quarrel_22 ⟨by decide, by decide⟩ (fun v_ u_ H locs h_ I => ?_)
        obtain rfl := h_
        have I : IX D A s.heap (wM cy q N R X) H locs := I
        refine W.eq (g2 := F0 m 25 ls [.int (bI (isV v))]) rfl ?_
        refine lv_if_eq (tgt := 36) S.1 S.2.1 dX12_quarrel_25 (by decide) (fun c_25 => ?_) (fun c_25 => ?_)
        · skip
          have c_25 := bI_f c_25
          refine lv_iconst (v := (-1)) S.1 S.2.1 dX12_quarrel_36 (by decide) ?_
          exact ru_i hQ S hr hlk (u := (N, R)) I (by simp [sp_quarrel, c_5, c_13, c_18, c_25]) dX12_quarrel_37
        · skip
          have c_25 := bI_t c_25
          refine lv_iload S.1 S.2.1 dX12_quarrel_28 (lv_at hl 4 rfl) ?_
          refine cS (np := 1) (As := [.int w]) (rest := []) S (c_isVersion l D cy (wM cy q N R X) w) hK hA I wm_X12_103 wt_X12_isVersion wn_X12 wk_X12_isVersion ⟨rfl, hd_X12_isVersion⟩ rfl ⟨by decide, by decide⟩ hl.1 rfl (Nat.le_of_ble_eq_true rfl) dX12_quarrel_30 ⟨by decide, by decide⟩ (fun v_ u_ H locs h_ I => ?_)
          obtain rfl := h_
          have I : IX D A s.heap (wM cy q N R X) H locs := I
          refine W.eq (g2 := F0 m 33 ls [.int (bI (isV w))]) rfl ?_
          refine lv_if_ne (tgt := 38) S.1 S.2.1 dX12_quarrel_33 (by decide) (fun c_33 => ?_) (fun c_33 => ?_)
          · skip
            have c_33 := bI_t c_33
            refine lv_aload_n S.1 S.2.1 dX12_quarrel_38 rfl (lv_at hl 0 rfl) ?_
            refine rg (ci := 12) (q0 := 0) (v := .int (nI (N 24))) 24 S hK I cl_X12 rfl wf_X12_152 (by decide) rfl rfl rfl dX12_quarrel_39 ?_
            refine lv_bipush (v := nI 8) S.1 S.2.1 dX12_quarrel_42 (by decide) ?_
            refine lv_icmp_ne (tgt := 50) S.1 S.2.1 dX12_quarrel_44 (by decide) (fun c_44 => ?_) (fun c_44 => ?_)
            · skip
              have c_44o := c_44
              have c_44 := nI_cneT (by omega) (by omega) c_44
              refine lv_aload_n S.1 S.2.1 dX12_quarrel_50 rfl (lv_at hl 0 rfl) ?_
              refine rg (ci := 12) (q0 := 0) (v := .ref (q 25)) 25 S hK I cl_X12 rfl wf_X12_74 (by decide) rfl rfl rfl dX12_quarrel_51 ?_
              refine lv_iconst (v := nI 4) S.1 S.2.1 dX12_quarrel_54 (by decide) ?_
              refine lv_aload_n S.1 S.2.1 dX12_quarrel_55 rfl (lv_at hl 0 rfl) ?_
              refine rg (ci := 12) (q0 := 0) (v := .int (nI (N 24))) 24 S hK I cl_X12 rfl wf_X12_152 (by decide) rfl rfl rfl dX12_quarrel_56 ?_
              refine lv_imul S.1 S.2.1 dX12_quarrel_59 ?_
              refine tI (y := nI (4 * (N 24))) (pk_mul _ _) ?_
              refine lv_iload_n S.1 S.2.1 dX12_quarrel_60 rfl (lv_at hl 1 rfl) ?_
              refine si (q0 := 22) (n := 32) (f := R 25) (4 * (N 24)) S hK I rfl rfl (by omega) (by decide) dX12_quarrel_61 (fun H locs I => ?_)
              have I : IX D A s.heap (wM cy q N (va_up R 25 (upd (R 25) (4 * (N 24)) x)) X) H locs := I
              refine lv_aload_n S.1 S.2.1 dX12_quarrel_62 rfl (lv_at hl 0 rfl) ?_
              refine rg (ci := 12) (q0 := 0) (v := .ref (q 25)) 25 S hK I cl_X12 rfl wf_X12_74 (by decide) rfl rfl rfl dX12_quarrel_63 ?_
              refine lv_iconst (v := nI 4) S.1 S.2.1 dX12_quarrel_66 (by decide) ?_
              refine lv_aload_n S.1 S.2.1 dX12_quarrel_67 rfl (lv_at hl 0 rfl) ?_
              refine rg (ci := 12) (q0 := 0) (v := .int (nI (N 24))) 24 S hK I cl_X12 rfl wf_X12_152 (by decide) rfl rfl rfl dX12_quarrel_68 ?_
              refine lv_imul S.1 S.2.1 dX12_quarrel_71 ?_
              refine tI (y := nI (4 * (N 24))) (pk_mul _ _) ?_
              refine lv_iconst (v := nI 1) S.1 S.2.1 dX12_quarrel_72 (by decide) ?_
              refine lv_iadd S.1 S.2.1 dX12_quarrel_73 ?_
              refine tI (y := nI ((4 * (N 24)) + 1)) (nI_add _ _) ?_
              refine lv_iload_n S.1 S.2.1 dX12_quarrel_74 rfl (lv_at hl 2 rfl) ?_
              refine si (q0 := 22) (n := 32) (f := upd (R 25) (4 * (N 24)) x) ((4 * (N 24)) + 1) S hK I rfl rfl (by omega) (by decide) dX12_quarrel_75 (fun H locs I => ?_)
              have I : IX D A s.heap (wM cy q N (va_up R 25 (upd (upd (R 25) (4 * (N 24)) x) ((4 * (N 24)) + 1) v)) X) H locs := I
              refine lv_aload_n S.1 S.2.1 dX12_quarrel_76 rfl (lv_at hl 0 rfl) ?_
              refine rg (ci := 12) (q0 := 0) (v := .ref (q 25)) 25 S hK I cl_X12 rfl wf_X12_74 (by decide) rfl rfl rfl dX12_quarrel_77 ?_
              refine lv_iconst (v := nI 4) S.1 S.2.1 dX12_quarrel_80 (by decide) ?_
              refine lv_aload_n S.1 S.2.1 dX12_quarrel_81 rfl (lv_at hl 0 rfl) ?_
              refine rg (ci := 12) (q0 := 0) (v := .int (nI (N 24))) 24 S hK I cl_X12 rfl wf_X12_152 (by decide) rfl rfl rfl dX12_quarrel_82 ?_
              refine lv_imul S.1 S.2.1 dX12_quarrel_85 ?_
              refine tI (y := nI (4 * (N 24))) (pk_mul _ _) ?_
              refine lv_iconst (v := nI 2) S.1 S.2.1 dX12_quarrel_86 (by decide) ?_
              refine lv_iadd S.1 S.2.1 dX12_quarrel_87 ?_
              refine tI (y := nI ((4 * (N 24)) + 2)) (nI_add _ _) ?_
              refine lv_iload_n S.1 S.2.1 dX12_quarrel_88 rfl (lv_at hl 3 rfl) ?_
              refine si (q0 := 22) (n := 32) (f := upd (upd (R 25) (4 * (N 24)) x) ((4 * (N 24)) + 1) v) ((4 * (N 24)) + 2) S hK I rfl rfl (by omega) (by decide) dX12_quarrel_89 (fun H locs I => ?_)
              have I : IX D A s.heap (wM cy q N (va_up R 25 (upd (upd (upd (R 25) (4 * (N 24)) x) ((4 * (N 24)) + 1) v) ((4 * (N 24)) + 2) y)) X) H locs := I
              refine lv_aload_n S.1 S.2.1 dX12_quarrel_90 rfl (lv_at hl 0 rfl) ?_
              refine rg (ci := 12) (q0 := 0) (v := .ref (q 25)) 25 S hK I cl_X12 rfl wf_X12_74 (by decide) rfl rfl rfl dX12_quarrel_91 ?_
              refine lv_iconst (v := nI 4) S.1 S.2.1 dX12_quarrel_94 (by decide) ?_
              refine lv_aload_n S.1 S.2.1 dX12_quarrel_95 rfl (lv_at hl 0 rfl) ?_
              refine rg (ci := 12) (q0 := 0) (v := .int (nI (N 24))) 24 S hK I cl_X12 rfl wf_X12_152 (by decide) rfl rfl rfl dX12_quarrel_96 ?_
              refine lv_imul S.1 S.2.1 dX12_quarrel_99 ?_
              refine tI (y := nI (4 * (N 24))) (pk_mul _ _) ?_
              refine lv_iconst (v := nI 3) S.1 S.2.1 dX12_quarrel_100 (by decide) ?_
              refine lv_iadd S.1 S.2.1 dX12_quarrel_101 ?_
              refine tI (y := nI ((4 * (N 24)) + 3)) (nI_add _ _) ?_
              refine lv_iload S.1 S.2.1 dX12_quarrel_102 (lv_at hl 4 rfl) ?_
              refine si (q0 := 22) (n := 32) (f := upd (upd (upd (R 25) (4 * (N 24)) x) ((4 * (N 24)) + 1) v) ((4 * (N 24)) + 2) y) ((4 * (N 24)) + 3) S hK I rfl rfl (by omega) (by decide) dX12_quarrel_104 (fun H locs I => ?_)
              have I : IX D A s.heap (wM cy q N (va_up R 25 (upd (upd (upd (upd (R 25) (4 * (N 24)) x) ((4 * (N 24)) + 1) v) ((4 * (N 24)) + 2) y) ((4 * (N 24)) + 3) w)) X) H locs := I
              refine lv_aload_n S.1 S.2.1 dX12_quarrel_105 rfl (lv_at hl 0 rfl) ?_
              refine lv_dup S.1 S.2.1 dX12_quarrel_106 rfl ?_
              refine rg (ci := 12) (q0 := 0) (v := .int (nI (N 24))) 24 S hK I cl_X12 rfl wf_X12_152 (by decide) rfl rfl rfl dX12_quarrel_107 ?_
              refine lv_iconst (v := nI 1) S.1 S.2.1 dX12_quarrel_110 (by decide) ?_
              refine lv_iadd S.1 S.2.1 dX12_quarrel_111 ?_
              refine tI (y := nI ((N 24) + 1)) (nI_add _ _) ?_
              refine rp (ci := 12) (q0 := 0) (v := .int (nI ((N 24) + 1))) (ty := .int) 24 S hK I cl_X12 rfl wf_X12_152 (by decide) rfl tyX12_ok nmX12 rfl (by decide +kernel) rfl rfl (by exact Nat.le_of_ble_eq_true rfl) rfl dX12_quarrel_112 (fun H locs I => ?_)
              have I : IX D A s.heap (wM cy q (va_up N 24 ((N 24) + 1)) (va_up R 25 (upd (upd (upd (upd (R 25) (4 * (N 24)) x) ((4 * (N 24)) + 1) v) ((4 * (N 24)) + 2) y) ((4 * (N 24)) + 3) w)) X) H locs := I
              refine lv_aload_n S.1 S.2.1 dX12_quarrel_115 rfl (lv_at hl 0 rfl) ?_
              refine rg (ci := 12) (q0 := 0) (v := .int (nI ((N 24) + 1))) 24 S hK I cl_X12 rfl wf_X12_152 (by decide) rfl rfl rfl dX12_quarrel_116 ?_
              exact ru_i hQ S hr hlk (u := ((va_up N 24 ((N 24) + 1)), (va_up R 25 (upd (upd (upd (upd (R 25) (4 * (N 24)) x) ((4 * (N 24)) + 1) v) ((4 * (N 24)) + 2) y) ((4 * (N 24)) + 3) w)))) I (by simp [sp_quarrel, c_5, c_13, c_18, c_25, c_33, c_44o, c_44]) dX12_quarrel_119
            · skip
              have c_44o := c_44
              have c_44 := nI_cneF (by omega) (by omega) c_44
              refine lv_bipush (v := (-3)) S.1 S.2.1 dX12_quarrel_47 (by decide) ?_
              exact ru_i hQ S hr hlk (u := (N, R)) I (by simp [sp_quarrel, c_5, c_13, c_18, c_25, c_33, c_44o, c_44]) dX12_quarrel_49
          · skip
            have c_33 := bI_f c_33
            refine lv_iconst (v := (-1)) S.1 S.2.1 dX12_quarrel_36 (by decide) ?_
            exact ru_i hQ S hr hlk (u := (N, R)) I (by simp [sp_quarrel, c_5, c_13, c_18, c_25, c_33]) dX12_quarrel_37
set_option maxHeartbeats 4000000 in
set_option maxRecDepth 100000 in
theorem c_isQuarrelling (l : Launch) (D : va_G) (cy : Nat → ClassId) (q : Nat → Nat) (N : Nat → Nat) (R X : Nat → Nat → Int32) (hW : WFm N R) : MS (α := Unit) l D cy yX12_isQuarrelling cX12_isQuarrelling 3 (Option.some FieldType.boolean) rm_X12_isQuarrelling [.ref (q 33)] (wM cy q N R X) (fun v_ (_ : Unit) => v_ = some (.int (bI (quF R (X 13) (N 24))))) (fun _ => wM cy q N R X) := by
  refine MS.mk2 (by decide) (Nat.le_of_ble_eq_true rfl) [(0, .ref (q 33))] rfl ?_
  intro p e s m args below meth c A ls Q hQ S hr hlk hnm hK hA I hl
  have hW0 := hW
  obtain ⟨hB, hPt, hBo, hH, hM, hQu⟩ := hW0
  have hB0 := hB
  obtain ⟨b0, b6, b17, b24, b30⟩ := hB0
  refine lv_iconst (v := nI 0) S.1 S.2.1 dX12_isQuarrelling_0 (by decide) ?_
  refine tI (y := bI false) rfl ?_
  refine lv_istore_n (lv' := [(1, .int (bI false)), (0, .ref (q 33))]) S.1 S.2.1 dX12_isQuarrelling_1 rfl hl (by decide) rfl (fun ls hl => ?_)
  refine lv_iconst (v := nI 0) S.1 S.2.1 dX12_isQuarrelling_2 (by decide) ?_
  refine lv_istore_n (lv' := [(2, .int (nI 0)), (1, .int (bI false)), (0, .ref (q 33))]) S.1 S.2.1 dX12_isQuarrelling_3 rfl hl (by decide) rfl (fun ls hl => ?_)
  have loop_4 : ∀ (k_ : Nat) (k2 : Nat) (ub : Bool), N 24 - k2 < k_ → k2 ≤ N 24 → ub = quF R (X 13) k2 → ∀ (H : Heap) (locs : List Loc) (ls : Array Slot), IX D A s.heap (wM cy q N R X) H locs → lv_has ls 3 [(0, .ref (q 33)), (1, .int (bI ub)), (2, .int (nI k2))] → W p l e rm_X12_isQuarrelling s m args below meth c H locs 0 0 Q (F0 m 4 ls []) := by
    intro k_
    induction k_ with
    | zero => intro k2 ub hm_; exact absurd hm_ (Nat.not_lt_zero _)
    | succ k_ ih_4 =>
      intro k2 ub hm_ hk2 hu H locs ls I hl
      refine lv_iload_n S.1 S.2.1 dX12_isQuarrelling_4 rfl (lv_at hl 2 rfl) ?_
      refine lv_aload_n S.1 S.2.1 dX12_isQuarrelling_5 rfl (lv_at hl 0 rfl) ?_
      refine rg (ci := 12) (q0 := 0) (v := .int (nI (N 24))) 24 S hK I cl_X12 rfl wf_X12_152 (by decide) rfl rfl rfl dX12_isQuarrelling_6 ?_
      refine lv_icmp_ge (tgt := 82) S.1 S.2.1 dX12_isQuarrelling_9 (by decide) (fun c_9 => ?_) (fun c_9 => ?_)
      · skip
        have c_9o := c_9
        have c_9 := nI_cgeT (by omega) (by omega) c_9
        refine lv_iload_n S.1 S.2.1 dX12_isQuarrelling_82 rfl (lv_at hl 1 rfl) ?_
        exact ru_z hQ S hr hlk (bI_01 _) (u := ()) I (congrArg (fun z => some (Value.int z)) (by rw [hu, show k2 = N 24 by omega])) dX12_isQuarrelling_83
      · skip
        have c_9o := c_9
        have c_9 := nI_cgeF (by omega) (by omega) c_9
        refine lv_iload_n S.1 S.2.1 dX12_isQuarrelling_12 rfl (lv_at hl 1 rfl) ?_
        refine lv_if_ne (tgt := 70) S.1 S.2.1 dX12_isQuarrelling_13 (by decide) (fun c_13 => ?_) (fun c_13 => ?_)
        · skip
          have c_13 := bI_t c_13
          skip
          refine lv_iconst (v := nI 1) S.1 S.2.1 dX12_isQuarrelling_70 (by decide) ?_
          refine tI (y := bI true) rfl ?_
          refine lv_goto (tgt := 75) S.1 S.2.1 dX12_isQuarrelling_71 (by decide) ?_
          refine lv_istore_n (lv' := [(1, .int (bI true)), (0, .ref (q 33)), (2, .int (nI k2))]) S.1 S.2.1 dX12_isQuarrelling_75 rfl hl (by decide) rfl (fun ls hl => ?_)
          refine lv_iinc (v := nI (k2 + 1)) (lv' := [(2, .int (nI (k2 + 1))), (1, .int (bI true)), (0, .ref (q 33))]) S.1 S.2.1 dX12_isQuarrelling_76 hl (k := 2) rfl (nI_1 _) (by decide) rfl (fun ls hl => ?_)
          refine lv_goto (tgt := 4) S.1 S.2.1 dX12_isQuarrelling_79 (by decide) ?_
          exact ih_4 (k2 + 1) true (by omega) (by omega) (by rw [quF, ← hu]; simp [c_13]) _ _ _ I (lv_sub hl [2, 1, 0] rfl)
        · skip
          have c_13 := bI_f c_13
          have hqa := (hQu k2 (by omega)).1.2
          have hqb := (hQu k2 (by omega)).2.2
          refine lv_aload_n S.1 S.2.1 dX12_isQuarrelling_16 rfl (lv_at hl 0 rfl) ?_
          refine rg (ci := 12) (q0 := 0) (v := .ref (q 13)) 13 S hK I cl_X12 rfl wf_X12_44 (by decide) rfl rfl rfl dX12_isQuarrelling_17 ?_
          refine lv_aload_n S.1 S.2.1 dX12_isQuarrelling_20 rfl (lv_at hl 0 rfl) ?_
          refine rg (ci := 12) (q0 := 0) (v := .ref (q 25)) 25 S hK I cl_X12 rfl wf_X12_74 (by decide) rfl rfl rfl dX12_isQuarrelling_21 ?_
          refine lv_iconst (v := nI 4) S.1 S.2.1 dX12_isQuarrelling_24 (by decide) ?_
          refine lv_iload_n S.1 S.2.1 dX12_isQuarrelling_25 rfl (lv_at hl 2 rfl) ?_
          refine lv_imul S.1 S.2.1 dX12_isQuarrelling_26 ?_
          refine tI (y := nI (4 * k2)) (pk_mul _ _) ?_
          refine ri (q0 := 22) (n := 32) (f := R 25) (4 * k2) S hK I rfl rfl (by omega) (by decide) dX12_isQuarrelling_27 ?_
          refine tI (y := nI (qa R k2)) ((hQu k2 (by omega)).1.1) ?_
          refine ri (q0 := 12) (n := 8) (f := X 13) (qa R k2) S hK I rfl rfl (by omega) (by decide) dX12_isQuarrelling_28 ?_
          refine lv_aload_n S.1 S.2.1 dX12_isQuarrelling_29 rfl (lv_at hl 0 rfl) ?_
          refine rg (ci := 12) (q0 := 0) (v := .ref (q 25)) 25 S hK I cl_X12 rfl wf_X12_74 (by decide) rfl rfl rfl dX12_isQuarrelling_30 ?_
          refine lv_iconst (v := nI 4) S.1 S.2.1 dX12_isQuarrelling_33 (by decide) ?_
          refine lv_iload_n S.1 S.2.1 dX12_isQuarrelling_34 rfl (lv_at hl 2 rfl) ?_
          refine lv_imul S.1 S.2.1 dX12_isQuarrelling_35 ?_
          refine tI (y := nI (4 * k2)) (pk_mul _ _) ?_
          refine lv_iconst (v := nI 1) S.1 S.2.1 dX12_isQuarrelling_36 (by decide) ?_
          refine lv_iadd S.1 S.2.1 dX12_isQuarrelling_37 ?_
          refine tI (y := nI ((4 * k2) + 1)) (nI_add _ _) ?_
          refine ri (q0 := 22) (n := 32) (f := R 25) ((4 * k2) + 1) S hK I rfl rfl (by omega) (by decide) dX12_isQuarrelling_38 ?_
          refine lv_icmp_ne (tgt := 74) S.1 S.2.1 dX12_isQuarrelling_39 (by decide) (fun c_39 => ?_) (fun c_39 => ?_)
          · skip
            refine lv_iconst (v := nI 0) S.1 S.2.1 dX12_isQuarrelling_74 (by decide) ?_
            refine tI (y := bI false) rfl ?_
            refine lv_istore_n (lv' := [(1, .int (bI false)), (0, .ref (q 33)), (2, .int (nI k2))]) S.1 S.2.1 dX12_isQuarrelling_75 rfl hl (by decide) rfl (fun ls hl => ?_)
            refine lv_iinc (v := nI (k2 + 1)) (lv' := [(2, .int (nI (k2 + 1))), (1, .int (bI false)), (0, .ref (q 33))]) S.1 S.2.1 dX12_isQuarrelling_76 hl (k := 2) rfl (nI_1 _) (by decide) rfl (fun ls hl => ?_)
            refine lv_goto (tgt := 4) S.1 S.2.1 dX12_isQuarrelling_79 (by decide) ?_
            exact ih_4 (k2 + 1) false (by omega) (by omega) (by rw [quF, ← hu]; simp [c_13, c_39]) _ _ _ I (lv_sub hl [2, 1, 0] rfl)
          · skip
            refine lv_aload_n S.1 S.2.1 dX12_isQuarrelling_42 rfl (lv_at hl 0 rfl) ?_
            refine rg (ci := 12) (q0 := 0) (v := .ref (q 13)) 13 S hK I cl_X12 rfl wf_X12_44 (by decide) rfl rfl rfl dX12_isQuarrelling_43 ?_
            refine lv_aload_n S.1 S.2.1 dX12_isQuarrelling_46 rfl (lv_at hl 0 rfl) ?_
            refine rg (ci := 12) (q0 := 0) (v := .ref (q 25)) 25 S hK I cl_X12 rfl wf_X12_74 (by decide) rfl rfl rfl dX12_isQuarrelling_47 ?_
            refine lv_iconst (v := nI 4) S.1 S.2.1 dX12_isQuarrelling_50 (by decide) ?_
            refine lv_iload_n S.1 S.2.1 dX12_isQuarrelling_51 rfl (lv_at hl 2 rfl) ?_
            refine lv_imul S.1 S.2.1 dX12_isQuarrelling_52 ?_
            refine tI (y := nI (4 * k2)) (pk_mul _ _) ?_
            refine lv_iconst (v := nI 2) S.1 S.2.1 dX12_isQuarrelling_53 (by decide) ?_
            refine lv_iadd S.1 S.2.1 dX12_isQuarrelling_54 ?_
            refine tI (y := nI ((4 * k2) + 2)) (nI_add _ _) ?_
            refine ri (q0 := 22) (n := 32) (f := R 25) ((4 * k2) + 2) S hK I rfl rfl (by omega) (by decide) dX12_isQuarrelling_55 ?_
            refine tI (y := nI (qb R k2)) ((hQu k2 (by omega)).2.1) ?_
            refine ri (q0 := 12) (n := 8) (f := X 13) (qb R k2) S hK I rfl rfl (by omega) (by decide) dX12_isQuarrelling_56 ?_
            refine lv_aload_n S.1 S.2.1 dX12_isQuarrelling_57 rfl (lv_at hl 0 rfl) ?_
            refine rg (ci := 12) (q0 := 0) (v := .ref (q 25)) 25 S hK I cl_X12 rfl wf_X12_74 (by decide) rfl rfl rfl dX12_isQuarrelling_58 ?_
            refine lv_iconst (v := nI 4) S.1 S.2.1 dX12_isQuarrelling_61 (by decide) ?_
            refine lv_iload_n S.1 S.2.1 dX12_isQuarrelling_62 rfl (lv_at hl 2 rfl) ?_
            refine lv_imul S.1 S.2.1 dX12_isQuarrelling_63 ?_
            refine tI (y := nI (4 * k2)) (pk_mul _ _) ?_
            refine lv_iconst (v := nI 3) S.1 S.2.1 dX12_isQuarrelling_64 (by decide) ?_
            refine lv_iadd S.1 S.2.1 dX12_isQuarrelling_65 ?_
            refine tI (y := nI ((4 * k2) + 3)) (nI_add _ _) ?_
            refine ri (q0 := 22) (n := 32) (f := R 25) ((4 * k2) + 3) S hK I rfl rfl (by omega) (by decide) dX12_isQuarrelling_66 ?_
            refine lv_icmp_ne (tgt := 74) S.1 S.2.1 dX12_isQuarrelling_67 (by decide) (fun c_67 => ?_) (fun c_67 => ?_)
            · skip
              refine lv_iconst (v := nI 0) S.1 S.2.1 dX12_isQuarrelling_74 (by decide) ?_
              refine tI (y := bI false) rfl ?_
              refine lv_istore_n (lv' := [(1, .int (bI false)), (0, .ref (q 33)), (2, .int (nI k2))]) S.1 S.2.1 dX12_isQuarrelling_75 rfl hl (by decide) rfl (fun ls hl => ?_)
              refine lv_iinc (v := nI (k2 + 1)) (lv' := [(2, .int (nI (k2 + 1))), (1, .int (bI false)), (0, .ref (q 33))]) S.1 S.2.1 dX12_isQuarrelling_76 hl (k := 2) rfl (nI_1 _) (by decide) rfl (fun ls hl => ?_)
              refine lv_goto (tgt := 4) S.1 S.2.1 dX12_isQuarrelling_79 (by decide) ?_
              exact ih_4 (k2 + 1) false (by omega) (by omega) (by rw [quF, ← hu]; simp [c_13, c_39, c_67]) _ _ _ I (lv_sub hl [2, 1, 0] rfl)
            · skip
              refine lv_iconst (v := nI 1) S.1 S.2.1 dX12_isQuarrelling_70 (by decide) ?_
              refine tI (y := bI true) rfl ?_
              refine lv_goto (tgt := 75) S.1 S.2.1 dX12_isQuarrelling_71 (by decide) ?_
              refine lv_istore_n (lv' := [(1, .int (bI true)), (0, .ref (q 33)), (2, .int (nI k2))]) S.1 S.2.1 dX12_isQuarrelling_75 rfl hl (by decide) rfl (fun ls hl => ?_)
              refine lv_iinc (v := nI (k2 + 1)) (lv' := [(2, .int (nI (k2 + 1))), (1, .int (bI true)), (0, .ref (q 33))]) S.1 S.2.1 dX12_isQuarrelling_76 hl (k := 2) rfl (nI_1 _) (by decide) rfl (fun ls hl => ?_)
              refine lv_goto (tgt := 4) S.1 S.2.1 dX12_isQuarrelling_79 (by decide) ?_
              exact ih_4 (k2 + 1) true (by omega) (by omega) (by rw [quF, ← hu]; simp [c_13, c_39, c_67]) _ _ _ I (lv_sub hl [2, 1, 0] rfl)
  exact loop_4 _ 0 false (Nat.lt_succ_self _) (Nat.zero_le _) rfl _ _ _ I (lv_sub hl [2, 1, 0] rfl)
set_option maxHeartbeats 4000000 in
set_option maxRecDepth 100000 in
theorem c_isSound (l : Launch) (D : va_G) (cy : Nat → ClassId) (q : Nat → Nat) (N : Nat → Nat) (R X : Nat → Nat → Int32) (d : Nat) (hW : WFm N R) (hd : d < 2147483648) : MS (α := (Nat → Int32)) l D cy yX12_isSound cX12_isSound 3 (Option.some FieldType.boolean) rm_X12_isSound [.ref (q 33), .int (nI d)] (wM cy q N R X) (fun v_ (_ : Nat → Int32) => v_ = some (.int (bI (soB N R d)))) (fun u_ => wM cy q N R (va_up X 13 u_)) := by
  refine MS.mk2 (by decide) (Nat.le_of_ble_eq_true rfl) [(0, .ref (q 33)), (1, .int (nI d))] rfl ?_
  intro p e s m args below meth c A ls Q hQ S hr hlk hnm hK hA I hl
  have hW0 := hW
  obtain ⟨hB, hPt, hBo, hH, hM, hQu⟩ := hW0
  have hB0 := hB
  obtain ⟨b0, b6, b17, b24, b30⟩ := hB0
  refine lv_iconst (v := nI 0) S.1 S.2.1 dX12_isSound_0 (by decide) ?_
  refine lv_istore_n (lv' := [(2, .int (nI 0)), (0, .ref (q 33)), (1, .int (nI d))]) S.1 S.2.1 dX12_isSound_1 rfl hl (by decide) rfl (fun ls hl => ?_)
  have loop_2 : ∀ (k_ : Nat) (i : Nat), N 17 - i < k_ → i ≤ N 17 → neF R d i = true → ∀ (H : Heap) (locs : List Loc) (ls : Array Slot), IX D A s.heap (wM cy q N R X) H locs → lv_has ls 3 [(0, .ref (q 33)), (1, .int (nI d)), (2, .int (nI i))] → W p l e rm_X12_isSound s m args below meth c H locs 0 0 Q (F0 m 2 ls []) := by
    intro k_
    induction k_ with
    | zero => intro i hm_; exact absurd hm_ (Nat.not_lt_zero _)
    | succ k_ ih_2 =>
      intro i hm_ hi hne H locs ls I hl
      refine lv_iload_n S.1 S.2.1 dX12_isSound_2 rfl (lv_at hl 2 rfl) ?_
      refine lv_aload_n S.1 S.2.1 dX12_isSound_3 rfl (lv_at hl 0 rfl) ?_
      refine rg (ci := 12) (q0 := 0) (v := .int (nI (N 17))) 17 S hK I cl_X12 rfl wf_X12_123 (by decide) rfl rfl rfl dX12_isSound_4 ?_
      refine lv_icmp_ge (tgt := 49) S.1 S.2.1 dX12_isSound_7 (by decide) (fun c_7 => ?_) (fun c_7 => ?_)
      · skip
        have c_7o := c_7
        have c_7 := nI_cgeT (by omega) (by omega) c_7
        refine lv_aload_n S.1 S.2.1 dX12_isSound_49 rfl (lv_at hl 0 rfl) ?_
        refine lv_iload_n S.1 S.2.1 dX12_isSound_50 rfl (lv_at hl 1 rfl) ?_
        refine cV (np := 1) (ci := 12) (q0 := 0) (As := [.int (nI d)]) (rest := []) S (c_takeVersions l D cy q N R X d hW hd) hK hA I wm_X12_140 wi_X12_takeVersions ws_X12_X12_takeVersions wn_X12 wk_X12_takeVersions ⟨rfl, hd_X12_takeVersions⟩ rfl ⟨by decide, by decide⟩ rfl rfl hl.1 rfl (Nat.le_of_ble_eq_true rfl) dX12_isSound_51 ⟨by decide, by decide⟩ (fun v_ u_ H locs h_ I => ?_)
        obtain ⟨rfl, hnw_51⟩ := h_
        generalize u_ = nw_51 at hnw_51 I
        have hnw_51 : ∀ p, p < N 0 → nw_51 p = vtF R d (N 17) p := hnw_51
        have I : IX D A s.heap (wM cy q N R (va_up X 13 nw_51)) H locs := I
        refine W.eq (g2 := F0 m 54 ls []) rfl ?_
        refine lv_aload_n S.1 S.2.1 dX12_isSound_54 rfl (lv_at hl 0 rfl) ?_
        refine cV (np := 0) (ci := 12) (q0 := 0) (As := []) (rest := []) S (c_isQuarrelling l D cy q N R (va_up X 13 nw_51) hW) hK hA I wm_X12_155 wi_X12_isQuarrelling ws_X12_X12_isQuarrelling wn_X12 wk_X12_isQuarrelling ⟨rfl, hd_X12_isQuarrelling⟩ rfl ⟨by decide, by decide⟩ rfl rfl hl.1 rfl (Nat.le_of_ble_eq_true rfl) dX12_isSound_55 ⟨by decide, by decide⟩ (fun v_ u_ H locs h_ I => ?_)
        obtain rfl := h_
        have I : IX D A s.heap (wM cy q N R (va_up X 13 nw_51)) H locs := I
        refine W.eq (g2 := F0 m 58 ls [.int (bI (quF R nw_51 (N 24)))]) rfl ?_
        refine tI (y := bI (quF R (vtF R d (N 17)) (N 24))) (congrArg bI (quF_cg hQu hnw_51 _ (Nat.le_refl _))) ?_
        refine lv_if_ne (tgt := 65) S.1 S.2.1 dX12_isSound_58 (by decide) (fun c_58 => ?_) (fun c_58 => ?_)
        · skip
          have c_58 := bI_t c_58
          refine lv_iconst (v := nI 0) S.1 S.2.1 dX12_isSound_65 (by decide) ?_
          exact ru_z hQ S hr hlk (by decide) (u := nw_51) I (congrArg (fun z => some (Value.int z)) (bI_0 (by rw [soB, show N 17 = i by omega, hne]; rw [show N 17 = i by omega] at c_58; simp [c_58]))) dX12_isSound_66
        · skip
          have c_58 := bI_f c_58
          refine lv_iconst (v := nI 1) S.1 S.2.1 dX12_isSound_61 (by decide) ?_
          refine lv_goto (tgt := 66) S.1 S.2.1 dX12_isSound_62 (by decide) ?_
          exact ru_z hQ S hr hlk (by decide) (u := nw_51) I (congrArg (fun z => some (Value.int z)) (bI_1 (by rw [soB, show N 17 = i by omega, hne]; rw [show N 17 = i by omega] at c_58; simp [c_58]))) dX12_isSound_66
      · skip
        have c_7o := c_7
        have c_7 := nI_cgeF (by omega) (by omega) c_7
        refine lv_iload_n S.1 S.2.1 dX12_isSound_10 rfl (lv_at hl 1 rfl) ?_
        refine lv_iload_n S.1 S.2.1 dX12_isSound_11 rfl (lv_at hl 2 rfl) ?_
        refine lv_ishr S.1 S.2.1 dX12_isSound_12 ?_
        refine lv_iconst (v := nI 1) S.1 S.2.1 dX12_isSound_13 (by decide) ?_
        refine lv_iand S.1 S.2.1 dX12_isSound_14 ?_
        refine tI (y := bI (d.testBit i)) (bitD hd (by omega)) ?_
        refine lv_iconst (v := nI 1) S.1 S.2.1 dX12_isSound_15 (by decide) ?_
        refine lv_icmp_ne (tgt := 43) S.1 S.2.1 dX12_isSound_16 (by decide) (fun c_16 => ?_) (fun c_16 => ?_)
        · skip
          have c_16 := bI_eq1F c_16
          refine lv_iinc (v := nI (i + 1)) (lv' := [(2, .int (nI (i + 1))), (0, .ref (q 33)), (1, .int (nI d))]) S.1 S.2.1 dX12_isSound_43 hl (k := 2) rfl (nI_1 _) (by decide) rfl (fun ls hl => ?_)
          refine lv_goto (tgt := 2) S.1 S.2.1 dX12_isSound_46 (by decide) ?_
          exact ih_2 (i + 1) (by omega) (by omega) (by rw [neF, hne]; simp [c_16]) _ _ _ I (lv_sub hl [1, 2, 0] rfl)
        · skip
          have c_16 := bI_eq1T c_16
          refine lv_aload_n S.1 S.2.1 dX12_isSound_19 rfl (lv_at hl 0 rfl) ?_
          refine rg (ci := 12) (q0 := 0) (v := .ref (q 21)) 21 S hK I cl_X12 rfl wf_X12_65 (by decide) rfl rfl rfl dX12_isSound_20 ?_
          refine lv_iload_n S.1 S.2.1 dX12_isSound_23 rfl (lv_at hl 2 rfl) ?_
          refine ri (q0 := 19) (n := 8) (f := R 21) i S hK I rfl rfl (by omega) (by decide) dX12_isSound_24 ?_
          refine lv_if_lt (tgt := 43) S.1 S.2.1 dX12_isSound_25 (by decide) (fun c_25 => ?_) (fun c_25 => ?_)
          · skip
            refine lv_iinc (v := nI (i + 1)) (lv' := [(2, .int (nI (i + 1))), (0, .ref (q 33)), (1, .int (nI d))]) S.1 S.2.1 dX12_isSound_43 hl (k := 2) rfl (nI_1 _) (by decide) rfl (fun ls hl => ?_)
            refine lv_goto (tgt := 2) S.1 S.2.1 dX12_isSound_46 (by decide) ?_
            exact ih_2 (i + 1) (by omega) (by omega) (by rw [neF, hne]; simp [c_16, c_25]) _ _ _ I (lv_sub hl [1, 2, 0] rfl)
          · skip
            have hmn := need_of (hM i (by omega)).2.2.2.2.1 c_25
            refine lv_iload_n S.1 S.2.1 dX12_isSound_28 rfl (lv_at hl 1 rfl) ?_
            refine lv_aload_n S.1 S.2.1 dX12_isSound_29 rfl (lv_at hl 0 rfl) ?_
            refine rg (ci := 12) (q0 := 0) (v := .ref (q 21)) 21 S hK I cl_X12 rfl wf_X12_65 (by decide) rfl rfl rfl dX12_isSound_30 ?_
            refine lv_iload_n S.1 S.2.1 dX12_isSound_33 rfl (lv_at hl 2 rfl) ?_
            refine ri (q0 := 19) (n := 8) (f := R 21) i S hK I rfl rfl (by omega) (by decide) dX12_isSound_34 ?_
            refine tI (y := nI (mn R i)) hmn.1 ?_
            refine lv_ishr S.1 S.2.1 dX12_isSound_35 ?_
            refine lv_iconst (v := nI 1) S.1 S.2.1 dX12_isSound_36 (by decide) ?_
            refine lv_iand S.1 S.2.1 dX12_isSound_37 ?_
            refine tI (y := bI (d.testBit (mn R i))) (bitD hd (by omega)) ?_
            refine lv_if_ne (tgt := 43) S.1 S.2.1 dX12_isSound_38 (by decide) (fun c_38 => ?_) (fun c_38 => ?_)
            · skip
              have c_38 := bI_t c_38
              refine lv_iinc (v := nI (i + 1)) (lv' := [(2, .int (nI (i + 1))), (0, .ref (q 33)), (1, .int (nI d))]) S.1 S.2.1 dX12_isSound_43 hl (k := 2) rfl (nI_1 _) (by decide) rfl (fun ls hl => ?_)
              refine lv_goto (tgt := 2) S.1 S.2.1 dX12_isSound_46 (by decide) ?_
              exact ih_2 (i + 1) (by omega) (by omega) (by rw [neF, hne]; simp [c_16, c_25, c_38]) _ _ _ I (lv_sub hl [1, 2, 0] rfl)
            · skip
              have c_38 := bI_f c_38
              refine lv_iconst (v := nI 0) S.1 S.2.1 dX12_isSound_41 (by decide) ?_
              exact ru_z hQ S hr hlk (by decide) (u := X 13) I (congrArg (fun z => some (Value.int z)) (bI_0 (by rw [soB, neF_false (show i < N 17 by omega) (by simp [c_16, c_25, c_38]), Bool.false_and]))) dX12_isSound_42
  exact loop_2 _ 0 (Nat.lt_succ_self _) (Nat.zero_le _) rfl _ _ _ I (lv_sub hl [1, 2, 0] rfl)
set_option maxHeartbeats 4000000 in
set_option maxRecDepth 100000 in
theorem c_riskWith (l : Launch) (D : va_G) (cy : Nat → ClassId) (q : Nat → Nat) (N : Nat → Nat) (R X : Nat → Nat → Int32) (x : Int32) (hW : WFm N R) : MS (α := (Nat → Nat → Int32)) l D cy yX12_riskWith cX12_riskWith 2 (Option.some FieldType.int) rm_X12_riskWith [.ref (q 33), .int x] (wM cy q N R X) (fun v_ (_ : (Nat → Nat → Int32)) => v_ = some (.int (sp_riskWith N R x))) (fun u_ => wM cy q N R u_) := by
  refine MS.mk2 (by decide) (Nat.le_of_ble_eq_true rfl) [(0, .ref (q 33)), (1, .int x)] rfl ?_
  intro p e s m args below meth c A ls Q hQ S hr hlk hnm hK hA I hl
  have hW0 := hW
  obtain ⟨hB, hPt, hBo, hH, hM, hQu⟩ := hW0
  have hB0 := hB
  obtain ⟨b0, b6, b17, b24, b30⟩ := hB0
  have hp2 := pow_256 b17
  refine lv_aload_n S.1 S.2.1 dX12_riskWith_0 rfl (lv_at hl 0 rfl) ?_
  refine lv_iload_n S.1 S.2.1 dX12_riskWith_1 rfl (lv_at hl 1 rfl) ?_
  refine cV (np := 1) (ci := 12) (q0 := 0) (As := [.int x]) (rest := []) S (c_isSet l D cy q N R X x hB) hK hA I wm_X12_159 wi_X12_isSet ws_X12_X12_isSet wn_X12 wk_X12_isSet ⟨rfl, hd_X12_isSet⟩ rfl ⟨by decide, by decide⟩ rfl rfl hl.1 rfl (Nat.le_of_ble_eq_true rfl) dX12_riskWith_2 ⟨by decide, by decide⟩ (fun v_ u_ H locs h_ I => ?_)
  obtain rfl := h_
  have I : IX D A s.heap (wM cy q N R X) H locs := I
  refine W.eq (g2 := F0 m 5 ls [.int (bI (isP (2 ^ N 17) x))]) rfl ?_
  refine lv_if_eq (tgt := 16) S.1 S.2.1 dX12_riskWith_5 (by decide) (fun c_5 => ?_) (fun c_5 => ?_)
  · skip
    have c_5 := bI_f c_5
    refine lv_iconst (v := (-1)) S.1 S.2.1 dX12_riskWith_16 (by decide) ?_
    exact ru_i hQ S hr hlk (u := X) I (by simp [sp_riskWith, c_5]) dX12_riskWith_17
  · skip
    have c_5 := bI_t c_5
    obtain ⟨j, h_j, rfl⟩ := isP_of c_5 (Nat.lt_of_le_of_lt (pow_256 b17) (by decide))
    have e_j : (nI j).toNatClampNeg = j := nI_clamp (by omega)
    refine lv_aload_n S.1 S.2.1 dX12_riskWith_8 rfl (lv_at hl 0 rfl) ?_
    refine lv_iload_n S.1 S.2.1 dX12_riskWith_9 rfl (lv_at hl 1 rfl) ?_
    refine cV (np := 1) (ci := 12) (q0 := 0) (As := [.int (nI j)]) (rest := []) S (c_riskOf l D cy q N R X j hW (by omega)) hK hA I wm_X12_148 wi_X12_riskOf ws_X12_X12_riskOf wn_X12 wk_X12_riskOf ⟨rfl, hd_X12_riskOf⟩ rfl ⟨by decide, by decide⟩ rfl rfl hl.1 rfl (Nat.le_of_ble_eq_true rfl) dX12_riskWith_10 ⟨by decide, by decide⟩ (fun v_ u_ H locs h_ I => ?_)
    obtain ⟨rfl, hv_10, hr_10⟩ := h_
    obtain ⟨a13_10, a14_10, a15_10, a16_10⟩ := u_
    have hr_10 : RowS N R (vtF R j (N 17)) (eS N R (vtF R j (N 17))) a14_10 a15_10 a16_10 := hr_10
    have I : IX D A s.heap (wM cy q N R (va_up (va_up (va_up (va_up X 13 a13_10) 14 a14_10) 15 a15_10) 16 a16_10)) H locs := I
    refine W.eq (g2 := F0 m 13 ls [.int (nI (rsk N R (vtF R j (N 17))))]) rfl ?_
    refine lv_goto (tgt := 17) S.1 S.2.1 dX12_riskWith_13 (by decide) ?_
    exact ru_i hQ S hr hlk (u := (va_up (va_up (va_up (va_up X 13 a13_10) 14 a14_10) 15 a15_10) 16 a16_10)) I (by simp [sp_riskWith, c_5, e_j]) dX12_riskWith_17
set_option maxHeartbeats 4000000 in
set_option maxRecDepth 100000 in
theorem c_sound (l : Launch) (D : va_G) (cy : Nat → ClassId) (q : Nat → Nat) (N : Nat → Nat) (R X : Nat → Nat → Int32) (x : Int32) (hW : WFm N R) : MS (α := (Nat → Nat → Int32)) l D cy yX12_sound cX12_sound 2 (Option.some FieldType.int) rm_X12_sound [.ref (q 33), .int x] (wM cy q N R X) (fun v_ (_ : (Nat → Nat → Int32)) => v_ = some (.int (sp_sound N R x))) (fun u_ => wM cy q N R u_) := by
  refine MS.mk2 (by decide) (Nat.le_of_ble_eq_true rfl) [(0, .ref (q 33)), (1, .int x)] rfl ?_
  intro p e s m args below meth c A ls Q hQ S hr hlk hnm hK hA I hl
  have hW0 := hW
  obtain ⟨hB, hPt, hBo, hH, hM, hQu⟩ := hW0
  have hB0 := hB
  obtain ⟨b0, b6, b17, b24, b30⟩ := hB0
  have hp2 := pow_256 b17
  refine lv_aload_n S.1 S.2.1 dX12_sound_0 rfl (lv_at hl 0 rfl) ?_
  refine lv_iload_n S.1 S.2.1 dX12_sound_1 rfl (lv_at hl 1 rfl) ?_
  refine cV (np := 1) (ci := 12) (q0 := 0) (As := [.int x]) (rest := []) S (c_isSet l D cy q N R X x hB) hK hA I wm_X12_159 wi_X12_isSet ws_X12_X12_isSet wn_X12 wk_X12_isSet ⟨rfl, hd_X12_isSet⟩ rfl ⟨by decide, by decide⟩ rfl rfl hl.1 rfl (Nat.le_of_ble_eq_true rfl) dX12_sound_2 ⟨by decide, by decide⟩ (fun v_ u_ H locs h_ I => ?_)
  obtain rfl := h_
  have I : IX D A s.heap (wM cy q N R X) H locs := I
  refine W.eq (g2 := F0 m 5 ls [.int (bI (isP (2 ^ N 17) x))]) rfl ?_
  refine lv_if_ne (tgt := 12) S.1 S.2.1 dX12_sound_5 (by decide) (fun c_5 => ?_) (fun c_5 => ?_)
  · skip
    have c_5 := bI_t c_5
    obtain ⟨j, h_j, rfl⟩ := isP_of c_5 (Nat.lt_of_le_of_lt (pow_256 b17) (by decide))
    have e_j : (nI j).toNatClampNeg = j := nI_clamp (by omega)
    refine lv_aload_n S.1 S.2.1 dX12_sound_12 rfl (lv_at hl 0 rfl) ?_
    refine lv_iload_n S.1 S.2.1 dX12_sound_13 rfl (lv_at hl 1 rfl) ?_
    refine cV (np := 1) (ci := 12) (q0 := 0) (As := [.int (nI j)]) (rest := []) S (c_isSound l D cy q N R X j hW (by omega)) hK hA I wm_X12_162 wi_X12_isSound ws_X12_X12_isSound wn_X12 wk_X12_isSound ⟨rfl, hd_X12_isSound⟩ rfl ⟨by decide, by decide⟩ rfl rfl hl.1 rfl (Nat.le_of_ble_eq_true rfl) dX12_sound_14 ⟨by decide, by decide⟩ (fun v_ u_ H locs h_ I => ?_)
    obtain rfl := h_
    generalize u_ = nw_14 at I
    have I : IX D A s.heap (wM cy q N R (va_up X 13 nw_14)) H locs := I
    refine W.eq (g2 := F0 m 17 ls [.int (bI (soB N R j))]) rfl ?_
    refine lv_if_eq (tgt := 24) S.1 S.2.1 dX12_sound_17 (by decide) (fun c_17 => ?_) (fun c_17 => ?_)
    · skip
      have c_17 := bI_f c_17
      refine lv_iconst (v := nI 0) S.1 S.2.1 dX12_sound_24 (by decide) ?_
      exact ru_i hQ S hr hlk (u := (va_up X 13 nw_14)) I (by simp [sp_sound, c_5, e_j, c_17, bI, nI_one, nI_zero]) dX12_sound_25
    · skip
      have c_17 := bI_t c_17
      refine lv_iconst (v := nI 1) S.1 S.2.1 dX12_sound_20 (by decide) ?_
      refine lv_goto (tgt := 25) S.1 S.2.1 dX12_sound_21 (by decide) ?_
      exact ru_i hQ S hr hlk (u := (va_up X 13 nw_14)) I (by simp [sp_sound, c_5, e_j, c_17, bI, nI_one, nI_zero]) dX12_sound_25
  · skip
    have c_5 := bI_f c_5
    refine lv_iconst (v := (-1)) S.1 S.2.1 dX12_sound_8 (by decide) ?_
    refine lv_goto (tgt := 25) S.1 S.2.1 dX12_sound_9 (by decide) ?_
    exact ru_i hQ S hr hlk (u := X) I (by simp [sp_sound, c_5, bI, nI_one, nI_zero]) dX12_sound_25
set_option maxHeartbeats 4000000 in
set_option maxRecDepth 100000 in
theorem c_gain (l : Launch) (D : va_G) (cy : Nat → ClassId) (q : Nat → Nat) (N : Nat → Nat) (R X : Nat → Nat → Int32) (x y : Int32) (hW : WFm N R) : MS (α := (Nat → Nat → Int32)) l D cy yX12_gain cX12_gain 3 (Option.some FieldType.int) rm_X12_gain [.ref (q 33), .int x, .int y] (wM cy q N R X) (fun v_ (_ : (Nat → Nat → Int32)) => v_ = some (.int (sp_gain N R x y))) (fun u_ => wM cy q N R u_) := by
  refine MS.mk2 (by decide) (Nat.le_of_ble_eq_true rfl) [(0, .ref (q 33)), (1, .int x), (2, .int y)] rfl ?_
  intro p e s m args below meth c A ls Q hQ S hr hlk hnm hK hA I hl
  have hW0 := hW
  obtain ⟨hB, hPt, hBo, hH, hM, hQu⟩ := hW0
  have hB0 := hB
  obtain ⟨b0, b6, b17, b24, b30⟩ := hB0
  have hp2 := pow_256 b17
  refine lv_aload_n S.1 S.2.1 dX12_gain_0 rfl (lv_at hl 0 rfl) ?_
  refine lv_iload_n S.1 S.2.1 dX12_gain_1 rfl (lv_at hl 1 rfl) ?_
  refine cV (np := 1) (ci := 12) (q0 := 0) (As := [.int x]) (rest := []) S (c_isMend l D cy q N R X (x) hB) hK hA I wm_X12_165 wi_X12_isMend ws_X12_X12_isMend wn_X12 wk_X12_isMend ⟨rfl, hd_X12_isMend⟩ rfl ⟨by decide, by decide⟩ rfl rfl hl.1 rfl (Nat.le_of_ble_eq_true rfl) dX12_gain_2 ⟨by decide, by decide⟩ (fun v_ u_ H locs h_ I => ?_)
  obtain rfl := h_
  have I : IX D A s.heap (wM cy q N R X) H locs := I
  refine W.eq (g2 := F0 m 5 ls [.int (bI (isP (N 17) x))]) rfl ?_
  refine lv_if_eq (tgt := 25) S.1 S.2.1 dX12_gain_5 (by decide) (fun c_5 => ?_) (fun c_5 => ?_)
  · skip
    have c_5 := bI_f c_5
    refine lv_ldc (v := -100001) S.1 S.2.1 S.2.2.2.1 (S.2.2.2.2 _ (List.mem_cons_of_mem _ wx_902)) dX12_gain_25 ?_
    exact ru_i hQ S hr hlk (u := X) I (by simp [sp_gain, c_5]) dX12_gain_27
  · skip
    have c_5 := bI_t c_5
    obtain ⟨j, h_j, rfl⟩ := isP_of c_5 (by omega)
    have e_j : (nI j).toNatClampNeg = j := nI_clamp (by omega)
    refine lv_aload_n S.1 S.2.1 dX12_gain_8 rfl (lv_at hl 0 rfl) ?_
    refine lv_iload_n S.1 S.2.1 dX12_gain_9 rfl (lv_at hl 2 rfl) ?_
    refine cV (np := 1) (ci := 12) (q0 := 0) (As := [.int y]) (rest := []) S (c_isSet l D cy q N R X y hB) hK hA I wm_X12_159 wi_X12_isSet ws_X12_X12_isSet wn_X12 wk_X12_isSet ⟨rfl, hd_X12_isSet⟩ rfl ⟨by decide, by decide⟩ rfl rfl hl.1 rfl (Nat.le_of_ble_eq_true rfl) dX12_gain_10 ⟨by decide, by decide⟩ (fun v_ u_ H locs h_ I => ?_)
    obtain rfl := h_
    have I : IX D A s.heap (wM cy q N R X) H locs := I
    refine W.eq (g2 := F0 m 13 ls [.int (bI (isP (2 ^ N 17) y))]) rfl ?_
    refine lv_if_eq (tgt := 25) S.1 S.2.1 dX12_gain_13 (by decide) (fun c_13 => ?_) (fun c_13 => ?_)
    · skip
      have c_13 := bI_f c_13
      refine lv_ldc (v := -100001) S.1 S.2.1 S.2.2.2.1 (S.2.2.2.2 _ (List.mem_cons_of_mem _ wx_902)) dX12_gain_25 ?_
      exact ru_i hQ S hr hlk (u := X) I (by simp [sp_gain, c_5, e_j, c_13]) dX12_gain_27
    · skip
      have c_13 := bI_t c_13
      obtain ⟨d, h_d, rfl⟩ := isP_of c_13 (Nat.lt_of_le_of_lt (pow_256 b17) (by decide))
      have e_d : (nI d).toNatClampNeg = d := nI_clamp (by omega)
      refine lv_iload_n S.1 S.2.1 dX12_gain_16 rfl (lv_at hl 2 rfl) ?_
      refine lv_iload_n S.1 S.2.1 dX12_gain_17 rfl (lv_at hl 1 rfl) ?_
      refine lv_ishr S.1 S.2.1 dX12_gain_18 ?_
      refine lv_iconst (v := nI 1) S.1 S.2.1 dX12_gain_19 (by decide) ?_
      refine lv_iand S.1 S.2.1 dX12_gain_20 ?_
      refine tI (y := bI (d.testBit j)) (bitD (by omega) (by omega)) ?_
      refine lv_iconst (v := nI 1) S.1 S.2.1 dX12_gain_21 (by decide) ?_
      refine lv_icmp_ne (tgt := 28) S.1 S.2.1 dX12_gain_22 (by decide) (fun c_22 => ?_) (fun c_22 => ?_)
      · skip
        have c_22 := bI_eq1F c_22
        refine lv_aload_n S.1 S.2.1 dX12_gain_28 rfl (lv_at hl 0 rfl) ?_
        refine lv_iload_n S.1 S.2.1 dX12_gain_29 rfl (lv_at hl 2 rfl) ?_
        refine cV (np := 1) (ci := 12) (q0 := 0) (As := [.int (nI d)]) (rest := []) S (c_riskOf l D cy q N R X d hW (by omega)) hK hA I wm_X12_148 wi_X12_riskOf ws_X12_X12_riskOf wn_X12 wk_X12_riskOf ⟨rfl, hd_X12_riskOf⟩ rfl ⟨by decide, by decide⟩ rfl rfl hl.1 rfl (Nat.le_of_ble_eq_true rfl) dX12_gain_30 ⟨by decide, by decide⟩ (fun v_ u_ H locs h_ I => ?_)
        obtain ⟨rfl, hv_30, hr_30⟩ := h_
        obtain ⟨a13_30, a14_30, a15_30, a16_30⟩ := u_
        have hr_30 : RowS N R (vtF R d (N 17)) (eS N R (vtF R d (N 17))) a14_30 a15_30 a16_30 := hr_30
        have I : IX D A s.heap (wM cy q N R (va_up (va_up (va_up (va_up X 13 a13_30) 14 a14_30) 15 a15_30) 16 a16_30)) H locs := I
        refine W.eq (g2 := F0 m 33 ls [.int (nI (rsk N R (vtF R d (N 17))))]) rfl ?_
        refine lv_aload_n S.1 S.2.1 dX12_gain_33 rfl (lv_at hl 0 rfl) ?_
        refine lv_iload_n S.1 S.2.1 dX12_gain_34 rfl (lv_at hl 2 rfl) ?_
        refine lv_iconst (v := nI 1) S.1 S.2.1 dX12_gain_35 (by decide) ?_
        refine lv_iload_n S.1 S.2.1 dX12_gain_36 rfl (lv_at hl 1 rfl) ?_
        refine lv_ishl S.1 S.2.1 dX12_gain_37 ?_
        refine tI (y := nI (2 ^ j)) (bitS (by omega)) ?_
        refine lv_ior S.1 S.2.1 dX12_gain_38 ?_
        refine tI (y := nI (d ||| (2 ^ j))) (fa_or _ _) ?_
        refine cV (np := 1) (ci := 12) (q0 := 0) (As := [.int (nI (d ||| (2 ^ j)))]) (rest := [.int (nI (rsk N R (vtF R d (N 17))))]) S (c_riskOf l D cy q N R (va_up (va_up (va_up (va_up X 13 a13_30) 14 a14_30) 15 a15_30) 16 a16_30) (d ||| (2 ^ j)) hW (Nat.lt_trans (or256 (by omega) (by omega)) (by decide))) hK hA I wm_X12_148 wi_X12_riskOf ws_X12_X12_riskOf wn_X12 wk_X12_riskOf ⟨rfl, hd_X12_riskOf⟩ rfl ⟨by decide, by decide⟩ rfl rfl hl.1 rfl (Nat.le_of_ble_eq_true rfl) dX12_gain_39 ⟨by decide, by decide⟩ (fun v_ u_ H locs h_ I => ?_)
        obtain ⟨rfl, hv_39, hr_39⟩ := h_
        obtain ⟨a13_39, a14_39, a15_39, a16_39⟩ := u_
        have hr_39 : RowS N R (vtF R (d ||| (2 ^ j)) (N 17)) (eS N R (vtF R (d ||| (2 ^ j)) (N 17))) a14_39 a15_39 a16_39 := hr_39
        have I : IX D A s.heap (wM cy q N R (va_up (va_up (va_up (va_up X 13 a13_39) 14 a14_39) 15 a15_39) 16 a16_39)) H locs := I
        refine W.eq (g2 := F0 m 42 ls [.int (nI (rsk N R (vtF R (d ||| (2 ^ j)) (N 17)))), .int (nI (rsk N R (vtF R d (N 17))))]) rfl ?_
        refine lv_isub S.1 S.2.1 dX12_gain_42 ?_
        exact ru_i hQ S hr hlk (u := (va_up (va_up (va_up (va_up X 13 a13_39) 14 a14_39) 15 a15_39) 16 a16_39)) I (by simp [sp_gain, c_5, e_j, c_13, e_d, c_22]) dX12_gain_43
      · skip
        have c_22 := bI_eq1T c_22
        refine lv_ldc (v := -100001) S.1 S.2.1 S.2.2.2.1 (S.2.2.2.2 _ (List.mem_cons_of_mem _ wx_902)) dX12_gain_25 ?_
        exact ru_i hQ S hr hlk (u := X) I (by simp [sp_gain, c_5, e_j, c_13, e_d, c_22]) dX12_gain_27
set_option maxHeartbeats 4000000 in
set_option maxRecDepth 100000 in
theorem c_next (l : Launch) (D : va_G) (cy : Nat → ClassId) (q : Nat → Nat) (N : Nat → Nat) (R X : Nat → Nat → Int32) (x : Int32) (hW : WFm N R) : MS (α := (Nat → Nat → Int32)) l D cy yX12_next cX12_next 6 (Option.some FieldType.int) rm_X12_next [.ref (q 33), .int x] (wM cy q N R X) (fun v_ (_ : (Nat → Nat → Int32)) => v_ = some (.int (sp_next N R x))) (fun u_ => wM cy q N R u_) := by
  refine MS.mk2 (by decide) (Nat.le_of_ble_eq_true rfl) [(0, .ref (q 33)), (1, .int x)] rfl ?_
  intro p e s m args below meth c A ls Q hQ S hr hlk hnm hK hA I hl
  have hW0 := hW
  obtain ⟨hB, hPt, hBo, hH, hM, hQu⟩ := hW0
  have hB0 := hB
  obtain ⟨b0, b6, b17, b24, b30⟩ := hB0
  have hp2 := pow_256 b17
  refine lv_aload_n S.1 S.2.1 dX12_next_0 rfl (lv_at hl 0 rfl) ?_
  refine lv_iload_n S.1 S.2.1 dX12_next_1 rfl (lv_at hl 1 rfl) ?_
  refine cV (np := 1) (ci := 12) (q0 := 0) (As := [.int x]) (rest := []) S (c_isSet l D cy q N R X x hB) hK hA I wm_X12_159 wi_X12_isSet ws_X12_X12_isSet wn_X12 wk_X12_isSet ⟨rfl, hd_X12_isSet⟩ rfl ⟨by decide, by decide⟩ rfl rfl hl.1 rfl (Nat.le_of_ble_eq_true rfl) dX12_next_2 ⟨by decide, by decide⟩ (fun v_ u_ H locs h_ I => ?_)
  obtain rfl := h_
  have I : IX D A s.heap (wM cy q N R X) H locs := I
  refine W.eq (g2 := F0 m 5 ls [.int (bI (isP (2 ^ N 17) x))]) rfl ?_
  refine lv_if_ne (tgt := 10) S.1 S.2.1 dX12_next_5 (by decide) (fun c_5 => ?_) (fun c_5 => ?_)
  · skip
    have c_5 := bI_t c_5
    obtain ⟨d, h_d, rfl⟩ := isP_of c_5 (Nat.lt_of_le_of_lt (pow_256 b17) (by decide))
    have e_d : (nI d).toNatClampNeg = d := nI_clamp (by omega)
    refine lv_bipush (v := (-4)) S.1 S.2.1 dX12_next_10 (by decide) ?_
    refine lv_istore_n (lv' := [(2, .int (-4)), (0, .ref (q 33)), (1, .int (nI d))]) S.1 S.2.1 dX12_next_12 rfl hl (by decide) rfl (fun ls hl => ?_)
    refine lv_iconst (v := nI 0) S.1 S.2.1 dX12_next_13 (by decide) ?_
    refine lv_istore_n (lv' := [(3, .int (nI 0)), (2, .int (-4)), (0, .ref (q 33)), (1, .int (nI d))]) S.1 S.2.1 dX12_next_14 rfl hl (by decide) rfl (fun ls hl => ?_)
    refine lv_iconst (v := nI 0) S.1 S.2.1 dX12_next_15 (by decide) ?_
    refine lv_istore (lv' := [(4, .int (nI 0)), (3, .int (nI 0)), (2, .int (-4)), (0, .ref (q 33)), (1, .int (nI d))]) S.1 S.2.1 dX12_next_16 hl (by decide) rfl (fun ls hl => ?_)
    have loop_18 : ∀ (k_ : Nat) (k2 : Nat) (be : Int32) (mo : Int32) (z13 : Nat → Int32) (z14 : Nat → Int32) (z15 : Nat → Int32) (z16 : Nat → Int32), N 17 - k2 < k_ → k2 ≤ N 17 → (be, mo) = nxF N R d k2 → (be = -4 ∨ ∃ z, z < k2 ∧ be = nI z) → ∀ (H : Heap) (locs : List Loc) (ls : Array Slot), IX D A s.heap (wM cy q N R (va_up (va_up (va_up (va_up X 13 z13) 14 z14) 15 z15) 16 z16)) H locs → lv_has ls 6 [(0, .ref (q 33)), (1, .int (nI d)), (2, .int be), (3, .int mo), (4, .int (nI k2))] → W p l e rm_X12_next s m args below meth c H locs 0 0 Q (F0 m 18 ls []) := by
      intro k_
      induction k_ with
      | zero => intro k2 be mo z13 z14 z15 z16 hm_; exact absurd hm_ (Nat.not_lt_zero _)
      | succ k_ ih_18 =>
        intro k2 be mo z13 z14 z15 z16 hm_ hk2 hnx hbe H locs ls I hl
        refine lv_iload S.1 S.2.1 dX12_next_18 (lv_at hl 4 rfl) ?_
        refine lv_aload_n S.1 S.2.1 dX12_next_20 rfl (lv_at hl 0 rfl) ?_
        refine rg (ci := 12) (q0 := 0) (v := .int (nI (N 17))) 17 S hK I cl_X12 rfl wf_X12_123 (by decide) rfl rfl rfl dX12_next_21 ?_
        refine lv_icmp_ge (tgt := 111) S.1 S.2.1 dX12_next_24 (by decide) (fun c_24 => ?_) (fun c_24 => ?_)
        · skip
          have c_24o := c_24
          have c_24 := nI_cgeT (by omega) (by omega) c_24
          refine lv_iload_n S.1 S.2.1 dX12_next_111 rfl (lv_at hl 2 rfl) ?_
          exact ru_i hQ S hr hlk (u := (va_up (va_up (va_up (va_up X 13 z13) 14 z14) 15 z15) 16 z16)) I (congrArg (fun z => some (Value.int z)) (by rw [sp_next, if_pos c_5, e_d, show N 17 = k2 by omega, ← hnx])) dX12_next_112
        · skip
          have c_24o := c_24
          have c_24 := nI_cgeF (by omega) (by omega) c_24
          refine lv_iload_n S.1 S.2.1 dX12_next_27 rfl (lv_at hl 1 rfl) ?_
          refine lv_iload S.1 S.2.1 dX12_next_28 (lv_at hl 4 rfl) ?_
          refine lv_ishr S.1 S.2.1 dX12_next_30 ?_
          refine lv_iconst (v := nI 1) S.1 S.2.1 dX12_next_31 (by decide) ?_
          refine lv_iand S.1 S.2.1 dX12_next_32 ?_
          refine tI (y := bI (d.testBit k2)) (bitD (by omega) (by omega)) ?_
          refine lv_if_ne (tgt := 105) S.1 S.2.1 dX12_next_33 (by decide) (fun c_33 => ?_) (fun c_33 => ?_)
          · skip
            have c_33 := bI_t c_33
            refine lv_iinc (v := nI (k2 + 1)) (lv' := [(4, .int (nI (k2 + 1))), (0, .ref (q 33)), (1, .int (nI d)), (2, .int be), (3, .int mo)]) S.1 S.2.1 dX12_next_105 hl (k := 4) rfl (nI_1 _) (by decide) rfl (fun ls hl => ?_)
            refine lv_goto (tgt := 18) S.1 S.2.1 dX12_next_108 (by decide) ?_
            exact ih_18 (k2 + 1) be mo z13 z14 z15 z16 (by omega) (by omega) (by rw [nxF, ← hnx]; rw [if_neg (fun h => by rw [c_33] at h; exact Bool.false_ne_true h.1.symm)]) (hbe.imp_right (fun ⟨z, hz, e⟩ => ⟨z, by omega, e⟩)) _ _ _ I (lv_sub hl [1, 2, 3, 4, 0] rfl)
          · skip
            have c_33 := bI_f c_33
            refine lv_aload_n S.1 S.2.1 dX12_next_36 rfl (lv_at hl 0 rfl) ?_
            refine lv_iload_n S.1 S.2.1 dX12_next_37 rfl (lv_at hl 1 rfl) ?_
            refine lv_iconst (v := nI 1) S.1 S.2.1 dX12_next_38 (by decide) ?_
            refine lv_iload S.1 S.2.1 dX12_next_39 (lv_at hl 4 rfl) ?_
            refine lv_ishl S.1 S.2.1 dX12_next_41 ?_
            refine tI (y := nI (2 ^ k2)) (bitS (by omega)) ?_
            refine lv_ior S.1 S.2.1 dX12_next_42 ?_
            refine tI (y := nI (d ||| (2 ^ k2))) (fa_or _ _) ?_
            refine cV (np := 1) (ci := 12) (q0 := 0) (As := [.int (nI (d ||| (2 ^ k2)))]) (rest := []) S (c_isSound l D cy q N R (va_up (va_up (va_up (va_up X 13 z13) 14 z14) 15 z15) 16 z16) (d ||| (2 ^ k2)) hW (Nat.lt_trans (or256 (by omega) (by omega)) (by decide))) hK hA I wm_X12_162 wi_X12_isSound ws_X12_X12_isSound wn_X12 wk_X12_isSound ⟨rfl, hd_X12_isSound⟩ rfl ⟨by decide, by decide⟩ rfl rfl hl.1 rfl (Nat.le_of_ble_eq_true rfl) dX12_next_43 ⟨by decide, by decide⟩ (fun v_ u_ H locs h_ I => ?_)
            obtain rfl := h_
            generalize u_ = nw_43 at I
            have I : IX D A s.heap (wM cy q N R (va_up (va_up (va_up (va_up X 13 nw_43) 14 z14) 15 z15) 16 z16)) H locs := I
            refine W.eq (g2 := F0 m 46 ls [.int (bI (soB N R (d ||| (2 ^ k2))))]) rfl ?_
            refine lv_if_eq (tgt := 105) S.1 S.2.1 dX12_next_46 (by decide) (fun c_46 => ?_) (fun c_46 => ?_)
            · skip
              have c_46 := bI_f c_46
              refine lv_iinc (v := nI (k2 + 1)) (lv' := [(4, .int (nI (k2 + 1))), (0, .ref (q 33)), (1, .int (nI d)), (2, .int be), (3, .int mo)]) S.1 S.2.1 dX12_next_105 hl (k := 4) rfl (nI_1 _) (by decide) rfl (fun ls hl => ?_)
              refine lv_goto (tgt := 18) S.1 S.2.1 dX12_next_108 (by decide) ?_
              exact ih_18 (k2 + 1) be mo nw_43 z14 z15 z16 (by omega) (by omega) (by rw [nxF, ← hnx]; rw [if_neg (fun h => by rw [c_46] at h; exact Bool.false_ne_true h.2.1)]) (hbe.imp_right (fun ⟨z, hz, e⟩ => ⟨z, by omega, e⟩)) _ _ _ I (lv_sub hl [1, 2, 3, 4, 0] rfl)
            · skip
              have c_46 := bI_t c_46
              refine lv_aload_n S.1 S.2.1 dX12_next_49 rfl (lv_at hl 0 rfl) ?_
              refine lv_iload_n S.1 S.2.1 dX12_next_50 rfl (lv_at hl 1 rfl) ?_
              refine cV (np := 1) (ci := 12) (q0 := 0) (As := [.int (nI d)]) (rest := []) S (c_riskOf l D cy q N R (va_up (va_up (va_up (va_up X 13 nw_43) 14 z14) 15 z15) 16 z16) d hW (by omega)) hK hA I wm_X12_148 wi_X12_riskOf ws_X12_X12_riskOf wn_X12 wk_X12_riskOf ⟨rfl, hd_X12_riskOf⟩ rfl ⟨by decide, by decide⟩ rfl rfl hl.1 rfl (Nat.le_of_ble_eq_true rfl) dX12_next_51 ⟨by decide, by decide⟩ (fun v_ u_ H locs h_ I => ?_)
              obtain ⟨rfl, hv_51, hr_51⟩ := h_
              obtain ⟨a13_51, a14_51, a15_51, a16_51⟩ := u_
              have hr_51 : RowS N R (vtF R d (N 17)) (eS N R (vtF R d (N 17))) a14_51 a15_51 a16_51 := hr_51
              have I : IX D A s.heap (wM cy q N R (va_up (va_up (va_up (va_up X 13 a13_51) 14 a14_51) 15 a15_51) 16 a16_51)) H locs := I
              refine W.eq (g2 := F0 m 54 ls [.int (nI (rsk N R (vtF R d (N 17))))]) rfl ?_
              refine lv_aload_n S.1 S.2.1 dX12_next_54 rfl (lv_at hl 0 rfl) ?_
              refine lv_iload_n S.1 S.2.1 dX12_next_55 rfl (lv_at hl 1 rfl) ?_
              refine lv_iconst (v := nI 1) S.1 S.2.1 dX12_next_56 (by decide) ?_
              refine lv_iload S.1 S.2.1 dX12_next_57 (lv_at hl 4 rfl) ?_
              refine lv_ishl S.1 S.2.1 dX12_next_59 ?_
              refine tI (y := nI (2 ^ k2)) (bitS (by omega)) ?_
              refine lv_ior S.1 S.2.1 dX12_next_60 ?_
              refine tI (y := nI (d ||| (2 ^ k2))) (fa_or _ _) ?_
              refine cV (np := 1) (ci := 12) (q0 := 0) (As := [.int (nI (d ||| (2 ^ k2)))]) (rest := [.int (nI (rsk N R (vtF R d (N 17))))]) S (c_riskOf l D cy q N R (va_up (va_up (va_up (va_up X 13 a13_51) 14 a14_51) 15 a15_51) 16 a16_51) (d ||| (2 ^ k2)) hW (Nat.lt_trans (or256 (by omega) (by omega)) (by decide))) hK hA I wm_X12_148 wi_X12_riskOf ws_X12_X12_riskOf wn_X12 wk_X12_riskOf ⟨rfl, hd_X12_riskOf⟩ rfl ⟨by decide, by decide⟩ rfl rfl hl.1 rfl (Nat.le_of_ble_eq_true rfl) dX12_next_61 ⟨by decide, by decide⟩ (fun v_ u_ H locs h_ I => ?_)
              obtain ⟨rfl, hv_61, hr_61⟩ := h_
              obtain ⟨a13_61, a14_61, a15_61, a16_61⟩ := u_
              have hr_61 : RowS N R (vtF R (d ||| (2 ^ k2)) (N 17)) (eS N R (vtF R (d ||| (2 ^ k2)) (N 17))) a14_61 a15_61 a16_61 := hr_61
              have I : IX D A s.heap (wM cy q N R (va_up (va_up (va_up (va_up X 13 a13_61) 14 a14_61) 15 a15_61) 16 a16_61)) H locs := I
              refine W.eq (g2 := F0 m 64 ls [.int (nI (rsk N R (vtF R (d ||| (2 ^ k2)) (N 17)))), .int (nI (rsk N R (vtF R d (N 17))))]) rfl ?_
              refine lv_isub S.1 S.2.1 dX12_next_64 ?_
              refine tI (y := nxV N R d k2) rfl ?_
              refine lv_istore (lv' := [(5, .int (nxV N R d k2)), (0, .ref (q 33)), (1, .int (nI d)), (2, .int be), (3, .int mo), (4, .int (nI k2))]) S.1 S.2.1 dX12_next_65 hl (by decide) rfl (fun ls hl => ?_)
              refine lv_iload S.1 S.2.1 dX12_next_67 (lv_at hl 0 rfl) ?_
              refine lv_if_le (tgt := 105) S.1 S.2.1 dX12_next_69 (by decide) (fun c_69 => ?_) (fun c_69 => ?_)
              · skip
                refine lv_iinc (v := nI (k2 + 1)) (lv' := [(4, .int (nI (k2 + 1))), (5, .int (nxV N R d k2)), (0, .ref (q 33)), (1, .int (nI d)), (2, .int be), (3, .int mo)]) S.1 S.2.1 dX12_next_105 hl (k := 5) rfl (nI_1 _) (by decide) rfl (fun ls hl => ?_)
                refine lv_goto (tgt := 18) S.1 S.2.1 dX12_next_108 (by decide) ?_
                exact ih_18 (k2 + 1) be mo a13_61 a14_61 a15_61 a16_61 (by omega) (by omega) (by rw [nxF, ← hnx]; rw [if_neg (fun h => h.2.2.1 c_69)]) (hbe.imp_right (fun ⟨z, hz, e⟩ => ⟨z, by omega, e⟩)) _ _ _ I (lv_sub hl [2, 3, 4, 5, 0] rfl)
              · skip
                refine lv_iload_n S.1 S.2.1 dX12_next_72 rfl (lv_at hl 3 rfl) ?_
                refine lv_bipush (v := (-4)) S.1 S.2.1 dX12_next_73 (by decide) ?_
                refine lv_icmp_eq (tgt := 99) S.1 S.2.1 dX12_next_75 (by decide) (fun c_75 => ?_) (fun c_75 => ?_)
                · skip
                  refine lv_iload S.1 S.2.1 dX12_next_99 (lv_at hl 5 rfl) ?_
                  refine lv_istore_n (lv' := [(2, .int (nI k2)), (5, .int (nxV N R d k2)), (0, .ref (q 33)), (1, .int (nI d)), (3, .int mo), (4, .int (nI k2))]) S.1 S.2.1 dX12_next_101 rfl hl (by decide) rfl (fun ls hl => ?_)
                  refine lv_iload S.1 S.2.1 dX12_next_102 (lv_at hl 1 rfl) ?_
                  refine lv_istore_n (lv' := [(3, .int (nxV N R d k2)), (2, .int (nI k2)), (5, .int (nxV N R d k2)), (0, .ref (q 33)), (1, .int (nI d)), (4, .int (nI k2))]) S.1 S.2.1 dX12_next_104 rfl hl (by decide) rfl (fun ls hl => ?_)
                  refine lv_iinc (v := nI (k2 + 1)) (lv' := [(4, .int (nI (k2 + 1))), (3, .int (nxV N R d k2)), (2, .int (nI k2)), (5, .int (nxV N R d k2)), (0, .ref (q 33)), (1, .int (nI d))]) S.1 S.2.1 dX12_next_105 hl (k := 5) rfl (nI_1 _) (by decide) rfl (fun ls hl => ?_)
                  refine lv_goto (tgt := 18) S.1 S.2.1 dX12_next_108 (by decide) ?_
                  exact ih_18 (k2 + 1) (nI k2) (nxV N R d k2) a13_61 a14_61 a15_61 a16_61 (by omega) (by omega) (by rw [nxF, ← hnx]; rw [if_pos ⟨c_33, c_46, c_69, Or.inl c_75⟩]) (Or.inr ⟨k2, by omega, rfl⟩) _ _ _ I (lv_sub hl [4, 5, 2, 1, 0] rfl)
                · skip
                  obtain ⟨kb, h_kb, rfl⟩ := hbe.resolve_left c_75
                  have e_kb : (nI kb).toNatClampNeg = kb := nI_clamp (by omega)
                  refine lv_iload S.1 S.2.1 dX12_next_78 (lv_at hl 0 rfl) ?_
                  refine lv_aload_n S.1 S.2.1 dX12_next_80 rfl (lv_at hl 1 rfl) ?_
                  refine rg (ci := 12) (q0 := 0) (v := .ref (q 20)) 20 S hK I cl_X12 rfl wf_X12_62 (by decide) rfl rfl rfl dX12_next_81 ?_
                  refine lv_iload_n S.1 S.2.1 dX12_next_84 rfl (lv_at hl 3 rfl) ?_
                  refine ri (q0 := 18) (n := 8) (f := R 20) kb S hK I rfl rfl (by omega) (by decide) dX12_next_85 ?_
                  refine lv_imul S.1 S.2.1 dX12_next_86 ?_
                  refine lv_iload_n S.1 S.2.1 dX12_next_87 rfl (lv_at hl 4 rfl) ?_
                  refine lv_aload_n S.1 S.2.1 dX12_next_88 rfl (lv_at hl 1 rfl) ?_
                  refine rg (ci := 12) (q0 := 0) (v := .ref (q 20)) 20 S hK I cl_X12 rfl wf_X12_62 (by decide) rfl rfl rfl dX12_next_89 ?_
                  refine lv_iload S.1 S.2.1 dX12_next_92 (lv_at hl 5 rfl) ?_
                  refine ri (q0 := 18) (n := 8) (f := R 20) k2 S hK I rfl rfl (by omega) (by decide) dX12_next_94 ?_
                  refine lv_imul S.1 S.2.1 dX12_next_95 ?_
                  refine lv_icmp_le (tgt := 105) S.1 S.2.1 dX12_next_96 (by decide) (fun c_96 => ?_) (fun c_96 => ?_)
                  · skip
                    refine lv_iinc (v := nI (k2 + 1)) (lv' := [(4, .int (nI (k2 + 1))), (5, .int (nxV N R d k2)), (0, .ref (q 33)), (1, .int (nI d)), (2, .int (nI kb)), (3, .int mo)]) S.1 S.2.1 dX12_next_105 hl (k := 5) rfl (nI_1 _) (by decide) rfl (fun ls hl => ?_)
                    refine lv_goto (tgt := 18) S.1 S.2.1 dX12_next_108 (by decide) ?_
                    exact ih_18 (k2 + 1) (nI kb) mo a13_61 a14_61 a15_61 a16_61 (by omega) (by omega) (by rw [nxF, ← hnx]; rw [if_neg (fun h => h.2.2.2.elim (fun h1 => c_75 h1) (fun h1 => h1 (by show _ * R 20 (nI kb).toNatClampNeg ≤ mo * R 20 k2; rw [e_kb]; exact c_96)))]) (Or.inr ⟨kb, by omega, rfl⟩) _ _ _ I (lv_sub hl [2, 3, 4, 5, 0] rfl)
                  · skip
                    refine lv_iload S.1 S.2.1 dX12_next_99 (lv_at hl 5 rfl) ?_
                    refine lv_istore_n (lv' := [(2, .int (nI k2)), (5, .int (nxV N R d k2)), (0, .ref (q 33)), (1, .int (nI d)), (3, .int mo), (4, .int (nI k2))]) S.1 S.2.1 dX12_next_101 rfl hl (by decide) rfl (fun ls hl => ?_)
                    refine lv_iload S.1 S.2.1 dX12_next_102 (lv_at hl 1 rfl) ?_
                    refine lv_istore_n (lv' := [(3, .int (nxV N R d k2)), (2, .int (nI k2)), (5, .int (nxV N R d k2)), (0, .ref (q 33)), (1, .int (nI d)), (4, .int (nI k2))]) S.1 S.2.1 dX12_next_104 rfl hl (by decide) rfl (fun ls hl => ?_)
                    refine lv_iinc (v := nI (k2 + 1)) (lv' := [(4, .int (nI (k2 + 1))), (3, .int (nxV N R d k2)), (2, .int (nI k2)), (5, .int (nxV N R d k2)), (0, .ref (q 33)), (1, .int (nI d))]) S.1 S.2.1 dX12_next_105 hl (k := 5) rfl (nI_1 _) (by decide) rfl (fun ls hl => ?_)
                    refine lv_goto (tgt := 18) S.1 S.2.1 dX12_next_108 (by decide) ?_
                    exact ih_18 (k2 + 1) (nI k2) (nxV N R d k2) a13_61 a14_61 a15_61 a16_61 (by omega) (by omega) (by rw [nxF, ← hnx]; rw [if_pos ⟨c_33, c_46, c_69, Or.inr (by rw [e_kb]; exact c_96)⟩]) (Or.inr ⟨k2, by omega, rfl⟩) _ _ _ I (lv_sub hl [4, 5, 2, 1, 0] rfl)
    exact loop_18 _ 0 (-4) (nI 0) (X 13) (X 14) (X 15) (X 16) (Nat.lt_succ_self _) (Nat.zero_le _) rfl (Or.inl rfl) _ _ _ I (lv_sub hl [3, 4, 2, 1, 0] rfl)
  · skip
    have c_5 := bI_f c_5
    refine lv_iconst (v := (-1)) S.1 S.2.1 dX12_next_8 (by decide) ?_
    exact ru_i hQ S hr hlk (u := X) I (by simp [sp_next, c_5, bI]) dX12_next_9
end
