abbrev rm_X0_init : Room := { frames := 2, cells := 0, slots := 0, locals := 63 }
abbrev rm_X0_kind : Room := { frames := 0, cells := 0, slots := 0, locals := 0 }
abbrev rm_X0_isFreed : Room := { frames := 1, cells := 0, slots := 0, locals := 21 }
abbrev rm_X1_init : Room := { frames := 2, cells := 0, slots := 0, locals := 63 }
abbrev rm_X1_kind : Room := { frames := 0, cells := 0, slots := 0, locals := 0 }
abbrev rm_X1_stands : Room := { frames := 1, cells := 0, slots := 0, locals := 21 }
abbrev rm_X2_init : Room := { frames := 1, cells := 0, slots := 0, locals := 40 }
abbrev rm_X2_kind : Room := { frames := 0, cells := 0, slots := 0, locals := 0 }
abbrev rm_X2_stands : Room := { frames := 1, cells := 0, slots := 0, locals := 21 }
abbrev rm_X2_isFreed : Room := { frames := 0, cells := 0, slots := 0, locals := 0 }
abbrev rm_X2_isOfVersion : Room := { frames := 0, cells := 0, slots := 0, locals := 0 }
abbrev rm_X3_init : Room := { frames := 1, cells := 0, slots := 0, locals := 40 }
abbrev rm_X4_init : Room := { frames := 1, cells := 3, slots := 24, locals := 40 }
abbrev rm_X4_mendAt : Room := { frames := 0, cells := 0, slots := 0, locals := 0 }
abbrev rm_X4_isSet : Room := { frames := 1, cells := 0, slots := 0, locals := 20 }
abbrev rm_X4_addMend : Room := { frames := 0, cells := 0, slots := 0, locals := 0 }
abbrev rm_X4_addQuarrel : Room := { frames := 0, cells := 0, slots := 0, locals := 0 }
abbrev rm_X4_riskAfter : Room := { frames := 4, cells := 0, slots := 0, locals := 94 }
abbrev rm_X4_isSound : Room := { frames := 3, cells := 0, slots := 0, locals := 86 }
abbrev rm_X4_quarrelHolds : Room := { frames := 2, cells := 0, slots := 0, locals := 63 }
abbrev rm_X4_needIsMet : Room := { frames := 1, cells := 0, slots := 0, locals := 21 }
abbrev rm_X4_hasAllNeeds : Room := { frames := 1, cells := 0, slots := 0, locals := 21 }
abbrev rm_X4_fillVersions : Room := { frames := 1, cells := 0, slots := 0, locals := 40 }
abbrev rm_X5_init : Room := { frames := 1, cells := 4, slots := 36, locals := 40 }
abbrev rm_X5_hasPart : Room := { frames := 0, cells := 0, slots := 0, locals := 0 }
abbrev rm_X5_holeAt : Room := { frames := 0, cells := 0, slots := 0, locals := 0 }
abbrev rm_X5_addPart : Room := { frames := 2, cells := 0, slots := 0, locals := 42 }
abbrev rm_X5_addHole : Room := { frames := 0, cells := 0, slots := 0, locals := 0 }
abbrev rm_X5_standsNow : Room := { frames := 2, cells := 0, slots := 0, locals := 43 }
abbrev rm_X6_init : Room := { frames := 1, cells := 13, slots := 2332, locals := 40 }
abbrev rm_X6_weighSets : Room := { frames := 5, cells := 0, slots := 0, locals := 115 }
abbrev rm_X6_findSums : Room := { frames := 1, cells := 0, slots := 0, locals := 40 }
abbrev rm_X6_leastSum : Room := { frames := 0, cells := 0, slots := 0, locals := 0 }
abbrev rm_X6_fixWeeks : Room := { frames := 2, cells := 0, slots := 0, locals := 42 }
abbrev rm_X6_putInWeek : Room := { frames := 1, cells := 0, slots := 0, locals := 20 }
abbrev rm_X6_bestSet : Room := { frames := 0, cells := 0, slots := 0, locals := 0 }
abbrev rm_X6_findAllowed : Room := { frames := 1, cells := 0, slots := 0, locals := 22 }
abbrev rm_X6_handsOf : Room := { frames := 1, cells := 0, slots := 0, locals := 21 }
abbrev rm_X7_init : Room := { frames := 1, cells := 0, slots := 0, locals := 40 }
abbrev rm_X7_holds : Room := { frames := 0, cells := 0, slots := 0, locals := 0 }
abbrev rm_X8_init : Room := { frames := 2, cells := 0, slots := 0, locals := 63 }
abbrev rm_X8_kind : Room := { frames := 0, cells := 0, slots := 0, locals := 0 }
abbrev rm_X8_stands : Room := { frames := 1, cells := 0, slots := 0, locals := 21 }
abbrev rm_X9_init : Room := { frames := 1, cells := 3, slots := 24, locals := 40 }
abbrev rm_X9_run : Room := { frames := 3, cells := 0, slots := 0, locals := 70 }
abbrev rm_X9_sumOfWorths : Room := { frames := 1, cells := 0, slots := 0, locals := 21 }
abbrev rm_X9_findStanding : Room := { frames := 2, cells := 0, slots := 0, locals := 43 }
abbrev rm_X9_takeStep : Room := { frames := 2, cells := 0, slots := 0, locals := 44 }
abbrev rm_X9_isReached : Room := { frames := 1, cells := 0, slots := 0, locals := 21 }
abbrev rm_X9_leastOf : Room := { frames := 1, cells := 0, slots := 0, locals := 21 }
abbrev rm_X10_init : Room := { frames := 3, cells := 0, slots := 0, locals := 86 }
abbrev rm_X10_kind : Room := { frames := 0, cells := 0, slots := 0, locals := 0 }
abbrev rm_X10_stands : Room := { frames := 1, cells := 0, slots := 0, locals := 21 }
abbrev rm_X11_init : Room := { frames := 2, cells := 27, slots := 2447, locals := 62 }
abbrev rm_X11_part : Room := { frames := 3, cells := 0, slots := 0, locals := 65 }
abbrev rm_X11_link : Room := { frames := 2, cells := 0, slots := 0, locals := 42 }
abbrev rm_X11_guard : Room := { frames := 2, cells := 0, slots := 0, locals := 42 }
abbrev rm_X11_version : Room := { frames := 2, cells := 0, slots := 0, locals := 42 }
abbrev rm_X11_hole : Room := { frames := 5, cells := 1, slots := 5, locals := 132 }
abbrev rm_X11_chained : Room := { frames := 3, cells := 1, slots := 5, locals := 88 }
abbrev rm_X11_wake : Room := { frames := 1, cells := 0, slots := 0, locals := 21 }
abbrev rm_X11_chain : Room := { frames := 1, cells := 0, slots := 0, locals := 21 }
abbrev rm_X11_told : Room := { frames := 3, cells := 0, slots := 0, locals := 64 }
abbrev rm_X11_risk : Room := { frames := 5, cells := 0, slots := 0, locals := 114 }
abbrev rm_X11_taken : Room := { frames := 5, cells := 0, slots := 0, locals := 114 }
abbrev rm_X11_way : Room := { frames := 5, cells := 0, slots := 0, locals := 114 }
abbrev rm_X11_bestGuard : Room := { frames := 5, cells := 0, slots := 0, locals := 114 }
abbrev rm_X11_mend : Room := { frames := 2, cells := 1, slots := 6, locals := 66 }
abbrev rm_X11_quarrel : Room := { frames := 2, cells := 1, slots := 4, locals := 64 }
abbrev rm_X11_riskWith : Room := { frames := 5, cells := 0, slots := 0, locals := 115 }
abbrev rm_X11_sound : Room := { frames := 4, cells := 0, slots := 0, locals := 107 }
abbrev rm_X11_gain : Room := { frames := 5, cells := 0, slots := 0, locals := 115 }
abbrev rm_X11_next : Room := { frames := 5, cells := 0, slots := 0, locals := 115 }
abbrev rm_X11_plan : Room := { frames := 6, cells := 0, slots := 0, locals := 138 }
abbrev rm_X11_week : Room := { frames := 1, cells := 0, slots := 0, locals := 21 }
abbrev rm_X11_moved : Room := { frames := 0, cells := 0, slots := 0, locals := 0 }
abbrev rm_X11_make : Room := { frames := 5, cells := 0, slots := 0, locals := 114 }
abbrev rm_X11_count : Room := { frames := 5, cells := 0, slots := 0, locals := 114 }
abbrev rm_X11_spreadNow : Room := { frames := 4, cells := 0, slots := 0, locals := 94 }
abbrev rm_X11_isBetween : Room := { frames := 0, cells := 0, slots := 0, locals := 0 }
abbrev rm_X11_isVersion : Room := { frames := 1, cells := 0, slots := 0, locals := 22 }
abbrev rm_X11_isSpan : Room := { frames := 2, cells := 0, slots := 0, locals := 42 }
abbrev rm_X11_asNumber : Room := { frames := 0, cells := 0, slots := 0, locals := 0 }
abbrev rm_X11_bit : Room := { frames := 0, cells := 0, slots := 0, locals := 0 }
abbrev rm_X11_isIn : Room := { frames := 0, cells := 0, slots := 0, locals := 0 }
abbrev rm_X11_withMember : Room := { frames := 1, cells := 0, slots := 0, locals := 20 }
abbrev rm_X11_newHole : Room := { frames := 4, cells := 1, slots := 5, locals := 109 }
abbrev rm_X12_init : Room := { frames := 1, cells := 28, slots := 4392, locals := 40 }
abbrev rm_X12_in : Room := { frames := 0, cells := 0, slots := 0, locals := 0 }
abbrev rm_X12_isPart : Room := { frames := 1, cells := 0, slots := 0, locals := 22 }
abbrev rm_X12_isVersion : Room := { frames := 1, cells := 0, slots := 0, locals := 22 }
abbrev rm_X12_part : Room := { frames := 2, cells := 0, slots := 0, locals := 42 }
abbrev rm_X12_link : Room := { frames := 2, cells := 0, slots := 0, locals := 43 }
abbrev rm_X12_guard : Room := { frames := 2, cells := 0, slots := 0, locals := 43 }
abbrev rm_X12_version : Room := { frames := 2, cells := 0, slots := 0, locals := 43 }
abbrev rm_X12_add : Room := { frames := 0, cells := 0, slots := 0, locals := 0 }
abbrev rm_X12_isSpan : Room := { frames := 2, cells := 0, slots := 0, locals := 43 }
abbrev rm_X12_isHole : Room := { frames := 1, cells := 0, slots := 0, locals := 22 }
abbrev rm_X12_hole : Room := { frames := 3, cells := 0, slots := 0, locals := 66 }
abbrev rm_X12_chained : Room := { frames := 3, cells := 0, slots := 0, locals := 66 }
abbrev rm_X12_wake : Room := { frames := 2, cells := 0, slots := 0, locals := 43 }
abbrev rm_X12_chain : Room := { frames := 2, cells := 0, slots := 0, locals := 43 }
abbrev rm_X12_takeVersions : Room := { frames := 0, cells := 0, slots := 0, locals := 0 }
abbrev rm_X12_stands : Room := { frames := 1, cells := 0, slots := 0, locals := 22 }
abbrev rm_X12_opens : Room := { frames := 2, cells := 0, slots := 0, locals := 45 }
abbrev rm_X12_fromFor : Room := { frames := 0, cells := 0, slots := 0, locals := 0 }
abbrev rm_X12_take : Room := { frames := 3, cells := 0, slots := 0, locals := 69 }
abbrev rm_X12_riskNow : Room := { frames := 4, cells := 0, slots := 0, locals := 94 }
abbrev rm_X12_riskOf : Room := { frames := 5, cells := 0, slots := 0, locals := 118 }
abbrev rm_X12_told : Room := { frames := 2, cells := 0, slots := 0, locals := 45 }
abbrev rm_X12_risk : Room := { frames := 6, cells := 0, slots := 0, locals := 139 }
abbrev rm_X12_taken : Room := { frames := 6, cells := 0, slots := 0, locals := 139 }
abbrev rm_X12_way : Room := { frames := 6, cells := 0, slots := 0, locals := 139 }
abbrev rm_X12_bestGuard : Room := { frames := 6, cells := 0, slots := 0, locals := 139 }
abbrev rm_X12_isMend : Room := { frames := 1, cells := 0, slots := 0, locals := 22 }
abbrev rm_X12_mend : Room := { frames := 2, cells := 0, slots := 0, locals := 43 }
abbrev rm_X12_quarrel : Room := { frames := 2, cells := 0, slots := 0, locals := 43 }
abbrev rm_X12_isSet : Room := { frames := 1, cells := 0, slots := 0, locals := 22 }
abbrev rm_X12_isQuarrelling : Room := { frames := 0, cells := 0, slots := 0, locals := 0 }
abbrev rm_X12_isSound : Room := { frames := 1, cells := 0, slots := 0, locals := 22 }
abbrev rm_X12_riskWith : Room := { frames := 6, cells := 0, slots := 0, locals := 139 }
abbrev rm_X12_sound : Room := { frames := 2, cells := 0, slots := 0, locals := 44 }
abbrev rm_X12_gain : Room := { frames := 6, cells := 0, slots := 0, locals := 139 }
abbrev rm_X12_next : Room := { frames := 6, cells := 0, slots := 0, locals := 139 }
abbrev rm_X12_mayIn : Room := { frames := 1, cells := 0, slots := 0, locals := 22 }
abbrev rm_X12_planFrom : Room := { frames := 2, cells := 0, slots := 0, locals := 47 }
abbrev rm_X12_plan : Room := { frames := 6, cells := 0, slots := 0, locals := 139 }
abbrev rm_X12_week : Room := { frames := 2, cells := 0, slots := 0, locals := 43 }
abbrev rm_X12_moved : Room := { frames := 0, cells := 0, slots := 0, locals := 0 }
abbrev rm_X12_make : Room := { frames := 6, cells := 0, slots := 0, locals := 139 }
abbrev rm_X12_count : Room := { frames := 6, cells := 0, slots := 0, locals := 139 }
abbrev rm_J6_bitCount_0f7a4 : Room := { frames := 0, cells := 0, slots := 0, locals := 0 }
abbrev rm_J9_max_7cf53 : Room := { frames := 0, cells := 0, slots := 0, locals := 0 }
abbrev rm_J7_fill_53178 : Room := { frames := 0, cells := 0, slots := 0, locals := 0 }
theorem hd_X0_init : yX0_init.cls ≠ "java/lang/invoke/MethodHandle" ∧ yX0_init.cls ≠ "java/lang/invoke/VarHandle" ∧ (parseMethodDescriptor yX0_init.desc).map (fun d => d.parameters.length) = some 5 := by decide +kernel
theorem hd_X0_kind : yX0_kind.cls ≠ "java/lang/invoke/MethodHandle" ∧ yX0_kind.cls ≠ "java/lang/invoke/VarHandle" ∧ (parseMethodDescriptor yX0_kind.desc).map (fun d => d.parameters.length) = some 0 := by decide +kernel
theorem hd_X0_isFreed : yX0_isFreed.cls ≠ "java/lang/invoke/MethodHandle" ∧ yX0_isFreed.cls ≠ "java/lang/invoke/VarHandle" ∧ (parseMethodDescriptor yX0_isFreed.desc).map (fun d => d.parameters.length) = some 3 := by decide +kernel
theorem hd_X1_init : yX1_init.cls ≠ "java/lang/invoke/MethodHandle" ∧ yX1_init.cls ≠ "java/lang/invoke/VarHandle" ∧ (parseMethodDescriptor yX1_init.desc).map (fun d => d.parameters.length) = some 3 := by decide +kernel
theorem hd_X1_kind : yX1_kind.cls ≠ "java/lang/invoke/MethodHandle" ∧ yX1_kind.cls ≠ "java/lang/invoke/VarHandle" ∧ (parseMethodDescriptor yX1_kind.desc).map (fun d => d.parameters.length) = some 0 := by decide +kernel
theorem hd_X1_stands : yX1_stands.cls ≠ "java/lang/invoke/MethodHandle" ∧ yX1_stands.cls ≠ "java/lang/invoke/VarHandle" ∧ (parseMethodDescriptor yX1_stands.desc).map (fun d => d.parameters.length) = some 2 := by decide +kernel
theorem hd_X2_init : yX2_init.cls ≠ "java/lang/invoke/MethodHandle" ∧ yX2_init.cls ≠ "java/lang/invoke/VarHandle" ∧ (parseMethodDescriptor yX2_init.desc).map (fun d => d.parameters.length) = some 3 := by decide +kernel
theorem hd_X2_kind : yX2_kind.cls ≠ "java/lang/invoke/MethodHandle" ∧ yX2_kind.cls ≠ "java/lang/invoke/VarHandle" ∧ (parseMethodDescriptor yX2_kind.desc).map (fun d => d.parameters.length) = some 0 := by decide +kernel
theorem hd_X2_stands : yX2_stands.cls ≠ "java/lang/invoke/MethodHandle" ∧ yX2_stands.cls ≠ "java/lang/invoke/VarHandle" ∧ (parseMethodDescriptor yX2_stands.desc).map (fun d => d.parameters.length) = some 2 := by decide +kernel
theorem hd_X2_isFreed : yX2_isFreed.cls ≠ "java/lang/invoke/MethodHandle" ∧ yX2_isFreed.cls ≠ "java/lang/invoke/VarHandle" ∧ (parseMethodDescriptor yX2_isFreed.desc).map (fun d => d.parameters.length) = some 3 := by decide +kernel
theorem hd_X2_isOfVersion : yX2_isOfVersion.cls ≠ "java/lang/invoke/MethodHandle" ∧ yX2_isOfVersion.cls ≠ "java/lang/invoke/VarHandle" ∧ (parseMethodDescriptor yX2_isOfVersion.desc).map (fun d => d.parameters.length) = some 1 := by decide +kernel
theorem hd_X3_init : yX3_init.cls ≠ "java/lang/invoke/MethodHandle" ∧ yX3_init.cls ≠ "java/lang/invoke/VarHandle" ∧ (parseMethodDescriptor yX3_init.desc).map (fun d => d.parameters.length) = some 6 := by decide +kernel
theorem hd_X4_init : yX4_init.cls ≠ "java/lang/invoke/MethodHandle" ∧ yX4_init.cls ≠ "java/lang/invoke/VarHandle" ∧ (parseMethodDescriptor yX4_init.desc).map (fun d => d.parameters.length) = some 2 := by decide +kernel
theorem hd_X4_mendAt : yX4_mendAt.cls ≠ "java/lang/invoke/MethodHandle" ∧ yX4_mendAt.cls ≠ "java/lang/invoke/VarHandle" ∧ (parseMethodDescriptor yX4_mendAt.desc).map (fun d => d.parameters.length) = some 1 := by decide +kernel
theorem hd_X4_isSet : yX4_isSet.cls ≠ "java/lang/invoke/MethodHandle" ∧ yX4_isSet.cls ≠ "java/lang/invoke/VarHandle" ∧ (parseMethodDescriptor yX4_isSet.desc).map (fun d => d.parameters.length) = some 1 := by decide +kernel
theorem hd_X4_addMend : yX4_addMend.cls ≠ "java/lang/invoke/MethodHandle" ∧ yX4_addMend.cls ≠ "java/lang/invoke/VarHandle" ∧ (parseMethodDescriptor yX4_addMend.desc).map (fun d => d.parameters.length) = some 1 := by decide +kernel
theorem hd_X4_addQuarrel : yX4_addQuarrel.cls ≠ "java/lang/invoke/MethodHandle" ∧ yX4_addQuarrel.cls ≠ "java/lang/invoke/VarHandle" ∧ (parseMethodDescriptor yX4_addQuarrel.desc).map (fun d => d.parameters.length) = some 1 := by decide +kernel
theorem hd_X4_riskAfter : yX4_riskAfter.cls ≠ "java/lang/invoke/MethodHandle" ∧ yX4_riskAfter.cls ≠ "java/lang/invoke/VarHandle" ∧ (parseMethodDescriptor yX4_riskAfter.desc).map (fun d => d.parameters.length) = some 1 := by decide +kernel
theorem hd_X4_isSound : yX4_isSound.cls ≠ "java/lang/invoke/MethodHandle" ∧ yX4_isSound.cls ≠ "java/lang/invoke/VarHandle" ∧ (parseMethodDescriptor yX4_isSound.desc).map (fun d => d.parameters.length) = some 1 := by decide +kernel
theorem hd_X4_quarrelHolds : yX4_quarrelHolds.cls ≠ "java/lang/invoke/MethodHandle" ∧ yX4_quarrelHolds.cls ≠ "java/lang/invoke/VarHandle" ∧ (parseMethodDescriptor yX4_quarrelHolds.desc).map (fun d => d.parameters.length) = some 1 := by decide +kernel
theorem hd_X4_needIsMet : yX4_needIsMet.cls ≠ "java/lang/invoke/MethodHandle" ∧ yX4_needIsMet.cls ≠ "java/lang/invoke/VarHandle" ∧ (parseMethodDescriptor yX4_needIsMet.desc).map (fun d => d.parameters.length) = some 1 := by decide +kernel
theorem hd_X4_hasAllNeeds : yX4_hasAllNeeds.cls ≠ "java/lang/invoke/MethodHandle" ∧ yX4_hasAllNeeds.cls ≠ "java/lang/invoke/VarHandle" ∧ (parseMethodDescriptor yX4_hasAllNeeds.desc).map (fun d => d.parameters.length) = some 1 := by decide +kernel
theorem hd_X4_fillVersions : yX4_fillVersions.cls ≠ "java/lang/invoke/MethodHandle" ∧ yX4_fillVersions.cls ≠ "java/lang/invoke/VarHandle" ∧ (parseMethodDescriptor yX4_fillVersions.desc).map (fun d => d.parameters.length) = some 1 := by decide +kernel
theorem hd_X5_init : yX5_init.cls ≠ "java/lang/invoke/MethodHandle" ∧ yX5_init.cls ≠ "java/lang/invoke/VarHandle" ∧ (parseMethodDescriptor yX5_init.desc).map (fun d => d.parameters.length) = some 0 := by decide +kernel
theorem hd_X5_hasPart : yX5_hasPart.cls ≠ "java/lang/invoke/MethodHandle" ∧ yX5_hasPart.cls ≠ "java/lang/invoke/VarHandle" ∧ (parseMethodDescriptor yX5_hasPart.desc).map (fun d => d.parameters.length) = some 1 := by decide +kernel
theorem hd_X5_holeAt : yX5_holeAt.cls ≠ "java/lang/invoke/MethodHandle" ∧ yX5_holeAt.cls ≠ "java/lang/invoke/VarHandle" ∧ (parseMethodDescriptor yX5_holeAt.desc).map (fun d => d.parameters.length) = some 1 := by decide +kernel
theorem hd_X5_addPart : yX5_addPart.cls ≠ "java/lang/invoke/MethodHandle" ∧ yX5_addPart.cls ≠ "java/lang/invoke/VarHandle" ∧ (parseMethodDescriptor yX5_addPart.desc).map (fun d => d.parameters.length) = some 3 := by decide +kernel
theorem hd_X5_addHole : yX5_addHole.cls ≠ "java/lang/invoke/MethodHandle" ∧ yX5_addHole.cls ≠ "java/lang/invoke/VarHandle" ∧ (parseMethodDescriptor yX5_addHole.desc).map (fun d => d.parameters.length) = some 1 := by decide +kernel
theorem hd_X5_standsNow : yX5_standsNow.cls ≠ "java/lang/invoke/MethodHandle" ∧ yX5_standsNow.cls ≠ "java/lang/invoke/VarHandle" ∧ (parseMethodDescriptor yX5_standsNow.desc).map (fun d => d.parameters.length) = some 1 := by decide +kernel
theorem hd_X6_init : yX6_init.cls ≠ "java/lang/invoke/MethodHandle" ∧ yX6_init.cls ≠ "java/lang/invoke/VarHandle" ∧ (parseMethodDescriptor yX6_init.desc).map (fun d => d.parameters.length) = some 1 := by decide +kernel
theorem hd_X6_weighSets : yX6_weighSets.cls ≠ "java/lang/invoke/MethodHandle" ∧ yX6_weighSets.cls ≠ "java/lang/invoke/VarHandle" ∧ (parseMethodDescriptor yX6_weighSets.desc).map (fun d => d.parameters.length) = some 2 := by decide +kernel
theorem hd_X6_findSums : yX6_findSums.cls ≠ "java/lang/invoke/MethodHandle" ∧ yX6_findSums.cls ≠ "java/lang/invoke/VarHandle" ∧ (parseMethodDescriptor yX6_findSums.desc).map (fun d => d.parameters.length) = some 1 := by decide +kernel
theorem hd_X6_leastSum : yX6_leastSum.cls ≠ "java/lang/invoke/MethodHandle" ∧ yX6_leastSum.cls ≠ "java/lang/invoke/VarHandle" ∧ (parseMethodDescriptor yX6_leastSum.desc).map (fun d => d.parameters.length) = some 0 := by decide +kernel
theorem hd_X6_fixWeeks : yX6_fixWeeks.cls ≠ "java/lang/invoke/MethodHandle" ∧ yX6_fixWeeks.cls ≠ "java/lang/invoke/VarHandle" ∧ (parseMethodDescriptor yX6_fixWeeks.desc).map (fun d => d.parameters.length) = some 1 := by decide +kernel
theorem hd_X6_putInWeek : yX6_putInWeek.cls ≠ "java/lang/invoke/MethodHandle" ∧ yX6_putInWeek.cls ≠ "java/lang/invoke/VarHandle" ∧ (parseMethodDescriptor yX6_putInWeek.desc).map (fun d => d.parameters.length) = some 2 := by decide +kernel
theorem hd_X6_bestSet : yX6_bestSet.cls ≠ "java/lang/invoke/MethodHandle" ∧ yX6_bestSet.cls ≠ "java/lang/invoke/VarHandle" ∧ (parseMethodDescriptor yX6_bestSet.desc).map (fun d => d.parameters.length) = some 2 := by decide +kernel
theorem hd_X6_findAllowed : yX6_findAllowed.cls ≠ "java/lang/invoke/MethodHandle" ∧ yX6_findAllowed.cls ≠ "java/lang/invoke/VarHandle" ∧ (parseMethodDescriptor yX6_findAllowed.desc).map (fun d => d.parameters.length) = some 1 := by decide +kernel
theorem hd_X6_handsOf : yX6_handsOf.cls ≠ "java/lang/invoke/MethodHandle" ∧ yX6_handsOf.cls ≠ "java/lang/invoke/VarHandle" ∧ (parseMethodDescriptor yX6_handsOf.desc).map (fun d => d.parameters.length) = some 1 := by decide +kernel
theorem hd_X7_init : yX7_init.cls ≠ "java/lang/invoke/MethodHandle" ∧ yX7_init.cls ≠ "java/lang/invoke/VarHandle" ∧ (parseMethodDescriptor yX7_init.desc).map (fun d => d.parameters.length) = some 4 := by decide +kernel
theorem hd_X7_holds : yX7_holds.cls ≠ "java/lang/invoke/MethodHandle" ∧ yX7_holds.cls ≠ "java/lang/invoke/VarHandle" ∧ (parseMethodDescriptor yX7_holds.desc).map (fun d => d.parameters.length) = some 1 := by decide +kernel
theorem hd_X8_init : yX8_init.cls ≠ "java/lang/invoke/MethodHandle" ∧ yX8_init.cls ≠ "java/lang/invoke/VarHandle" ∧ (parseMethodDescriptor yX8_init.desc).map (fun d => d.parameters.length) = some 3 := by decide +kernel
theorem hd_X8_kind : yX8_kind.cls ≠ "java/lang/invoke/MethodHandle" ∧ yX8_kind.cls ≠ "java/lang/invoke/VarHandle" ∧ (parseMethodDescriptor yX8_kind.desc).map (fun d => d.parameters.length) = some 0 := by decide +kernel
theorem hd_X8_stands : yX8_stands.cls ≠ "java/lang/invoke/MethodHandle" ∧ yX8_stands.cls ≠ "java/lang/invoke/VarHandle" ∧ (parseMethodDescriptor yX8_stands.desc).map (fun d => d.parameters.length) = some 2 := by decide +kernel
theorem hd_X9_init : yX9_init.cls ≠ "java/lang/invoke/MethodHandle" ∧ yX9_init.cls ≠ "java/lang/invoke/VarHandle" ∧ (parseMethodDescriptor yX9_init.desc).map (fun d => d.parameters.length) = some 1 := by decide +kernel
theorem hd_X9_run : yX9_run.cls ≠ "java/lang/invoke/MethodHandle" ∧ yX9_run.cls ≠ "java/lang/invoke/VarHandle" ∧ (parseMethodDescriptor yX9_run.desc).map (fun d => d.parameters.length) = some 2 := by decide +kernel
theorem hd_X9_sumOfWorths : yX9_sumOfWorths.cls ≠ "java/lang/invoke/MethodHandle" ∧ yX9_sumOfWorths.cls ≠ "java/lang/invoke/VarHandle" ∧ (parseMethodDescriptor yX9_sumOfWorths.desc).map (fun d => d.parameters.length) = some 0 := by decide +kernel
theorem hd_X9_findStanding : yX9_findStanding.cls ≠ "java/lang/invoke/MethodHandle" ∧ yX9_findStanding.cls ≠ "java/lang/invoke/VarHandle" ∧ (parseMethodDescriptor yX9_findStanding.desc).map (fun d => d.parameters.length) = some 2 := by decide +kernel
theorem hd_X9_takeStep : yX9_takeStep.cls ≠ "java/lang/invoke/MethodHandle" ∧ yX9_takeStep.cls ≠ "java/lang/invoke/VarHandle" ∧ (parseMethodDescriptor yX9_takeStep.desc).map (fun d => d.parameters.length) = some 1 := by decide +kernel
theorem hd_X9_isReached : yX9_isReached.cls ≠ "java/lang/invoke/MethodHandle" ∧ yX9_isReached.cls ≠ "java/lang/invoke/VarHandle" ∧ (parseMethodDescriptor yX9_isReached.desc).map (fun d => d.parameters.length) = some 1 := by decide +kernel
theorem hd_X9_leastOf : yX9_leastOf.cls ≠ "java/lang/invoke/MethodHandle" ∧ yX9_leastOf.cls ≠ "java/lang/invoke/VarHandle" ∧ (parseMethodDescriptor yX9_leastOf.desc).map (fun d => d.parameters.length) = some 1 := by decide +kernel
theorem hd_X10_init : yX10_init.cls ≠ "java/lang/invoke/MethodHandle" ∧ yX10_init.cls ≠ "java/lang/invoke/VarHandle" ∧ (parseMethodDescriptor yX10_init.desc).map (fun d => d.parameters.length) = some 3 := by decide +kernel
theorem hd_X10_kind : yX10_kind.cls ≠ "java/lang/invoke/MethodHandle" ∧ yX10_kind.cls ≠ "java/lang/invoke/VarHandle" ∧ (parseMethodDescriptor yX10_kind.desc).map (fun d => d.parameters.length) = some 0 := by decide +kernel
theorem hd_X10_stands : yX10_stands.cls ≠ "java/lang/invoke/MethodHandle" ∧ yX10_stands.cls ≠ "java/lang/invoke/VarHandle" ∧ (parseMethodDescriptor yX10_stands.desc).map (fun d => d.parameters.length) = some 2 := by decide +kernel
theorem hd_X11_init : yX11_init.cls ≠ "java/lang/invoke/MethodHandle" ∧ yX11_init.cls ≠ "java/lang/invoke/VarHandle" ∧ (parseMethodDescriptor yX11_init.desc).map (fun d => d.parameters.length) = some 0 := by decide +kernel
theorem hd_X11_part : yX11_part.cls ≠ "java/lang/invoke/MethodHandle" ∧ yX11_part.cls ≠ "java/lang/invoke/VarHandle" ∧ (parseMethodDescriptor yX11_part.desc).map (fun d => d.parameters.length) = some 3 := by decide +kernel
theorem hd_X11_link : yX11_link.cls ≠ "java/lang/invoke/MethodHandle" ∧ yX11_link.cls ≠ "java/lang/invoke/VarHandle" ∧ (parseMethodDescriptor yX11_link.desc).map (fun d => d.parameters.length) = some 3 := by decide +kernel
theorem hd_X11_guard : yX11_guard.cls ≠ "java/lang/invoke/MethodHandle" ∧ yX11_guard.cls ≠ "java/lang/invoke/VarHandle" ∧ (parseMethodDescriptor yX11_guard.desc).map (fun d => d.parameters.length) = some 2 := by decide +kernel
theorem hd_X11_version : yX11_version.cls ≠ "java/lang/invoke/MethodHandle" ∧ yX11_version.cls ≠ "java/lang/invoke/VarHandle" ∧ (parseMethodDescriptor yX11_version.desc).map (fun d => d.parameters.length) = some 2 := by decide +kernel
theorem hd_X11_hole : yX11_hole.cls ≠ "java/lang/invoke/MethodHandle" ∧ yX11_hole.cls ≠ "java/lang/invoke/VarHandle" ∧ (parseMethodDescriptor yX11_hole.desc).map (fun d => d.parameters.length) = some 4 := by decide +kernel
theorem hd_X11_chained : yX11_chained.cls ≠ "java/lang/invoke/MethodHandle" ∧ yX11_chained.cls ≠ "java/lang/invoke/VarHandle" ∧ (parseMethodDescriptor yX11_chained.desc).map (fun d => d.parameters.length) = some 4 := by decide +kernel
theorem hd_X11_wake : yX11_wake.cls ≠ "java/lang/invoke/MethodHandle" ∧ yX11_wake.cls ≠ "java/lang/invoke/VarHandle" ∧ (parseMethodDescriptor yX11_wake.desc).map (fun d => d.parameters.length) = some 2 := by decide +kernel
theorem hd_X11_chain : yX11_chain.cls ≠ "java/lang/invoke/MethodHandle" ∧ yX11_chain.cls ≠ "java/lang/invoke/VarHandle" ∧ (parseMethodDescriptor yX11_chain.desc).map (fun d => d.parameters.length) = some 1 := by decide +kernel
theorem hd_X11_told : yX11_told.cls ≠ "java/lang/invoke/MethodHandle" ∧ yX11_told.cls ≠ "java/lang/invoke/VarHandle" ∧ (parseMethodDescriptor yX11_told.desc).map (fun d => d.parameters.length) = some 2 := by decide +kernel
theorem hd_X11_risk : yX11_risk.cls ≠ "java/lang/invoke/MethodHandle" ∧ yX11_risk.cls ≠ "java/lang/invoke/VarHandle" ∧ (parseMethodDescriptor yX11_risk.desc).map (fun d => d.parameters.length) = some 0 := by decide +kernel
theorem hd_X11_taken : yX11_taken.cls ≠ "java/lang/invoke/MethodHandle" ∧ yX11_taken.cls ≠ "java/lang/invoke/VarHandle" ∧ (parseMethodDescriptor yX11_taken.desc).map (fun d => d.parameters.length) = some 0 := by decide +kernel
theorem hd_X11_way : yX11_way.cls ≠ "java/lang/invoke/MethodHandle" ∧ yX11_way.cls ≠ "java/lang/invoke/VarHandle" ∧ (parseMethodDescriptor yX11_way.desc).map (fun d => d.parameters.length) = some 2 := by decide +kernel
theorem hd_X11_bestGuard : yX11_bestGuard.cls ≠ "java/lang/invoke/MethodHandle" ∧ yX11_bestGuard.cls ≠ "java/lang/invoke/VarHandle" ∧ (parseMethodDescriptor yX11_bestGuard.desc).map (fun d => d.parameters.length) = some 0 := by decide +kernel
theorem hd_X11_mend : yX11_mend.cls ≠ "java/lang/invoke/MethodHandle" ∧ yX11_mend.cls ≠ "java/lang/invoke/VarHandle" ∧ (parseMethodDescriptor yX11_mend.desc).map (fun d => d.parameters.length) = some 6 := by decide +kernel
theorem hd_X11_quarrel : yX11_quarrel.cls ≠ "java/lang/invoke/MethodHandle" ∧ yX11_quarrel.cls ≠ "java/lang/invoke/VarHandle" ∧ (parseMethodDescriptor yX11_quarrel.desc).map (fun d => d.parameters.length) = some 4 := by decide +kernel
theorem hd_X11_riskWith : yX11_riskWith.cls ≠ "java/lang/invoke/MethodHandle" ∧ yX11_riskWith.cls ≠ "java/lang/invoke/VarHandle" ∧ (parseMethodDescriptor yX11_riskWith.desc).map (fun d => d.parameters.length) = some 1 := by decide +kernel
theorem hd_X11_sound : yX11_sound.cls ≠ "java/lang/invoke/MethodHandle" ∧ yX11_sound.cls ≠ "java/lang/invoke/VarHandle" ∧ (parseMethodDescriptor yX11_sound.desc).map (fun d => d.parameters.length) = some 1 := by decide +kernel
theorem hd_X11_gain : yX11_gain.cls ≠ "java/lang/invoke/MethodHandle" ∧ yX11_gain.cls ≠ "java/lang/invoke/VarHandle" ∧ (parseMethodDescriptor yX11_gain.desc).map (fun d => d.parameters.length) = some 2 := by decide +kernel
theorem hd_X11_next : yX11_next.cls ≠ "java/lang/invoke/MethodHandle" ∧ yX11_next.cls ≠ "java/lang/invoke/VarHandle" ∧ (parseMethodDescriptor yX11_next.desc).map (fun d => d.parameters.length) = some 1 := by decide +kernel
theorem hd_X11_plan : yX11_plan.cls ≠ "java/lang/invoke/MethodHandle" ∧ yX11_plan.cls ≠ "java/lang/invoke/VarHandle" ∧ (parseMethodDescriptor yX11_plan.desc).map (fun d => d.parameters.length) = some 2 := by decide +kernel
theorem hd_X11_week : yX11_week.cls ≠ "java/lang/invoke/MethodHandle" ∧ yX11_week.cls ≠ "java/lang/invoke/VarHandle" ∧ (parseMethodDescriptor yX11_week.desc).map (fun d => d.parameters.length) = some 1 := by decide +kernel
theorem hd_X11_moved : yX11_moved.cls ≠ "java/lang/invoke/MethodHandle" ∧ yX11_moved.cls ≠ "java/lang/invoke/VarHandle" ∧ (parseMethodDescriptor yX11_moved.desc).map (fun d => d.parameters.length) = some 0 := by decide +kernel
theorem hd_X11_make : yX11_make.cls ≠ "java/lang/invoke/MethodHandle" ∧ yX11_make.cls ≠ "java/lang/invoke/VarHandle" ∧ (parseMethodDescriptor yX11_make.desc).map (fun d => d.parameters.length) = some 1 := by decide +kernel
theorem hd_X11_count : yX11_count.cls ≠ "java/lang/invoke/MethodHandle" ∧ yX11_count.cls ≠ "java/lang/invoke/VarHandle" ∧ (parseMethodDescriptor yX11_count.desc).map (fun d => d.parameters.length) = some 1 := by decide +kernel
theorem hd_X11_spreadNow : yX11_spreadNow.cls ≠ "java/lang/invoke/MethodHandle" ∧ yX11_spreadNow.cls ≠ "java/lang/invoke/VarHandle" ∧ (parseMethodDescriptor yX11_spreadNow.desc).map (fun d => d.parameters.length) = some 0 := by decide +kernel
theorem hd_X11_isBetween : yX11_isBetween.cls ≠ "java/lang/invoke/MethodHandle" ∧ yX11_isBetween.cls ≠ "java/lang/invoke/VarHandle" ∧ (parseMethodDescriptor yX11_isBetween.desc).map (fun d => d.parameters.length) = some 3 := by decide +kernel
theorem hd_X11_isVersion : yX11_isVersion.cls ≠ "java/lang/invoke/MethodHandle" ∧ yX11_isVersion.cls ≠ "java/lang/invoke/VarHandle" ∧ (parseMethodDescriptor yX11_isVersion.desc).map (fun d => d.parameters.length) = some 1 := by decide +kernel
theorem hd_X11_isSpan : yX11_isSpan.cls ≠ "java/lang/invoke/MethodHandle" ∧ yX11_isSpan.cls ≠ "java/lang/invoke/VarHandle" ∧ (parseMethodDescriptor yX11_isSpan.desc).map (fun d => d.parameters.length) = some 2 := by decide +kernel
theorem hd_X11_asNumber : yX11_asNumber.cls ≠ "java/lang/invoke/MethodHandle" ∧ yX11_asNumber.cls ≠ "java/lang/invoke/VarHandle" ∧ (parseMethodDescriptor yX11_asNumber.desc).map (fun d => d.parameters.length) = some 1 := by decide +kernel
theorem hd_X11_bit : yX11_bit.cls ≠ "java/lang/invoke/MethodHandle" ∧ yX11_bit.cls ≠ "java/lang/invoke/VarHandle" ∧ (parseMethodDescriptor yX11_bit.desc).map (fun d => d.parameters.length) = some 1 := by decide +kernel
theorem hd_X11_isIn : yX11_isIn.cls ≠ "java/lang/invoke/MethodHandle" ∧ yX11_isIn.cls ≠ "java/lang/invoke/VarHandle" ∧ (parseMethodDescriptor yX11_isIn.desc).map (fun d => d.parameters.length) = some 2 := by decide +kernel
theorem hd_X11_withMember : yX11_withMember.cls ≠ "java/lang/invoke/MethodHandle" ∧ yX11_withMember.cls ≠ "java/lang/invoke/VarHandle" ∧ (parseMethodDescriptor yX11_withMember.desc).map (fun d => d.parameters.length) = some 3 := by decide +kernel
theorem hd_X11_newHole : yX11_newHole.cls ≠ "java/lang/invoke/MethodHandle" ∧ yX11_newHole.cls ≠ "java/lang/invoke/VarHandle" ∧ (parseMethodDescriptor yX11_newHole.desc).map (fun d => d.parameters.length) = some 4 := by decide +kernel
theorem hd_X12_init : yX12_init.cls ≠ "java/lang/invoke/MethodHandle" ∧ yX12_init.cls ≠ "java/lang/invoke/VarHandle" ∧ (parseMethodDescriptor yX12_init.desc).map (fun d => d.parameters.length) = some 0 := by decide +kernel
theorem hd_X12_in : yX12_in.cls ≠ "java/lang/invoke/MethodHandle" ∧ yX12_in.cls ≠ "java/lang/invoke/VarHandle" ∧ (parseMethodDescriptor yX12_in.desc).map (fun d => d.parameters.length) = some 3 := by decide +kernel
theorem hd_X12_isPart : yX12_isPart.cls ≠ "java/lang/invoke/MethodHandle" ∧ yX12_isPart.cls ≠ "java/lang/invoke/VarHandle" ∧ (parseMethodDescriptor yX12_isPart.desc).map (fun d => d.parameters.length) = some 1 := by decide +kernel
theorem hd_X12_isVersion : yX12_isVersion.cls ≠ "java/lang/invoke/MethodHandle" ∧ yX12_isVersion.cls ≠ "java/lang/invoke/VarHandle" ∧ (parseMethodDescriptor yX12_isVersion.desc).map (fun d => d.parameters.length) = some 1 := by decide +kernel
theorem hd_X12_part : yX12_part.cls ≠ "java/lang/invoke/MethodHandle" ∧ yX12_part.cls ≠ "java/lang/invoke/VarHandle" ∧ (parseMethodDescriptor yX12_part.desc).map (fun d => d.parameters.length) = some 3 := by decide +kernel
theorem hd_X12_link : yX12_link.cls ≠ "java/lang/invoke/MethodHandle" ∧ yX12_link.cls ≠ "java/lang/invoke/VarHandle" ∧ (parseMethodDescriptor yX12_link.desc).map (fun d => d.parameters.length) = some 3 := by decide +kernel
theorem hd_X12_guard : yX12_guard.cls ≠ "java/lang/invoke/MethodHandle" ∧ yX12_guard.cls ≠ "java/lang/invoke/VarHandle" ∧ (parseMethodDescriptor yX12_guard.desc).map (fun d => d.parameters.length) = some 2 := by decide +kernel
theorem hd_X12_version : yX12_version.cls ≠ "java/lang/invoke/MethodHandle" ∧ yX12_version.cls ≠ "java/lang/invoke/VarHandle" ∧ (parseMethodDescriptor yX12_version.desc).map (fun d => d.parameters.length) = some 2 := by decide +kernel
theorem hd_X12_add : yX12_add.cls ≠ "java/lang/invoke/MethodHandle" ∧ yX12_add.cls ≠ "java/lang/invoke/VarHandle" ∧ (parseMethodDescriptor yX12_add.desc).map (fun d => d.parameters.length) = some 5 := by decide +kernel
theorem hd_X12_isSpan : yX12_isSpan.cls ≠ "java/lang/invoke/MethodHandle" ∧ yX12_isSpan.cls ≠ "java/lang/invoke/VarHandle" ∧ (parseMethodDescriptor yX12_isSpan.desc).map (fun d => d.parameters.length) = some 3 := by decide +kernel
theorem hd_X12_isHole : yX12_isHole.cls ≠ "java/lang/invoke/MethodHandle" ∧ yX12_isHole.cls ≠ "java/lang/invoke/VarHandle" ∧ (parseMethodDescriptor yX12_isHole.desc).map (fun d => d.parameters.length) = some 1 := by decide +kernel
theorem hd_X12_hole : yX12_hole.cls ≠ "java/lang/invoke/MethodHandle" ∧ yX12_hole.cls ≠ "java/lang/invoke/VarHandle" ∧ (parseMethodDescriptor yX12_hole.desc).map (fun d => d.parameters.length) = some 4 := by decide +kernel
theorem hd_X12_chained : yX12_chained.cls ≠ "java/lang/invoke/MethodHandle" ∧ yX12_chained.cls ≠ "java/lang/invoke/VarHandle" ∧ (parseMethodDescriptor yX12_chained.desc).map (fun d => d.parameters.length) = some 4 := by decide +kernel
theorem hd_X12_wake : yX12_wake.cls ≠ "java/lang/invoke/MethodHandle" ∧ yX12_wake.cls ≠ "java/lang/invoke/VarHandle" ∧ (parseMethodDescriptor yX12_wake.desc).map (fun d => d.parameters.length) = some 2 := by decide +kernel
theorem hd_X12_chain : yX12_chain.cls ≠ "java/lang/invoke/MethodHandle" ∧ yX12_chain.cls ≠ "java/lang/invoke/VarHandle" ∧ (parseMethodDescriptor yX12_chain.desc).map (fun d => d.parameters.length) = some 1 := by decide +kernel
theorem hd_X12_takeVersions : yX12_takeVersions.cls ≠ "java/lang/invoke/MethodHandle" ∧ yX12_takeVersions.cls ≠ "java/lang/invoke/VarHandle" ∧ (parseMethodDescriptor yX12_takeVersions.desc).map (fun d => d.parameters.length) = some 1 := by decide +kernel
theorem hd_X12_stands : yX12_stands.cls ≠ "java/lang/invoke/MethodHandle" ∧ yX12_stands.cls ≠ "java/lang/invoke/VarHandle" ∧ (parseMethodDescriptor yX12_stands.desc).map (fun d => d.parameters.length) = some 1 := by decide +kernel
theorem hd_X12_opens : yX12_opens.cls ≠ "java/lang/invoke/MethodHandle" ∧ yX12_opens.cls ≠ "java/lang/invoke/VarHandle" ∧ (parseMethodDescriptor yX12_opens.desc).map (fun d => d.parameters.length) = some 2 := by decide +kernel
theorem hd_X12_fromFor : yX12_fromFor.cls ≠ "java/lang/invoke/MethodHandle" ∧ yX12_fromFor.cls ≠ "java/lang/invoke/VarHandle" ∧ (parseMethodDescriptor yX12_fromFor.desc).map (fun d => d.parameters.length) = some 2 := by decide +kernel
theorem hd_X12_take : yX12_take.cls ≠ "java/lang/invoke/MethodHandle" ∧ yX12_take.cls ≠ "java/lang/invoke/VarHandle" ∧ (parseMethodDescriptor yX12_take.desc).map (fun d => d.parameters.length) = some 0 := by decide +kernel
theorem hd_X12_riskNow : yX12_riskNow.cls ≠ "java/lang/invoke/MethodHandle" ∧ yX12_riskNow.cls ≠ "java/lang/invoke/VarHandle" ∧ (parseMethodDescriptor yX12_riskNow.desc).map (fun d => d.parameters.length) = some 0 := by decide +kernel
theorem hd_X12_riskOf : yX12_riskOf.cls ≠ "java/lang/invoke/MethodHandle" ∧ yX12_riskOf.cls ≠ "java/lang/invoke/VarHandle" ∧ (parseMethodDescriptor yX12_riskOf.desc).map (fun d => d.parameters.length) = some 1 := by decide +kernel
theorem hd_X12_told : yX12_told.cls ≠ "java/lang/invoke/MethodHandle" ∧ yX12_told.cls ≠ "java/lang/invoke/VarHandle" ∧ (parseMethodDescriptor yX12_told.desc).map (fun d => d.parameters.length) = some 2 := by decide +kernel
theorem hd_X12_risk : yX12_risk.cls ≠ "java/lang/invoke/MethodHandle" ∧ yX12_risk.cls ≠ "java/lang/invoke/VarHandle" ∧ (parseMethodDescriptor yX12_risk.desc).map (fun d => d.parameters.length) = some 0 := by decide +kernel
theorem hd_X12_taken : yX12_taken.cls ≠ "java/lang/invoke/MethodHandle" ∧ yX12_taken.cls ≠ "java/lang/invoke/VarHandle" ∧ (parseMethodDescriptor yX12_taken.desc).map (fun d => d.parameters.length) = some 0 := by decide +kernel
theorem hd_X12_way : yX12_way.cls ≠ "java/lang/invoke/MethodHandle" ∧ yX12_way.cls ≠ "java/lang/invoke/VarHandle" ∧ (parseMethodDescriptor yX12_way.desc).map (fun d => d.parameters.length) = some 2 := by decide +kernel
theorem hd_X12_bestGuard : yX12_bestGuard.cls ≠ "java/lang/invoke/MethodHandle" ∧ yX12_bestGuard.cls ≠ "java/lang/invoke/VarHandle" ∧ (parseMethodDescriptor yX12_bestGuard.desc).map (fun d => d.parameters.length) = some 0 := by decide +kernel
theorem hd_X12_isMend : yX12_isMend.cls ≠ "java/lang/invoke/MethodHandle" ∧ yX12_isMend.cls ≠ "java/lang/invoke/VarHandle" ∧ (parseMethodDescriptor yX12_isMend.desc).map (fun d => d.parameters.length) = some 1 := by decide +kernel
theorem hd_X12_mend : yX12_mend.cls ≠ "java/lang/invoke/MethodHandle" ∧ yX12_mend.cls ≠ "java/lang/invoke/VarHandle" ∧ (parseMethodDescriptor yX12_mend.desc).map (fun d => d.parameters.length) = some 6 := by decide +kernel
theorem hd_X12_quarrel : yX12_quarrel.cls ≠ "java/lang/invoke/MethodHandle" ∧ yX12_quarrel.cls ≠ "java/lang/invoke/VarHandle" ∧ (parseMethodDescriptor yX12_quarrel.desc).map (fun d => d.parameters.length) = some 4 := by decide +kernel
theorem hd_X12_isSet : yX12_isSet.cls ≠ "java/lang/invoke/MethodHandle" ∧ yX12_isSet.cls ≠ "java/lang/invoke/VarHandle" ∧ (parseMethodDescriptor yX12_isSet.desc).map (fun d => d.parameters.length) = some 1 := by decide +kernel
theorem hd_X12_isQuarrelling : yX12_isQuarrelling.cls ≠ "java/lang/invoke/MethodHandle" ∧ yX12_isQuarrelling.cls ≠ "java/lang/invoke/VarHandle" ∧ (parseMethodDescriptor yX12_isQuarrelling.desc).map (fun d => d.parameters.length) = some 0 := by decide +kernel
theorem hd_X12_isSound : yX12_isSound.cls ≠ "java/lang/invoke/MethodHandle" ∧ yX12_isSound.cls ≠ "java/lang/invoke/VarHandle" ∧ (parseMethodDescriptor yX12_isSound.desc).map (fun d => d.parameters.length) = some 1 := by decide +kernel
theorem hd_X12_riskWith : yX12_riskWith.cls ≠ "java/lang/invoke/MethodHandle" ∧ yX12_riskWith.cls ≠ "java/lang/invoke/VarHandle" ∧ (parseMethodDescriptor yX12_riskWith.desc).map (fun d => d.parameters.length) = some 1 := by decide +kernel
theorem hd_X12_sound : yX12_sound.cls ≠ "java/lang/invoke/MethodHandle" ∧ yX12_sound.cls ≠ "java/lang/invoke/VarHandle" ∧ (parseMethodDescriptor yX12_sound.desc).map (fun d => d.parameters.length) = some 1 := by decide +kernel
theorem hd_X12_gain : yX12_gain.cls ≠ "java/lang/invoke/MethodHandle" ∧ yX12_gain.cls ≠ "java/lang/invoke/VarHandle" ∧ (parseMethodDescriptor yX12_gain.desc).map (fun d => d.parameters.length) = some 2 := by decide +kernel
theorem hd_X12_next : yX12_next.cls ≠ "java/lang/invoke/MethodHandle" ∧ yX12_next.cls ≠ "java/lang/invoke/VarHandle" ∧ (parseMethodDescriptor yX12_next.desc).map (fun d => d.parameters.length) = some 1 := by decide +kernel
theorem hd_X12_mayIn : yX12_mayIn.cls ≠ "java/lang/invoke/MethodHandle" ∧ yX12_mayIn.cls ≠ "java/lang/invoke/VarHandle" ∧ (parseMethodDescriptor yX12_mayIn.desc).map (fun d => d.parameters.length) = some 3 := by decide +kernel
theorem hd_X12_planFrom : yX12_planFrom.cls ≠ "java/lang/invoke/MethodHandle" ∧ yX12_planFrom.cls ≠ "java/lang/invoke/VarHandle" ∧ (parseMethodDescriptor yX12_planFrom.desc).map (fun d => d.parameters.length) = some 4 := by decide +kernel
theorem hd_X12_plan : yX12_plan.cls ≠ "java/lang/invoke/MethodHandle" ∧ yX12_plan.cls ≠ "java/lang/invoke/VarHandle" ∧ (parseMethodDescriptor yX12_plan.desc).map (fun d => d.parameters.length) = some 2 := by decide +kernel
theorem hd_X12_week : yX12_week.cls ≠ "java/lang/invoke/MethodHandle" ∧ yX12_week.cls ≠ "java/lang/invoke/VarHandle" ∧ (parseMethodDescriptor yX12_week.desc).map (fun d => d.parameters.length) = some 1 := by decide +kernel
theorem hd_X12_moved : yX12_moved.cls ≠ "java/lang/invoke/MethodHandle" ∧ yX12_moved.cls ≠ "java/lang/invoke/VarHandle" ∧ (parseMethodDescriptor yX12_moved.desc).map (fun d => d.parameters.length) = some 0 := by decide +kernel
theorem hd_X12_make : yX12_make.cls ≠ "java/lang/invoke/MethodHandle" ∧ yX12_make.cls ≠ "java/lang/invoke/VarHandle" ∧ (parseMethodDescriptor yX12_make.desc).map (fun d => d.parameters.length) = some 1 := by decide +kernel
theorem hd_X12_count : yX12_count.cls ≠ "java/lang/invoke/MethodHandle" ∧ yX12_count.cls ≠ "java/lang/invoke/VarHandle" ∧ (parseMethodDescriptor yX12_count.desc).map (fun d => d.parameters.length) = some 1 := by decide +kernel
theorem hd_J6_bitCount_0f7a4 : yJ6_bitCount_0f7a4.cls ≠ "java/lang/invoke/MethodHandle" ∧ yJ6_bitCount_0f7a4.cls ≠ "java/lang/invoke/VarHandle" ∧ (parseMethodDescriptor yJ6_bitCount_0f7a4.desc).map (fun d => d.parameters.length) = some 1 := by decide +kernel
theorem hd_J9_max_7cf53 : yJ9_max_7cf53.cls ≠ "java/lang/invoke/MethodHandle" ∧ yJ9_max_7cf53.cls ≠ "java/lang/invoke/VarHandle" ∧ (parseMethodDescriptor yJ9_max_7cf53.desc).map (fun d => d.parameters.length) = some 2 := by decide +kernel
theorem hd_J7_fill_53178 : yJ7_fill_53178.cls ≠ "java/lang/invoke/MethodHandle" ∧ yJ7_fill_53178.cls ≠ "java/lang/invoke/VarHandle" ∧ (parseMethodDescriptor yJ7_fill_53178.desc).map (fun d => d.parameters.length) = some 2 := by decide +kernel
/-- the reference's world: the object at q 33, the array of its slot k at q k; N its numbers, R its lasting rows, X those that it reckons in, all by the slots -/
def wM (cy : Nat → ClassId) (q : Nat → Nat) (N : Nat → Nat) (R X : Nat → Nat → Int32) : va_W := [(q 33, .inr (12, [.int (nI (N 0)), .ref (q 1), .ref (q 2), .ref (q 3), .ref (q 4), .ref (q 5), .int (nI (N 6)), .ref (q 7), .ref (q 8), .ref (q 9), .ref (q 10), .ref (q 11), .ref (q 12), .ref (q 13), .ref (q 14), .ref (q 15), .ref (q 16), .int (nI (N 17)), .ref (q 18), .ref (q 19), .ref (q 20), .ref (q 21), .ref (q 22), .ref (q 23), .int (nI (N 24)), .ref (q 25), .ref (q 26), .ref (q 27), .ref (q 28), .ref (q 29), .int (nI (N 30)), .ref (q 31), .ref (q 32)])), (q 1, .inl (cy 0, 8, .inl (R 1))), (q 2, .inl (cy 0, 8, .inl (R 2))), (q 3, .inl (cy 1, 8, .inl (R 3))), (q 4, .inl (cy 1, 8, .inl (R 4))), (q 5, .inl (cy 1, 64, .inl (R 5))), (q 7, .inl (cy 0, 12, .inl (R 7))), (q 8, .inl (cy 0, 12, .inl (R 8))), (q 9, .inl (cy 0, 12, .inl (R 9))), (q 10, .inl (cy 0, 12, .inl (R 10))), (q 11, .inl (cy 0, 12, .inl (R 11))), (q 12, .inl (cy 1, 12, .inl (R 12))), (q 13, .inl (cy 0, 8, .inl (X 13))), (q 14, .inl (cy 0, 8, .inl (X 14))), (q 15, .inl (cy 0, 8, .inl (X 15))), (q 16, .inl (cy 0, 8, .inl (X 16))), (q 18, .inl (cy 0, 8, .inl (R 18))), (q 19, .inl (cy 0, 8, .inl (R 19))), (q 20, .inl (cy 0, 8, .inl (R 20))), (q 21, .inl (cy 0, 8, .inl (R 21))), (q 22, .inl (cy 0, 8, .inl (R 22))), (q 23, .inl (cy 0, 8, .inl (R 23))), (q 25, .inl (cy 0, 32, .inl (R 25))), (q 26, .inl (cy 0, 256, .inl (X 26))), (q 27, .inl (cy 1, 256, .inl (X 27))), (q 28, .inl (cy 0, 1792, .inl (X 28))), (q 29, .inl (cy 0, 1792, .inl (X 29))), (q 31, .inl (cy 0, 8, .inl (R 31))), (q 32, .inl (cy 0, 8, .inl (R 32)))]
/-! what the rows that a program lays use -/
def bI (b : Bool) : Int32 := if b then 1 else 0
theorem bI_f {b : Bool} (h : bI b = 0) : b = false := by cases b; rfl; exact absurd h (by decide)
theorem bI_t {b : Bool} (h : ¬ bI b = 0) : b = true := by cases b; exact absurd rfl h; rfl
theorem bI_01 (b : Bool) : bI b = 0 ∨ bI b = 1 := by cases b; exact Or.inl rfl; exact Or.inr rfl
theorem bI_T {b : Bool} (h : b = true) : 1 = bI b := by rw [h]; rfl
theorem bI_F {b : Bool} (h : b = false) : 0 = bI b := by rw [h]; rfl
theorem nI_ceqT {a b : Nat} (ha : a < 2147483648) (hb : b < 2147483648) (h : nI a = nI b) : a = b := (nI_eq ha hb).mp h
theorem nI_ceqF {a b : Nat} (_ : a < 2147483648) (_ : b < 2147483648) (h : ¬ nI a = nI b) : ¬ a = b := fun q => h (by rw [q])
theorem nI_cneT {a b : Nat} (_ : a < 2147483648) (_ : b < 2147483648) (h : ¬ nI a = nI b) : ¬ a = b := fun q => h (by rw [q])
theorem nI_cneF {a b : Nat} (ha : a < 2147483648) (hb : b < 2147483648) (h : nI a = nI b) : a = b := (nI_eq ha hb).mp h
theorem nI_cleT {a b : Nat} (ha : a < 2147483648) (hb : b < 2147483648) (h : nI a ≤ nI b) : a ≤ b := (nI_leI ha hb).mp h
theorem nI_cleF {a b : Nat} (ha : a < 2147483648) (hb : b < 2147483648) (h : ¬ nI a ≤ nI b) : ¬ a ≤ b := fun q => h ((nI_leI ha hb).mpr q)
theorem nI_cltT {a b : Nat} (ha : a < 2147483648) (hb : b < 2147483648) (h : nI a < nI b) : a < b := (nI_ltI ha hb).mp h
theorem nI_cltF {a b : Nat} (ha : a < 2147483648) (hb : b < 2147483648) (h : ¬ nI a < nI b) : ¬ a < b := fun q => h ((nI_ltI ha hb).mpr q)
theorem nI_cgtT {a b : Nat} (ha : a < 2147483648) (hb : b < 2147483648) (h : nI b < nI a) : b < a := (nI_ltI hb ha).mp h
theorem nI_cgtF {a b : Nat} (ha : a < 2147483648) (hb : b < 2147483648) (h : ¬ nI b < nI a) : ¬ b < a := fun q => h ((nI_ltI hb ha).mpr q)
theorem nI_cgeT {a b : Nat} (ha : a < 2147483648) (hb : b < 2147483648) (h : nI b ≤ nI a) : b ≤ a := (nI_leI hb ha).mp h
theorem nI_cgeF {a b : Nat} (ha : a < 2147483648) (hb : b < 2147483648) (h : ¬ nI b ≤ nI a) : ¬ b ≤ a := fun q => h ((nI_leI hb ha).mpr q)
theorem nI_zeqT {a : Nat} (ha : a < 2147483648) (h : nI a = 0) : a = 0 := by
  rcases Nat.eq_zero_or_pos a with q | q
  · exact q
  · exact absurd h (nI_ne0 q ha)
theorem nI_zeqF {a : Nat} (_ : a < 2147483648) (h : ¬ nI a = 0) : ¬ a = 0 := fun q => h (by rw [q]; rfl)
theorem nI_zneT {a : Nat} (ha : a < 2147483648) (h : ¬ nI a = 0) : ¬ a = 0 := nI_zeqF ha h
theorem nI_zneF {a : Nat} (ha : a < 2147483648) (h : nI a = 0) : a = 0 := nI_zeqT ha h
theorem nI_zleT {a : Nat} (ha : a < 2147483648) (h : nI a ≤ 0) : a = 0 := by
  rcases Nat.eq_zero_or_pos a with q | q
  · exact q
  · exact absurd h (nI_nle q ha)
theorem nI_zleF {a : Nat} (ha : a < 2147483648) (h : ¬ nI a ≤ 0) : 0 < a := by
  rcases Nat.eq_zero_or_pos a with q | q
  · subst q; exact absurd (by decide) h
  · exact q
theorem nI_zgtT {a : Nat} (ha : a < 2147483648) (h : 0 < nI a) : 0 < a := by
  rcases Nat.eq_zero_or_pos a with q | q
  · subst q; exact absurd h (by decide)
  · exact q
theorem nI_zgtF {a : Nat} (ha : a < 2147483648) (h : ¬ 0 < nI a) : a = 0 := by
  rcases Nat.eq_zero_or_pos a with q | q
  · exact q
  · exact absurd (nI_lt (a := 0) q ha) h
/-- the cases of a switch over 0 .. n - 1 -/
theorem sw_5 (x : Int32) : x = 0 ∨ x = 1 ∨ x = 2 ∨ x = 3 ∨ x = 4 ∨ ((¬ x = 0 ∧ ¬ x = 1 ∧ ¬ x = 2 ∧ ¬ x = 3 ∧ ¬ x = 4) ∧ (x.toInt < 0 ∨ 4 < x.toInt)) := by
  by_cases h0 : x = 0; · exact Or.inl h0
  by_cases h1 : x = 1; · exact Or.inr (Or.inl h1)
  by_cases h2 : x = 2; · exact Or.inr (Or.inr (Or.inl h2))
  by_cases h3 : x = 3; · exact Or.inr (Or.inr (Or.inr (Or.inl h3)))
  by_cases h4 : x = 4; · exact Or.inr (Or.inr (Or.inr (Or.inr (Or.inl h4))))
  refine Or.inr (Or.inr (Or.inr (Or.inr (Or.inr ⟨⟨h0, h1, h2, h3, h4⟩, ?_⟩))))
  have a0 : x.toInt ≠ 0 := fun q => h0 (Int32.toInt_inj.mp q)
  have a1 : x.toInt ≠ 1 := fun q => h1 (Int32.toInt_inj.mp q)
  have a2 : x.toInt ≠ 2 := fun q => h2 (Int32.toInt_inj.mp q)
  have a3 : x.toInt ≠ 3 := fun q => h3 (Int32.toInt_inj.mp q)
  have a4 : x.toInt ≠ 4 := fun q => h4 (Int32.toInt_inj.mp q)
  omega
theorem sw_6 (x : Int32) : x = 0 ∨ x = 1 ∨ x = 2 ∨ x = 3 ∨ x = 4 ∨ x = 5 ∨ ((¬ x = 0 ∧ ¬ x = 1 ∧ ¬ x = 2 ∧ ¬ x = 3 ∧ ¬ x = 4 ∧ ¬ x = 5) ∧ (x.toInt < 0 ∨ 5 < x.toInt)) := by
  rcases sw_5 x with h | h | h | h | h | ⟨⟨h0, h1, h2, h3, h4⟩, h⟩
  · exact Or.inl h
  · exact Or.inr (Or.inl h)
  · exact Or.inr (Or.inr (Or.inl h))
  · exact Or.inr (Or.inr (Or.inr (Or.inl h)))
  · exact Or.inr (Or.inr (Or.inr (Or.inr (Or.inl h))))
  · by_cases h5 : x = 5
    · exact Or.inr (Or.inr (Or.inr (Or.inr (Or.inr (Or.inl h5)))))
    · refine Or.inr (Or.inr (Or.inr (Or.inr (Or.inr (Or.inr ⟨⟨h0, h1, h2, h3, h4, h5⟩, ?_⟩)))))
      have a5 : x.toInt ≠ 5 := fun q => h5 (Int32.toInt_inj.mp q)
      omega
section ROWS2
variable {α : Type} {p : Program} {l : Launch} {e : Env} {R : Room} {s : State} {m : MethodId} {args : Array Value} {below : List Frame} {meth : Method} {c : Code} {H : Heap} {locs : List Loc} {cells slots mc ms : Nat} {Q : State → Prop}
variable {cc : ByteArray} {nL pc : Nat} {ls : Array Slot} {rest st : List Value} {D : va_G} {cy : Nat → ClassId} {A : Nat → Prop} {Ts : List Cond} {own : String} {ws : va_W} {post : Option Value → α → Prop} {w1 : α → va_W} {u : α}
theorem tI {x y : Int32} (h : x = y) (k : W p l e R s m args below meth c H locs cells slots Q (F0 m pc ls (.int y :: rest))) : W p l e R s m args below meth c H locs cells slots Q (F0 m pc ls (.int x :: rest)) := by rw [h]; exact k
end ROWS2
theorem MS.mk2 {α : Type} {l : Launch} {D : va_G} {cy : Nat → ClassId} {y : MethodName} {b : ByteArray} {n : Nat} {r : Option FieldType} {rm : Room} {av : List Value} {w0 : va_W} {post : Option Value → α → Prop} {w1 : α → va_W} (hy : plainName y.cls = true) (hlen : (lg_sl av).length ≤ n) (lv : List (Nat × Value)) (hlv : lv_args 0 av = lv)
    (body : ∀ (p : Program) (e : Env) (s : State) (m : MethodId) (args : Array Value) (below : List Frame) (meth : Method) (c : Code) (A : Nat → Prop) (ls : Array Slot) (Q : State → Prop), Q = MQ below (QS D A post w1) args s rm.cells rm.slots A → CallFix p m c b n s args (wsu y b n r) y.cls → meth.sig.returnType = r → meth.locks = false → meth.name = y.name → KX D cy s → (∀ q, s.heap.size ≤ q → A q) → IX D A s.heap w0 s.heap [] → lv_has ls n lv →
      W p l e rm s m args below meth c s.heap [] 0 0 Q (F0 m 0 ls [])) : MS l D cy y b n r rm av w0 post w1 :=
  MS.mk hy hlen lv hlv (fun p e s m below meth c A ls S h1 h2 h3 hK hA I hl => body p e s m _ below meth c A ls _ rfl S h1 h2 h3 hK hA I hl)
section ENDS2
variable {α : Type} {p : Program} {l : Launch} {e : Env} {R : Room} {s : State} {m : MethodId} {args : Array Value} {below : List Frame} {meth : Method} {c : Code} {H : Heap} {locs : List Loc} {cells slots mc ms : Nat} {Q : State → Prop}
variable {cc : ByteArray} {nL pc : Nat} {ls : Array Slot} {rest st : List Value} {D : va_G} {cy : Nat → ClassId} {A : Nat → Prop} {Ts : List Cond} {own : String} {ws : va_W} {post : Option Value → α → Prop} {w1 : α → va_W} {u : α}
theorem ru_i {v : Int32} (hQ : Q = MQ below (QS D A post w1) args s mc ms A) (S : CallFix p m c cc nL s args Ts own) (hr : meth.sig.returnType = some .int) (hlk : meth.locks = false) {u : α} (I : IX D A s.heap (w1 u) H locs) (hp : post (some (.int v)) u) (hdg : decode cc pc = .ok (.ireturn, 1)) (hc : cells ≤ mc := by exact Nat.le_of_ble_eq_true rfl) (hs : slots ≤ ms := by exact Nat.le_of_ble_eq_true rfl) : W p l e R s m args below meth c H locs cells slots Q (F0 m pc ls [.int v]) := by
  subst hQ; exact rt_i S hr hlk I hp hdg hc hs
theorem ru_z {v : Int32} (hQ : Q = MQ below (QS D A post w1) args s mc ms A) (S : CallFix p m c cc nL s args Ts own) (hr : meth.sig.returnType = some .boolean) (hlk : meth.locks = false) (hz : v = 0 ∨ v = 1) {u : α} (I : IX D A s.heap (w1 u) H locs) (hp : post (some (.int v)) u) (hdg : decode cc pc = .ok (.ireturn, 1)) (hc : cells ≤ mc := by exact Nat.le_of_ble_eq_true rfl) (hs : slots ≤ ms := by exact Nat.le_of_ble_eq_true rfl) : W p l e R s m args below meth c H locs cells slots Q (F0 m pc ls [.int v]) := by
  subst hQ; exact rt_z S hr hlk hz I hp hdg hc hs
theorem ru_v (hQ : Q = MQ below (QS D A post w1) args s mc ms A) (S : CallFix p m c cc nL s args Ts own) (hr : meth.sig.returnType = none) (hlk : meth.locks = false) {u : α} (I : IX D A s.heap (w1 u) H locs) (hp : post none u) (hdg : decode cc pc = .ok (.return_, 1)) (hc : cells ≤ mc := by exact Nat.le_of_ble_eq_true rfl) (hs : slots ≤ ms := by exact Nat.le_of_ble_eq_true rfl) : W p l e R s m args below meth c H locs cells slots Q (F0 m pc ls []) := by
  subst hQ; exact rt_v S hr hlk I hp hdg hc hs
theorem ru_a {v : Option Nat} {C : String} (hQ : Q = MQ below (QS D A post w1) args s mc ms A) (S : CallFix p m c cc nL s args Ts own) (hr : meth.sig.returnType = some (.object C)) (hlk : meth.locks = false) {u : α} (I : IX D A s.heap (w1 u) H locs) (hp : post (some (va_rf v)) u) (hdg : decode cc pc = .ok (.areturn, 1)) (hc : cells ≤ mc := by exact Nat.le_of_ble_eq_true rfl) (hs : slots ≤ ms := by exact Nat.le_of_ble_eq_true rfl) : W p l e R s m args below meth c H locs cells slots Q (F0 m pc ls [va_rf v]) := by
  subst hQ; exact rt_a S hr hlk I hp hdg hc hs
end ENDS2

