theorem hd_TM_init : y_TM_init.cls ≠ "java/lang/invoke/MethodHandle" ∧ y_TM_init.cls ≠ "java/lang/invoke/VarHandle" ∧ (parseMethodDescriptor y_TM_init.desc).map (fun d => d.parameters.length) = some 0 := by decide +kernel
abbrev w_TM_init : List Cond := Cond.code y_TM_init c_TM_init 1 none :: tb
theorem hd_RE_init : y_RE_init.cls ≠ "java/lang/invoke/MethodHandle" ∧ y_RE_init.cls ≠ "java/lang/invoke/VarHandle" ∧ (parseMethodDescriptor y_RE_init.desc).map (fun d => d.parameters.length) = some 0 := by decide +kernel
abbrev w_RE_init : List Cond := Cond.code y_RE_init c_RE_init 1 none :: tb
theorem hd_FM_init : y_FM_init.cls ≠ "java/lang/invoke/MethodHandle" ∧ y_FM_init.cls ≠ "java/lang/invoke/VarHandle" ∧ (parseMethodDescriptor y_FM_init.desc).map (fun d => d.parameters.length) = some 0 := by decide +kernel
abbrev w_FM_init : List Cond := Cond.code y_FM_init c_FM_init 1 none :: tb
theorem hd_MA_init : y_MA_init.cls ≠ "java/lang/invoke/MethodHandle" ∧ y_MA_init.cls ≠ "java/lang/invoke/VarHandle" ∧ (parseMethodDescriptor y_MA_init.desc).map (fun d => d.parameters.length) = some 0 := by decide +kernel
abbrev w_MA_init : List Cond := Cond.code y_MA_init c_MA_init 1 none :: tb
theorem hd_SM_init : y_SM_init.cls ≠ "java/lang/invoke/MethodHandle" ∧ y_SM_init.cls ≠ "java/lang/invoke/VarHandle" ∧ (parseMethodDescriptor y_SM_init.desc).map (fun d => d.parameters.length) = some 0 := by decide +kernel
abbrev w_SM_init : List Cond := Cond.code y_SM_init c_SM_init 1 none :: tb
theorem hd_PR_init : y_PR_init.cls ≠ "java/lang/invoke/MethodHandle" ∧ y_PR_init.cls ≠ "java/lang/invoke/VarHandle" ∧ (parseMethodDescriptor y_PR_init.desc).map (fun d => d.parameters.length) = some 0 := by decide +kernel
abbrev w_PR_init : List Cond := Cond.code y_PR_init c_PR_init 2 none :: tb
theorem hd_TM_alike : y_TM_alike.cls ≠ "java/lang/invoke/MethodHandle" ∧ y_TM_alike.cls ≠ "java/lang/invoke/VarHandle" ∧ (parseMethodDescriptor y_TM_alike.desc).map (fun d => d.parameters.length) = some 0 := by decide +kernel
abbrev w_TM_alike : List Cond := Cond.code y_TM_alike c_TM_alike 2 (some .boolean) :: tb
theorem hd_PR_beginOf : y_PR_beginOf.cls ≠ "java/lang/invoke/MethodHandle" ∧ y_PR_beginOf.cls ≠ "java/lang/invoke/VarHandle" ∧ (parseMethodDescriptor y_PR_beginOf.desc).map (fun d => d.parameters.length) = some 1 := by decide +kernel
abbrev w_PR_beginOf : List Cond := Cond.code y_PR_beginOf c_PR_beginOf 2 (some .int) :: tb
theorem hd_TM_isByte : y_TM_isByte.cls ≠ "java/lang/invoke/MethodHandle" ∧ y_TM_isByte.cls ≠ "java/lang/invoke/VarHandle" ∧ (parseMethodDescriptor y_TM_isByte.desc).map (fun d => d.parameters.length) = some 1 := by decide +kernel
abbrev w_TM_isByte : List Cond := Cond.code y_TM_isByte c_TM_isByte 1 (some .boolean) :: tb
theorem hd_MA_hasHalted : y_MA_hasHalted.cls ≠ "java/lang/invoke/MethodHandle" ∧ y_MA_hasHalted.cls ≠ "java/lang/invoke/VarHandle" ∧ (parseMethodDescriptor y_MA_hasHalted.desc).map (fun d => d.parameters.length) = some 0 := by decide +kernel
abbrev w_MA_hasHalted : List Cond := Cond.code y_MA_hasHalted c_MA_hasHalted 1 (some .boolean) :: tb
theorem hd_MA_looksLike : y_MA_looksLike.cls ≠ "java/lang/invoke/MethodHandle" ∧ y_MA_looksLike.cls ≠ "java/lang/invoke/VarHandle" ∧ (parseMethodDescriptor y_MA_looksLike.desc).map (fun d => d.parameters.length) = some 1 := by decide +kernel
abbrev w_MA_looksLike : List Cond := Cond.code y_MA_looksLike c_MA_looksLike 3 (some .boolean) :: tb
theorem hd_TM_code : y_TM_code.cls ≠ "java/lang/invoke/MethodHandle" ∧ y_TM_code.cls ≠ "java/lang/invoke/VarHandle" ∧ (parseMethodDescriptor y_TM_code.desc).map (fun d => d.parameters.length) = some 2 := by decide +kernel
abbrev w_TM_code : List Cond := Cond.code y_TM_code c_TM_code 3 (some .int) :: tb
theorem hd_PR_part : y_PR_part.cls ≠ "java/lang/invoke/MethodHandle" ∧ y_PR_part.cls ≠ "java/lang/invoke/VarHandle" ∧ (parseMethodDescriptor y_PR_part.desc).map (fun d => d.parameters.length) = some 2 := by decide +kernel
abbrev w_PR_part : List Cond := Cond.code y_PR_part c_PR_part 3 (some .int) :: tb
theorem hd_TM_mapped : y_TM_mapped.cls ≠ "java/lang/invoke/MethodHandle" ∧ y_TM_mapped.cls ≠ "java/lang/invoke/VarHandle" ∧ (parseMethodDescriptor y_TM_mapped.desc).map (fun d => d.parameters.length) = some 1 := by decide +kernel
abbrev w_TM_mapped : List Cond := Cond.code y_TM_mapped c_TM_mapped 2 (some .int) :: tb
theorem hd_TM_look : y_TM_look.cls ≠ "java/lang/invoke/MethodHandle" ∧ y_TM_look.cls ≠ "java/lang/invoke/VarHandle" ∧ (parseMethodDescriptor y_TM_look.desc).map (fun d => d.parameters.length) = some 2 := by decide +kernel
abbrev w_TM_look : List Cond := Cond.code y_TM_look c_TM_look 4 (some .int) :: tb
theorem hd_TM_machineOf : y_TM_machineOf.cls ≠ "java/lang/invoke/MethodHandle" ∧ y_TM_machineOf.cls ≠ "java/lang/invoke/VarHandle" ∧ (parseMethodDescriptor y_TM_machineOf.desc).map (fun d => d.parameters.length) = some 1 := by decide +kernel
abbrev w_TM_machineOf : List Cond := Cond.code y_TM_machineOf c_TM_machineOf 2 (some (.object "TwinMill$Machine")) :: tb
theorem hd_SM_view : y_SM_view.cls ≠ "java/lang/invoke/MethodHandle" ∧ y_SM_view.cls ≠ "java/lang/invoke/VarHandle" ∧ (parseMethodDescriptor y_SM_view.desc).map (fun d => d.parameters.length) = some 1 := by decide +kernel
abbrev w_SM_view : List Cond := Cond.code y_SM_view c_SM_view 2 (some .int) :: tb
theorem hd_TM_bit : y_TM_bit.cls ≠ "java/lang/invoke/MethodHandle" ∧ y_TM_bit.cls ≠ "java/lang/invoke/VarHandle" ∧ (parseMethodDescriptor y_TM_bit.desc).map (fun d => d.parameters.length) = some 1 := by decide +kernel
abbrev w_TM_bit : List Cond := Cond.code y_TM_bit c_TM_bit 1 (some .int) :: tb
theorem hd_MA_view : y_MA_view.cls ≠ "java/lang/invoke/MethodHandle" ∧ y_MA_view.cls ≠ "java/lang/invoke/VarHandle" ∧ (parseMethodDescriptor y_MA_view.desc).map (fun d => d.parameters.length) = some 1 := by decide +kernel
abbrev w_MA_view : List Cond := Cond.code y_MA_view c_MA_view 2 (some .int) :: tb
theorem hd_TM_byteAt : y_TM_byteAt.cls ≠ "java/lang/invoke/MethodHandle" ∧ y_TM_byteAt.cls ≠ "java/lang/invoke/VarHandle" ∧ (parseMethodDescriptor y_TM_byteAt.desc).map (fun d => d.parameters.length) = some 2 := by decide +kernel
abbrev w_TM_byteAt : List Cond := Cond.code y_TM_byteAt c_TM_byteAt 4 (some .int) :: tb
theorem hd_MA_peek : y_MA_peek.cls ≠ "java/lang/invoke/MethodHandle" ∧ y_MA_peek.cls ≠ "java/lang/invoke/VarHandle" ∧ (parseMethodDescriptor y_MA_peek.desc).map (fun d => d.parameters.length) = some 1 := by decide +kernel
abbrev w_MA_peek : List Cond := Cond.code y_MA_peek c_MA_peek 2 (some .int) :: tb
theorem hd_LA_image : y_LA_image.cls ≠ "java/lang/invoke/MethodHandle" ∧ y_LA_image.cls ≠ "java/lang/invoke/VarHandle" ∧ (parseMethodDescriptor y_LA_image.desc).map (fun d => d.parameters.length) = some 4 := by decide +kernel
theorem hd_TM_image : y_TM_image.cls ≠ "java/lang/invoke/MethodHandle" ∧ y_TM_image.cls ≠ "java/lang/invoke/VarHandle" ∧ (parseMethodDescriptor y_TM_image.desc).map (fun d => d.parameters.length) = some 2 := by decide +kernel
abbrev w_TM_image : List Cond := Cond.code y_TM_image c_TM_image 3 (some .boolean) :: tb
theorem hd_TM_checkByte : y_TM_checkByte.cls ≠ "java/lang/invoke/MethodHandle" ∧ y_TM_checkByte.cls ≠ "java/lang/invoke/VarHandle" ∧ (parseMethodDescriptor y_TM_checkByte.desc).map (fun d => d.parameters.length) = some 1 := by decide +kernel
abbrev w_TM_checkByte : List Cond := Cond.code y_TM_checkByte c_TM_checkByte 1 none :: tb
theorem hd_LA_translate : y_LA_translate.cls ≠ "java/lang/invoke/MethodHandle" ∧ y_LA_translate.cls ≠ "java/lang/invoke/VarHandle" ∧ (parseMethodDescriptor y_LA_translate.desc).map (fun d => d.parameters.length) = some 3 := by decide +kernel
theorem hd_TM_translate : y_TM_translate.cls ≠ "java/lang/invoke/MethodHandle" ∧ y_TM_translate.cls ≠ "java/lang/invoke/VarHandle" ∧ (parseMethodDescriptor y_TM_translate.desc).map (fun d => d.parameters.length) = some 1 := by decide +kernel
abbrev w_TM_translate : List Cond := Cond.code y_TM_translate c_TM_translate 3 (some .int) :: tb
theorem hd_RE_walk : y_RE_walk.cls ≠ "java/lang/invoke/MethodHandle" ∧ y_RE_walk.cls ≠ "java/lang/invoke/VarHandle" ∧ (parseMethodDescriptor y_RE_walk.desc).map (fun d => d.parameters.length) = some 1 := by decide +kernel
abbrev w_RE_walk : List Cond := Cond.code y_RE_walk c_RE_walk 3 none :: tb
theorem hd_RE_mark : y_RE_mark.cls ≠ "java/lang/invoke/MethodHandle" ∧ y_RE_mark.cls ≠ "java/lang/invoke/VarHandle" ∧ (parseMethodDescriptor y_RE_mark.desc).map (fun d => d.parameters.length) = some 1 := by decide +kernel
abbrev w_RE_mark : List Cond := Cond.code y_RE_mark c_RE_mark 3 none :: tb
theorem hd_RE_follow : y_RE_follow.cls ≠ "java/lang/invoke/MethodHandle" ∧ y_RE_follow.cls ≠ "java/lang/invoke/VarHandle" ∧ (parseMethodDescriptor y_RE_follow.desc).map (fun d => d.parameters.length) = some 1 := by decide +kernel
abbrev w_RE_follow : List Cond := Cond.code y_RE_follow c_RE_follow 3 none :: tb
theorem hd_FO_isUnknown : y_FO_isUnknown.cls ≠ "java/lang/invoke/MethodHandle" ∧ y_FO_isUnknown.cls ≠ "java/lang/invoke/VarHandle" ∧ (parseMethodDescriptor y_FO_isUnknown.desc).map (fun d => d.parameters.length) = some 1 := by decide +kernel
abbrev w_FO_isUnknown : List Cond := Cond.code y_FO_isUnknown c_FO_isUnknown 1 (some .boolean) :: tb
theorem hd_FO_reachesBehind : y_FO_reachesBehind.cls ≠ "java/lang/invoke/MethodHandle" ∧ y_FO_reachesBehind.cls ≠ "java/lang/invoke/VarHandle" ∧ (parseMethodDescriptor y_FO_reachesBehind.desc).map (fun d => d.parameters.length) = some 1 := by decide +kernel
abbrev w_FO_reachesBehind : List Cond := Cond.code y_FO_reachesBehind c_FO_reachesBehind 1 (some .boolean) :: tb
theorem hd_FO_length : y_FO_length.cls ≠ "java/lang/invoke/MethodHandle" ∧ y_FO_length.cls ≠ "java/lang/invoke/VarHandle" ∧ (parseMethodDescriptor y_FO_length.desc).map (fun d => d.parameters.length) = some 1 := by decide +kernel
abbrev w_FO_length : List Cond := Cond.code y_FO_length c_FO_length 2 (some .int) :: tb
theorem hd_FO_hasTarget : y_FO_hasTarget.cls ≠ "java/lang/invoke/MethodHandle" ∧ y_FO_hasTarget.cls ≠ "java/lang/invoke/VarHandle" ∧ (parseMethodDescriptor y_FO_hasTarget.desc).map (fun d => d.parameters.length) = some 1 := by decide +kernel
abbrev w_FO_hasTarget : List Cond := Cond.code y_FO_hasTarget c_FO_hasTarget 1 (some .boolean) :: tb
theorem hd_RE_refusal : y_RE_refusal.cls ≠ "java/lang/invoke/MethodHandle" ∧ y_RE_refusal.cls ≠ "java/lang/invoke/VarHandle" ∧ (parseMethodDescriptor y_RE_refusal.desc).map (fun d => d.parameters.length) = some 0 := by decide +kernel
abbrev w_RE_refusal : List Cond := Cond.code y_RE_refusal c_RE_refusal 2 (some .int) :: tb
theorem hd_RE_leastUnknown : y_RE_leastUnknown.cls ≠ "java/lang/invoke/MethodHandle" ∧ y_RE_leastUnknown.cls ≠ "java/lang/invoke/VarHandle" ∧ (parseMethodDescriptor y_RE_leastUnknown.desc).map (fun d => d.parameters.length) = some 0 := by decide +kernel
abbrev w_RE_leastUnknown : List Cond := Cond.code y_RE_leastUnknown c_RE_leastUnknown 2 (some .int) :: tb
theorem hd_RE_leastOverlap : y_RE_leastOverlap.cls ≠ "java/lang/invoke/MethodHandle" ∧ y_RE_leastOverlap.cls ≠ "java/lang/invoke/VarHandle" ∧ (parseMethodDescriptor y_RE_leastOverlap.desc).map (fun d => d.parameters.length) = some 0 := by decide +kernel
abbrev w_RE_leastOverlap : List Cond := Cond.code y_RE_leastOverlap c_RE_leastOverlap 3 (some .int) :: tb
theorem hd_RE_leastRunOff : y_RE_leastRunOff.cls ≠ "java/lang/invoke/MethodHandle" ∧ y_RE_leastRunOff.cls ≠ "java/lang/invoke/VarHandle" ∧ (parseMethodDescriptor y_RE_leastRunOff.desc).map (fun d => d.parameters.length) = some 0 := by decide +kernel
abbrev w_RE_leastRunOff : List Cond := Cond.code y_RE_leastRunOff c_RE_leastRunOff 4 (some .int) :: tb
theorem hd_PR_build : y_PR_build.cls ≠ "java/lang/invoke/MethodHandle" ∧ y_PR_build.cls ≠ "java/lang/invoke/VarHandle" ∧ (parseMethodDescriptor y_PR_build.desc).map (fun d => d.parameters.length) = some 2 := by decide +kernel
abbrev w_PR_build : List Cond := Cond.code y_PR_build c_PR_build 4 none :: tb
theorem hd_RE_has : y_RE_has.cls ≠ "java/lang/invoke/MethodHandle" ∧ y_RE_has.cls ≠ "java/lang/invoke/VarHandle" ∧ (parseMethodDescriptor y_RE_has.desc).map (fun d => d.parameters.length) = some 1 := by decide +kernel
abbrev w_RE_has : List Cond := Cond.code y_RE_has c_RE_has 2 (some .boolean) :: tb
theorem hd_PR_addRow : y_PR_addRow.cls ≠ "java/lang/invoke/MethodHandle" ∧ y_PR_addRow.cls ≠ "java/lang/invoke/VarHandle" ∧ (parseMethodDescriptor y_PR_addRow.desc).map (fun d => d.parameters.length) = some 3 := by decide +kernel
abbrev w_PR_addRow : List Cond := Cond.code y_PR_addRow c_PR_addRow 4 none :: tb
theorem hd_PR_addMove : y_PR_addMove.cls ≠ "java/lang/invoke/MethodHandle" ∧ y_PR_addMove.cls ≠ "java/lang/invoke/VarHandle" ∧ (parseMethodDescriptor y_PR_addMove.desc).map (fun d => d.parameters.length) = some 2 := by decide +kernel
abbrev w_PR_addMove : List Cond := Cond.code y_PR_addMove c_PR_addMove 3 none :: tb
theorem hd_PR_add : y_PR_add.cls ≠ "java/lang/invoke/MethodHandle" ∧ y_PR_add.cls ≠ "java/lang/invoke/VarHandle" ∧ (parseMethodDescriptor y_PR_add.desc).map (fun d => d.parameters.length) = some 3 := by decide +kernel
abbrev w_PR_add : List Cond := Cond.code y_PR_add c_PR_add 4 none :: tb
theorem hd_PR_addTestedA : y_PR_addTestedA.cls ≠ "java/lang/invoke/MethodHandle" ∧ y_PR_addTestedA.cls ≠ "java/lang/invoke/VarHandle" ∧ (parseMethodDescriptor y_PR_addTestedA.desc).map (fun d => d.parameters.length) = some 2 := by decide +kernel
abbrev w_PR_addTestedA : List Cond := Cond.code y_PR_addTestedA c_PR_addTestedA 3 none :: tb
theorem hd_PR_addSum : y_PR_addSum.cls ≠ "java/lang/invoke/MethodHandle" ∧ y_PR_addSum.cls ≠ "java/lang/invoke/VarHandle" ∧ (parseMethodDescriptor y_PR_addSum.desc).map (fun d => d.parameters.length) = some 2 := by decide +kernel
abbrev w_PR_addSum : List Cond := Cond.code y_PR_addSum c_PR_addSum 3 none :: tb
theorem hd_PR_addCountedX : y_PR_addCountedX.cls ≠ "java/lang/invoke/MethodHandle" ∧ y_PR_addCountedX.cls ≠ "java/lang/invoke/VarHandle" ∧ (parseMethodDescriptor y_PR_addCountedX.desc).map (fun d => d.parameters.length) = some 1 := by decide +kernel
abbrev w_PR_addCountedX : List Cond := Cond.code y_PR_addCountedX c_PR_addCountedX 2 none :: tb
theorem hd_PR_addWithR2 : y_PR_addWithR2.cls ≠ "java/lang/invoke/MethodHandle" ∧ y_PR_addWithR2.cls ≠ "java/lang/invoke/VarHandle" ∧ (parseMethodDescriptor y_PR_addWithR2.desc).map (fun d => d.parameters.length) = some 3 := by decide +kernel
abbrev w_PR_addWithR2 : List Cond := Cond.code y_PR_addWithR2 c_PR_addWithR2 4 none :: tb
theorem hd_PR_addTransfer : y_PR_addTransfer.cls ≠ "java/lang/invoke/MethodHandle" ∧ y_PR_addTransfer.cls ≠ "java/lang/invoke/VarHandle" ∧ (parseMethodDescriptor y_PR_addTransfer.desc).map (fun d => d.parameters.length) = some 3 := by decide +kernel
abbrev w_PR_addTransfer : List Cond := Cond.code y_PR_addTransfer c_PR_addTransfer 4 none :: tb
theorem hd_PR_fillTargets : y_PR_fillTargets.cls ≠ "java/lang/invoke/MethodHandle" ∧ y_PR_fillTargets.cls ≠ "java/lang/invoke/VarHandle" ∧ (parseMethodDescriptor y_PR_fillTargets.desc).map (fun d => d.parameters.length) = some 0 := by decide +kernel
abbrev w_PR_fillTargets : List Cond := Cond.code y_PR_fillTargets c_PR_fillTargets 2 none :: tb
theorem hd_SO_hasTarget : y_SO_hasTarget.cls ≠ "java/lang/invoke/MethodHandle" ∧ y_SO_hasTarget.cls ≠ "java/lang/invoke/VarHandle" ∧ (parseMethodDescriptor y_SO_hasTarget.desc).map (fun d => d.parameters.length) = some 1 := by decide +kernel
abbrev w_SO_hasTarget : List Cond := Cond.code y_SO_hasTarget c_SO_hasTarget 1 (some .boolean) :: tb
theorem hd_MA_begin : y_MA_begin.cls ≠ "java/lang/invoke/MethodHandle" ∧ y_MA_begin.cls ≠ "java/lang/invoke/VarHandle" ∧ (parseMethodDescriptor y_MA_begin.desc).map (fun d => d.parameters.length) = some 2 := by decide +kernel
abbrev w_MA_begin : List Cond := Cond.code y_MA_begin c_MA_begin 4 none :: tb
theorem hd_SM_begin : y_SM_begin.cls ≠ "java/lang/invoke/MethodHandle" ∧ y_SM_begin.cls ≠ "java/lang/invoke/VarHandle" ∧ (parseMethodDescriptor y_SM_begin.desc).map (fun d => d.parameters.length) = some 2 := by decide +kernel
abbrev w_SM_begin : List Cond := Cond.code y_SM_begin c_SM_begin 3 none :: tb
theorem hd_LA_first : y_LA_first.cls ≠ "java/lang/invoke/MethodHandle" ∧ y_LA_first.cls ≠ "java/lang/invoke/VarHandle" ∧ (parseMethodDescriptor y_LA_first.desc).map (fun d => d.parameters.length) = some 3 := by decide +kernel
theorem hd_TM_first : y_TM_first.cls ≠ "java/lang/invoke/MethodHandle" ∧ y_TM_first.cls ≠ "java/lang/invoke/VarHandle" ∧ (parseMethodDescriptor y_TM_first.desc).map (fun d => d.parameters.length) = some 1 := by decide +kernel
abbrev w_TM_first : List Cond := Cond.code y_TM_first c_TM_first 2 (some .int) :: tb
theorem hd_TM_checkSteps : y_TM_checkSteps.cls ≠ "java/lang/invoke/MethodHandle" ∧ y_TM_checkSteps.cls ≠ "java/lang/invoke/VarHandle" ∧ (parseMethodDescriptor y_TM_checkSteps.desc).map (fun d => d.parameters.length) = some 1 := by decide +kernel
abbrev w_TM_checkSteps : List Cond := Cond.code y_TM_checkSteps c_TM_checkSteps 1 none :: tb
theorem hd_TM_checkTranslated : y_TM_checkTranslated.cls ≠ "java/lang/invoke/MethodHandle" ∧ y_TM_checkTranslated.cls ≠ "java/lang/invoke/VarHandle" ∧ (parseMethodDescriptor y_TM_checkTranslated.desc).map (fun d => d.parameters.length) = some 0 := by decide +kernel
abbrev w_TM_checkTranslated : List Cond := Cond.code y_TM_checkTranslated c_TM_checkTranslated 1 none :: tb
theorem hd_MA_run : y_MA_run.cls ≠ "java/lang/invoke/MethodHandle" ∧ y_MA_run.cls ≠ "java/lang/invoke/VarHandle" ∧ (parseMethodDescriptor y_MA_run.desc).map (fun d => d.parameters.length) = some 1 := by decide +kernel
abbrev w_MA_run : List Cond := Cond.code y_MA_run c_MA_run 3 (some .int) :: tb
theorem hd_FM_step : y_FM_step.cls ≠ "java/lang/invoke/MethodHandle" ∧ y_FM_step.cls ≠ "java/lang/invoke/VarHandle" ∧ (parseMethodDescriptor y_FM_step.desc).map (fun d => d.parameters.length) = some 0 := by decide +kernel
abbrev w_FM_step : List Cond := Cond.code y_FM_step c_FM_step 3 none :: tb
theorem hd_FM_move : y_FM_move.cls ≠ "java/lang/invoke/MethodHandle" ∧ y_FM_move.cls ≠ "java/lang/invoke/VarHandle" ∧ (parseMethodDescriptor y_FM_move.desc).map (fun d => d.parameters.length) = some 2 := by decide +kernel
abbrev w_FM_move : List Cond := Cond.code y_FM_move c_FM_move 3 none :: tb
theorem hd_MA_tested : y_MA_tested.cls ≠ "java/lang/invoke/MethodHandle" ∧ y_MA_tested.cls ≠ "java/lang/invoke/VarHandle" ∧ (parseMethodDescriptor y_MA_tested.desc).map (fun d => d.parameters.length) = some 1 := by decide +kernel
abbrev w_MA_tested : List Cond := Cond.code y_MA_tested c_MA_tested 2 (some .int) :: tb
theorem hd_MA_poke : y_MA_poke.cls ≠ "java/lang/invoke/MethodHandle" ∧ y_MA_poke.cls ≠ "java/lang/invoke/VarHandle" ∧ (parseMethodDescriptor y_MA_poke.desc).map (fun d => d.parameters.length) = some 2 := by decide +kernel
abbrev w_MA_poke : List Cond := Cond.code y_MA_poke c_MA_poke 3 none :: tb
theorem hd_FM_reckon : y_FM_reckon.cls ≠ "java/lang/invoke/MethodHandle" ∧ y_FM_reckon.cls ≠ "java/lang/invoke/VarHandle" ∧ (parseMethodDescriptor y_FM_reckon.desc).map (fun d => d.parameters.length) = some 2 := by decide +kernel
abbrev w_FM_reckon : List Cond := Cond.code y_FM_reckon c_FM_reckon 3 none :: tb
theorem hd_MA_sum : y_MA_sum.cls ≠ "java/lang/invoke/MethodHandle" ∧ y_MA_sum.cls ≠ "java/lang/invoke/VarHandle" ∧ (parseMethodDescriptor y_MA_sum.desc).map (fun d => d.parameters.length) = some 3 := by decide +kernel
abbrev w_MA_sum : List Cond := Cond.code y_MA_sum c_MA_sum 5 (some .int) :: tb
theorem hd_MA_difference : y_MA_difference.cls ≠ "java/lang/invoke/MethodHandle" ∧ y_MA_difference.cls ≠ "java/lang/invoke/VarHandle" ∧ (parseMethodDescriptor y_MA_difference.desc).map (fun d => d.parameters.length) = some 2 := by decide +kernel
abbrev w_MA_difference : List Cond := Cond.code y_MA_difference c_MA_difference 3 (some .int) :: tb
theorem hd_MA_testedWithoutCarry : y_MA_testedWithoutCarry.cls ≠ "java/lang/invoke/MethodHandle" ∧ y_MA_testedWithoutCarry.cls ≠ "java/lang/invoke/VarHandle" ∧ (parseMethodDescriptor y_MA_testedWithoutCarry.desc).map (fun d => d.parameters.length) = some 1 := by decide +kernel
abbrev w_MA_testedWithoutCarry : List Cond := Cond.code y_MA_testedWithoutCarry c_MA_testedWithoutCarry 2 (some .int) :: tb
theorem hd_MA_doubled : y_MA_doubled.cls ≠ "java/lang/invoke/MethodHandle" ∧ y_MA_doubled.cls ≠ "java/lang/invoke/VarHandle" ∧ (parseMethodDescriptor y_MA_doubled.desc).map (fun d => d.parameters.length) = some 1 := by decide +kernel
abbrev w_MA_doubled : List Cond := Cond.code y_MA_doubled c_MA_doubled 2 (some .int) :: tb
theorem hd_MA_halved : y_MA_halved.cls ≠ "java/lang/invoke/MethodHandle" ∧ y_MA_halved.cls ≠ "java/lang/invoke/VarHandle" ∧ (parseMethodDescriptor y_MA_halved.desc).map (fun d => d.parameters.length) = some 1 := by decide +kernel
abbrev w_MA_halved : List Cond := Cond.code y_MA_halved c_MA_halved 2 (some .int) :: tb
theorem hd_FM_transfer : y_FM_transfer.cls ≠ "java/lang/invoke/MethodHandle" ∧ y_FM_transfer.cls ≠ "java/lang/invoke/VarHandle" ∧ (parseMethodDescriptor y_FM_transfer.desc).map (fun d => d.parameters.length) = some 2 := by decide +kernel
abbrev w_FM_transfer : List Cond := Cond.code y_FM_transfer c_FM_transfer 3 none :: tb
theorem hd_MA_goIf : y_MA_goIf.cls ≠ "java/lang/invoke/MethodHandle" ∧ y_MA_goIf.cls ≠ "java/lang/invoke/VarHandle" ∧ (parseMethodDescriptor y_MA_goIf.desc).map (fun d => d.parameters.length) = some 2 := by decide +kernel
abbrev w_MA_goIf : List Cond := Cond.code y_MA_goIf c_MA_goIf 3 none :: tb
theorem hd_MA_push : y_MA_push.cls ≠ "java/lang/invoke/MethodHandle" ∧ y_MA_push.cls ≠ "java/lang/invoke/VarHandle" ∧ (parseMethodDescriptor y_MA_push.desc).map (fun d => d.parameters.length) = some 1 := by decide +kernel
abbrev w_MA_push : List Cond := Cond.code y_MA_push c_MA_push 2 none :: tb
theorem hd_MA_pop : y_MA_pop.cls ≠ "java/lang/invoke/MethodHandle" ∧ y_MA_pop.cls ≠ "java/lang/invoke/VarHandle" ∧ (parseMethodDescriptor y_MA_pop.desc).map (fun d => d.parameters.length) = some 0 := by decide +kernel
abbrev w_MA_pop : List Cond := Cond.code y_MA_pop c_MA_pop 1 (some .int) :: tb
theorem hd_SM_step : y_SM_step.cls ≠ "java/lang/invoke/MethodHandle" ∧ y_SM_step.cls ≠ "java/lang/invoke/VarHandle" ∧ (parseMethodDescriptor y_SM_step.desc).map (fun d => d.parameters.length) = some 0 := by decide +kernel
abbrev w_SM_step : List Cond := Cond.code y_SM_step c_SM_step 4 none :: tb
theorem hd_SM_register : y_SM_register.cls ≠ "java/lang/invoke/MethodHandle" ∧ y_SM_register.cls ≠ "java/lang/invoke/VarHandle" ∧ (parseMethodDescriptor y_SM_register.desc).map (fun d => d.parameters.length) = some 1 := by decide +kernel
abbrev w_SM_register : List Cond := Cond.code y_SM_register c_SM_register 2 (some .int) :: tb
theorem hd_SM_goMapped : y_SM_goMapped.cls ≠ "java/lang/invoke/MethodHandle" ∧ y_SM_goMapped.cls ≠ "java/lang/invoke/VarHandle" ∧ (parseMethodDescriptor y_SM_goMapped.desc).map (fun d => d.parameters.length) = some 1 := by decide +kernel
abbrev w_SM_goMapped : List Cond := Cond.code y_SM_goMapped c_SM_goMapped 3 none :: tb
theorem hd_SM_move : y_SM_move.cls ≠ "java/lang/invoke/MethodHandle" ∧ y_SM_move.cls ≠ "java/lang/invoke/VarHandle" ∧ (parseMethodDescriptor y_SM_move.desc).map (fun d => d.parameters.length) = some 3 := by decide +kernel
abbrev w_SM_move : List Cond := Cond.code y_SM_move c_SM_move 4 none :: tb
theorem hd_SM_setRegister : y_SM_setRegister.cls ≠ "java/lang/invoke/MethodHandle" ∧ y_SM_setRegister.cls ≠ "java/lang/invoke/VarHandle" ∧ (parseMethodDescriptor y_SM_setRegister.desc).map (fun d => d.parameters.length) = some 2 := by decide +kernel
abbrev w_SM_setRegister : List Cond := Cond.code y_SM_setRegister c_SM_setRegister 3 none :: tb
theorem hd_SM_reckon : y_SM_reckon.cls ≠ "java/lang/invoke/MethodHandle" ∧ y_SM_reckon.cls ≠ "java/lang/invoke/VarHandle" ∧ (parseMethodDescriptor y_SM_reckon.desc).map (fun d => d.parameters.length) = some 3 := by decide +kernel
abbrev w_SM_reckon : List Cond := Cond.code y_SM_reckon c_SM_reckon 6 none :: tb
theorem hd_SM_control : y_SM_control.cls ≠ "java/lang/invoke/MethodHandle" ∧ y_SM_control.cls ≠ "java/lang/invoke/VarHandle" ∧ (parseMethodDescriptor y_SM_control.desc).map (fun d => d.parameters.length) = some 3 := by decide +kernel
abbrev w_SM_control : List Cond := Cond.code y_SM_control c_SM_control 4 none :: tb
theorem hd_LA_second : y_LA_second.cls ≠ "java/lang/invoke/MethodHandle" ∧ y_LA_second.cls ≠ "java/lang/invoke/VarHandle" ∧ (parseMethodDescriptor y_LA_second.desc).map (fun d => d.parameters.length) = some 3 := by decide +kernel
theorem hd_TM_second : y_TM_second.cls ≠ "java/lang/invoke/MethodHandle" ∧ y_TM_second.cls ≠ "java/lang/invoke/VarHandle" ∧ (parseMethodDescriptor y_TM_second.desc).map (fun d => d.parameters.length) = some 1 := by decide +kernel
abbrev w_TM_second : List Cond := Cond.code y_TM_second c_TM_second 2 (some .int) :: tb
theorem hd_LA_boundary : y_LA_boundary.cls ≠ "java/lang/invoke/MethodHandle" ∧ y_LA_boundary.cls ≠ "java/lang/invoke/VarHandle" ∧ (parseMethodDescriptor y_LA_boundary.desc).map (fun d => d.parameters.length) = some 2 := by decide +kernel
theorem hd_TM_boundary : y_TM_boundary.cls ≠ "java/lang/invoke/MethodHandle" ∧ y_TM_boundary.cls ≠ "java/lang/invoke/VarHandle" ∧ (parseMethodDescriptor y_TM_boundary.desc).map (fun d => d.parameters.length) = some 0 := by decide +kernel
abbrev w_TM_boundary : List Cond := Cond.code y_TM_boundary c_TM_boundary 1 (some .int) :: tb
theorem hd_SM_runToBeginning : y_SM_runToBeginning.cls ≠ "java/lang/invoke/MethodHandle" ∧ y_SM_runToBeginning.cls ≠ "java/lang/invoke/VarHandle" ∧ (parseMethodDescriptor y_SM_runToBeginning.desc).map (fun d => d.parameters.length) = some 0 := by decide +kernel
abbrev w_SM_runToBeginning : List Cond := Cond.code y_SM_runToBeginning c_SM_runToBeginning 3 (some .int) :: tb
theorem hd_PR_beginsAt : y_PR_beginsAt.cls ≠ "java/lang/invoke/MethodHandle" ∧ y_PR_beginsAt.cls ≠ "java/lang/invoke/VarHandle" ∧ (parseMethodDescriptor y_PR_beginsAt.desc).map (fun d => d.parameters.length) = some 1 := by decide +kernel
abbrev w_PR_beginsAt : List Cond := Cond.code y_PR_beginsAt c_PR_beginsAt 2 (some .boolean) :: tb
theorem hd_MO_init : y_MO_init.cls ≠ "java/lang/invoke/MethodHandle" ∧ y_MO_init.cls ≠ "java/lang/invoke/VarHandle" ∧ (parseMethodDescriptor y_MO_init.desc).map (fun d => d.parameters.length) = some 0 := by decide +kernel
abbrev w_MO_init : List Cond := Cond.code y_MO_init c_MO_init 2 none :: tb
theorem hd_MO_thrown : y_MO_thrown.cls ≠ "java/lang/invoke/MethodHandle" ∧ y_MO_thrown.cls ≠ "java/lang/invoke/VarHandle" ∧ (parseMethodDescriptor y_MO_thrown.desc).map (fun d => d.parameters.length) = some 0 := by decide +kernel
abbrev w_MO_thrown : List Cond := Cond.code y_MO_thrown c_MO_thrown 1 (some .int) :: tb
theorem hd_MO_image : y_MO_image.cls ≠ "java/lang/invoke/MethodHandle" ∧ y_MO_image.cls ≠ "java/lang/invoke/VarHandle" ∧ (parseMethodDescriptor y_MO_image.desc).map (fun d => d.parameters.length) = some 2 := by decide +kernel
abbrev w_MO_image : List Cond := Cond.code y_MO_image c_MO_image 3 (some .boolean) :: tb
theorem hd_MO_isByte : y_MO_isByte.cls ≠ "java/lang/invoke/MethodHandle" ∧ y_MO_isByte.cls ≠ "java/lang/invoke/VarHandle" ∧ (parseMethodDescriptor y_MO_isByte.desc).map (fun d => d.parameters.length) = some 1 := by decide +kernel
abbrev w_MO_isByte : List Cond := Cond.code y_MO_isByte c_MO_isByte 1 (some .boolean) :: tb
theorem hd_MO_translate : y_MO_translate.cls ≠ "java/lang/invoke/MethodHandle" ∧ y_MO_translate.cls ≠ "java/lang/invoke/VarHandle" ∧ (parseMethodDescriptor y_MO_translate.desc).map (fun d => d.parameters.length) = some 1 := by decide +kernel
abbrev w_MO_translate : List Cond := Cond.code y_MO_translate c_MO_translate 5 (some .int) :: tb
theorem hd_MO_reach : y_MO_reach.cls ≠ "java/lang/invoke/MethodHandle" ∧ y_MO_reach.cls ≠ "java/lang/invoke/VarHandle" ∧ (parseMethodDescriptor y_MO_reach.desc).map (fun d => d.parameters.length) = some 1 := by decide +kernel
abbrev w_MO_reach : List Cond := Cond.code y_MO_reach c_MO_reach 9 none :: tb
theorem hd_MO_length : y_MO_length.cls ≠ "java/lang/invoke/MethodHandle" ∧ y_MO_length.cls ≠ "java/lang/invoke/VarHandle" ∧ (parseMethodDescriptor y_MO_length.desc).map (fun d => d.parameters.length) = some 1 := by decide +kernel
abbrev w_MO_length : List Cond := Cond.code y_MO_length c_MO_length 1 (some .int) :: tb
theorem hd_MO_goesOn : y_MO_goesOn.cls ≠ "java/lang/invoke/MethodHandle" ∧ y_MO_goesOn.cls ≠ "java/lang/invoke/VarHandle" ∧ (parseMethodDescriptor y_MO_goesOn.desc).map (fun d => d.parameters.length) = some 1 := by decide +kernel
abbrev w_MO_goesOn : List Cond := Cond.code y_MO_goesOn c_MO_goesOn 1 (some .boolean) :: tb
theorem hd_MO_leads : y_MO_leads.cls ≠ "java/lang/invoke/MethodHandle" ∧ y_MO_leads.cls ≠ "java/lang/invoke/VarHandle" ∧ (parseMethodDescriptor y_MO_leads.desc).map (fun d => d.parameters.length) = some 1 := by decide +kernel
abbrev w_MO_leads : List Cond := Cond.code y_MO_leads c_MO_leads 1 (some .boolean) :: tb
theorem hd_MO_refusal : y_MO_refusal.cls ≠ "java/lang/invoke/MethodHandle" ∧ y_MO_refusal.cls ≠ "java/lang/invoke/VarHandle" ∧ (parseMethodDescriptor y_MO_refusal.desc).map (fun d => d.parameters.length) = some 0 := by decide +kernel
abbrev w_MO_refusal : List Cond := Cond.code y_MO_refusal c_MO_refusal 5 (some .int) :: tb
theorem hd_MO_isSecond : y_MO_isSecond.cls ≠ "java/lang/invoke/MethodHandle" ∧ y_MO_isSecond.cls ≠ "java/lang/invoke/VarHandle" ∧ (parseMethodDescriptor y_MO_isSecond.desc).map (fun d => d.parameters.length) = some 1 := by decide +kernel
abbrev w_MO_isSecond : List Cond := Cond.code y_MO_isSecond c_MO_isSecond 3 (some .boolean) :: tb
theorem hd_MO_isLast : y_MO_isLast.cls ≠ "java/lang/invoke/MethodHandle" ∧ y_MO_isLast.cls ≠ "java/lang/invoke/VarHandle" ∧ (parseMethodDescriptor y_MO_isLast.desc).map (fun d => d.parameters.length) = some 1 := by decide +kernel
abbrev w_MO_isLast : List Cond := Cond.code y_MO_isLast c_MO_isLast 4 (some .boolean) :: tb
theorem hd_MO_instruction : y_MO_instruction.cls ≠ "java/lang/invoke/MethodHandle" ∧ y_MO_instruction.cls ≠ "java/lang/invoke/VarHandle" ∧ (parseMethodDescriptor y_MO_instruction.desc).map (fun d => d.parameters.length) = some 1 := by decide +kernel
abbrev w_MO_instruction : List Cond := Cond.code y_MO_instruction c_MO_instruction 4 none :: tb
theorem hd_MO_around : y_MO_around.cls ≠ "java/lang/invoke/MethodHandle" ∧ y_MO_around.cls ≠ "java/lang/invoke/VarHandle" ∧ (parseMethodDescriptor y_MO_around.desc).map (fun d => d.parameters.length) = some 3 := by decide +kernel
abbrev w_MO_around : List Cond := Cond.code y_MO_around c_MO_around 4 none :: tb
theorem hd_MO_row : y_MO_row.cls ≠ "java/lang/invoke/MethodHandle" ∧ y_MO_row.cls ≠ "java/lang/invoke/VarHandle" ∧ (parseMethodDescriptor y_MO_row.desc).map (fun d => d.parameters.length) = some 3 := by decide +kernel
abbrev w_MO_row : List Cond := Cond.code y_MO_row c_MO_row 4 none :: tb
theorem hd_MO_steps : y_MO_steps.cls ≠ "java/lang/invoke/MethodHandle" ∧ y_MO_steps.cls ≠ "java/lang/invoke/VarHandle" ∧ (parseMethodDescriptor y_MO_steps.desc).map (fun d => d.parameters.length) = some 1 := by decide +kernel
abbrev w_MO_steps : List Cond := Cond.code y_MO_steps c_MO_steps 2 none :: tb
theorem hd_MO_pair : y_MO_pair.cls ≠ "java/lang/invoke/MethodHandle" ∧ y_MO_pair.cls ≠ "java/lang/invoke/VarHandle" ∧ (parseMethodDescriptor y_MO_pair.desc).map (fun d => d.parameters.length) = some 3 := by decide +kernel
abbrev w_MO_pair : List Cond := Cond.code y_MO_pair c_MO_pair 4 none :: tb
theorem hd_MO_first : y_MO_first.cls ≠ "java/lang/invoke/MethodHandle" ∧ y_MO_first.cls ≠ "java/lang/invoke/VarHandle" ∧ (parseMethodDescriptor y_MO_first.desc).map (fun d => d.parameters.length) = some 1 := by decide +kernel
abbrev w_MO_first : List Cond := Cond.code y_MO_first c_MO_first 3 (some .int) :: tb
theorem hd_MO_limits : y_MO_limits.cls ≠ "java/lang/invoke/MethodHandle" ∧ y_MO_limits.cls ≠ "java/lang/invoke/VarHandle" ∧ (parseMethodDescriptor y_MO_limits.desc).map (fun d => d.parameters.length) = some 1 := by decide +kernel
abbrev w_MO_limits : List Cond := Cond.code y_MO_limits c_MO_limits 2 (some .int) :: tb
theorem hd_MO_stepFirst : y_MO_stepFirst.cls ≠ "java/lang/invoke/MethodHandle" ∧ y_MO_stepFirst.cls ≠ "java/lang/invoke/VarHandle" ∧ (parseMethodDescriptor y_MO_stepFirst.desc).map (fun d => d.parameters.length) = some 0 := by decide +kernel
abbrev w_MO_stepFirst : List Cond := Cond.code y_MO_stepFirst c_MO_stepFirst 3 none :: tb
theorem hd_MO_get : y_MO_get.cls ≠ "java/lang/invoke/MethodHandle" ∧ y_MO_get.cls ≠ "java/lang/invoke/VarHandle" ∧ (parseMethodDescriptor y_MO_get.desc).map (fun d => d.parameters.length) = some 2 := by decide +kernel
abbrev w_MO_get : List Cond := Cond.code y_MO_get c_MO_get 3 (some .int) :: tb
theorem hd_MO_transfers : y_MO_transfers.cls ≠ "java/lang/invoke/MethodHandle" ∧ y_MO_transfers.cls ≠ "java/lang/invoke/VarHandle" ∧ (parseMethodDescriptor y_MO_transfers.desc).map (fun d => d.parameters.length) = some 2 := by decide +kernel
abbrev w_MO_transfers : List Cond := Cond.code y_MO_transfers c_MO_transfers 6 none :: tb
theorem hd_MO_push : y_MO_push.cls ≠ "java/lang/invoke/MethodHandle" ∧ y_MO_push.cls ≠ "java/lang/invoke/VarHandle" ∧ (parseMethodDescriptor y_MO_push.desc).map (fun d => d.parameters.length) = some 2 := by decide +kernel
abbrev w_MO_push : List Cond := Cond.code y_MO_push c_MO_push 3 none :: tb
theorem hd_MO_put : y_MO_put.cls ≠ "java/lang/invoke/MethodHandle" ∧ y_MO_put.cls ≠ "java/lang/invoke/VarHandle" ∧ (parseMethodDescriptor y_MO_put.desc).map (fun d => d.parameters.length) = some 3 := by decide +kernel
abbrev w_MO_put : List Cond := Cond.code y_MO_put c_MO_put 4 none :: tb
theorem hd_MO_pop : y_MO_pop.cls ≠ "java/lang/invoke/MethodHandle" ∧ y_MO_pop.cls ≠ "java/lang/invoke/VarHandle" ∧ (parseMethodDescriptor y_MO_pop.desc).map (fun d => d.parameters.length) = some 1 := by decide +kernel
abbrev w_MO_pop : List Cond := Cond.code y_MO_pop c_MO_pop 2 (some .int) :: tb
theorem hd_MO_setZ : y_MO_setZ.cls ≠ "java/lang/invoke/MethodHandle" ∧ y_MO_setZ.cls ≠ "java/lang/invoke/VarHandle" ∧ (parseMethodDescriptor y_MO_setZ.desc).map (fun d => d.parameters.length) = some 3 := by decide +kernel
abbrev w_MO_setZ : List Cond := Cond.code y_MO_setZ c_MO_setZ 4 none :: tb
theorem hd_MO_set : y_MO_set.cls ≠ "java/lang/invoke/MethodHandle" ∧ y_MO_set.cls ≠ "java/lang/invoke/VarHandle" ∧ (parseMethodDescriptor y_MO_set.desc).map (fun d => d.parameters.length) = some 3 := by decide +kernel
abbrev w_MO_set : List Cond := Cond.code y_MO_set c_MO_set 4 none :: tb
theorem hd_MO_reckons : y_MO_reckons.cls ≠ "java/lang/invoke/MethodHandle" ∧ y_MO_reckons.cls ≠ "java/lang/invoke/VarHandle" ∧ (parseMethodDescriptor y_MO_reckons.desc).map (fun d => d.parameters.length) = some 2 := by decide +kernel
abbrev w_MO_reckons : List Cond := Cond.code y_MO_reckons c_MO_reckons 4 none :: tb
theorem hd_MO_adds : y_MO_adds.cls ≠ "java/lang/invoke/MethodHandle" ∧ y_MO_adds.cls ≠ "java/lang/invoke/VarHandle" ∧ (parseMethodDescriptor y_MO_adds.desc).map (fun d => d.parameters.length) = some 4 := by decide +kernel
abbrev w_MO_adds : List Cond := Cond.code y_MO_adds c_MO_adds 6 none :: tb
theorem hd_MO_subtracts : y_MO_subtracts.cls ≠ "java/lang/invoke/MethodHandle" ∧ y_MO_subtracts.cls ≠ "java/lang/invoke/VarHandle" ∧ (parseMethodDescriptor y_MO_subtracts.desc).map (fun d => d.parameters.length) = some 4 := by decide +kernel
abbrev w_MO_subtracts : List Cond := Cond.code y_MO_subtracts c_MO_subtracts 6 none :: tb
theorem hd_MO_plain : y_MO_plain.cls ≠ "java/lang/invoke/MethodHandle" ∧ y_MO_plain.cls ≠ "java/lang/invoke/VarHandle" ∧ (parseMethodDescriptor y_MO_plain.desc).map (fun d => d.parameters.length) = some 3 := by decide +kernel
abbrev w_MO_plain : List Cond := Cond.code y_MO_plain c_MO_plain 4 none :: tb
theorem hd_MO_doubles : y_MO_doubles.cls ≠ "java/lang/invoke/MethodHandle" ∧ y_MO_doubles.cls ≠ "java/lang/invoke/VarHandle" ∧ (parseMethodDescriptor y_MO_doubles.desc).map (fun d => d.parameters.length) = some 2 := by decide +kernel
abbrev w_MO_doubles : List Cond := Cond.code y_MO_doubles c_MO_doubles 4 none :: tb
theorem hd_MO_halves : y_MO_halves.cls ≠ "java/lang/invoke/MethodHandle" ∧ y_MO_halves.cls ≠ "java/lang/invoke/VarHandle" ∧ (parseMethodDescriptor y_MO_halves.desc).map (fun d => d.parameters.length) = some 2 := by decide +kernel
abbrev w_MO_halves : List Cond := Cond.code y_MO_halves c_MO_halves 4 none :: tb
theorem hd_MO_moves : y_MO_moves.cls ≠ "java/lang/invoke/MethodHandle" ∧ y_MO_moves.cls ≠ "java/lang/invoke/VarHandle" ∧ (parseMethodDescriptor y_MO_moves.desc).map (fun d => d.parameters.length) = some 2 := by decide +kernel
abbrev w_MO_moves : List Cond := Cond.code y_MO_moves c_MO_moves 5 none :: tb
theorem hd_MO_second : y_MO_second.cls ≠ "java/lang/invoke/MethodHandle" ∧ y_MO_second.cls ≠ "java/lang/invoke/VarHandle" ∧ (parseMethodDescriptor y_MO_second.desc).map (fun d => d.parameters.length) = some 1 := by decide +kernel
abbrev w_MO_second : List Cond := Cond.code y_MO_second c_MO_second 3 (some .int) :: tb
theorem hd_MO_stepSecond : y_MO_stepSecond.cls ≠ "java/lang/invoke/MethodHandle" ∧ y_MO_stepSecond.cls ≠ "java/lang/invoke/VarHandle" ∧ (parseMethodDescriptor y_MO_stepSecond.desc).map (fun d => d.parameters.length) = some 0 := by decide +kernel
abbrev w_MO_stepSecond : List Cond := Cond.code y_MO_stepSecond c_MO_stepSecond 2 none :: tb
theorem hd_MO_others : y_MO_others.cls ≠ "java/lang/invoke/MethodHandle" ∧ y_MO_others.cls ≠ "java/lang/invoke/VarHandle" ∧ (parseMethodDescriptor y_MO_others.desc).map (fun d => d.parameters.length) = some 3 := by decide +kernel
abbrev w_MO_others : List Cond := Cond.code y_MO_others c_MO_others 6 none :: tb
theorem hd_MO_works : y_MO_works.cls ≠ "java/lang/invoke/MethodHandle" ∧ y_MO_works.cls ≠ "java/lang/invoke/VarHandle" ∧ (parseMethodDescriptor y_MO_works.desc).map (fun d => d.parameters.length) = some 3 := by decide +kernel
abbrev w_MO_works : List Cond := Cond.code y_MO_works c_MO_works 6 none :: tb
theorem hd_MO_boundary : y_MO_boundary.cls ≠ "java/lang/invoke/MethodHandle" ∧ y_MO_boundary.cls ≠ "java/lang/invoke/VarHandle" ∧ (parseMethodDescriptor y_MO_boundary.desc).map (fun d => d.parameters.length) = some 0 := by decide +kernel
abbrev w_MO_boundary : List Cond := Cond.code y_MO_boundary c_MO_boundary 3 (some .int) :: tb
theorem hd_MO_atBeginning : y_MO_atBeginning.cls ≠ "java/lang/invoke/MethodHandle" ∧ y_MO_atBeginning.cls ≠ "java/lang/invoke/VarHandle" ∧ (parseMethodDescriptor y_MO_atBeginning.desc).map (fun d => d.parameters.length) = some 0 := by decide +kernel
abbrev w_MO_atBeginning : List Cond := Cond.code y_MO_atBeginning c_MO_atBeginning 3 (some .boolean) :: tb
theorem hd_MO_alike : y_MO_alike.cls ≠ "java/lang/invoke/MethodHandle" ∧ y_MO_alike.cls ≠ "java/lang/invoke/VarHandle" ∧ (parseMethodDescriptor y_MO_alike.desc).map (fun d => d.parameters.length) = some 0 := by decide +kernel
abbrev w_MO_alike : List Cond := Cond.code y_MO_alike c_MO_alike 3 (some .boolean) :: tb
theorem hd_MO_code : y_MO_code.cls ≠ "java/lang/invoke/MethodHandle" ∧ y_MO_code.cls ≠ "java/lang/invoke/VarHandle" ∧ (parseMethodDescriptor y_MO_code.desc).map (fun d => d.parameters.length) = some 2 := by decide +kernel
abbrev w_MO_code : List Cond := Cond.code y_MO_code c_MO_code 3 (some .int) :: tb
theorem hd_MO_mapped : y_MO_mapped.cls ≠ "java/lang/invoke/MethodHandle" ∧ y_MO_mapped.cls ≠ "java/lang/invoke/VarHandle" ∧ (parseMethodDescriptor y_MO_mapped.desc).map (fun d => d.parameters.length) = some 1 := by decide +kernel
abbrev w_MO_mapped : List Cond := Cond.code y_MO_mapped c_MO_mapped 2 (some .int) :: tb
theorem hd_MO_look : y_MO_look.cls ≠ "java/lang/invoke/MethodHandle" ∧ y_MO_look.cls ≠ "java/lang/invoke/VarHandle" ∧ (parseMethodDescriptor y_MO_look.desc).map (fun d => d.parameters.length) = some 2 := by decide +kernel
abbrev w_MO_look : List Cond := Cond.code y_MO_look c_MO_look 3 (some .int) :: tb
theorem hd_MO_byteAt : y_MO_byteAt.cls ≠ "java/lang/invoke/MethodHandle" ∧ y_MO_byteAt.cls ≠ "java/lang/invoke/VarHandle" ∧ (parseMethodDescriptor y_MO_byteAt.desc).map (fun d => d.parameters.length) = some 2 := by decide +kernel
abbrev w_MO_byteAt : List Cond := Cond.code y_MO_byteAt c_MO_byteAt 3 (some .int) :: tb
