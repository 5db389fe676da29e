/-! ===== the law's wrappers ===== -/
set_option maxRecDepth 20000 in
theorem kcL_21 : Cond.classLink RL 21 "java/lang/IndexOutOfBoundsException" ∈ ztb := ztb_in (zc3 (List.mem_of_getElem? (i := 86) rfl)) rfl
set_option maxRecDepth 20000 in
theorem cs_iob : Cond.castable "java/lang/IndexOutOfBoundsException" "java/lang/IndexOutOfBoundsException" ∈ lw_tbl := (zc3 (List.mem_of_getElem? (i := 99) rfl))
set_option maxRecDepth 20000 in
theorem kcL_13 : Cond.classLink RL 13 "java/lang/IllegalArgumentException" ∈ ztb := ztb_in (zc2 (List.mem_of_getElem? (i := 137) rfl)) rfl
set_option maxRecDepth 20000 in
theorem cs_iae : Cond.castable "java/lang/IllegalArgumentException" "java/lang/IllegalArgumentException" ∈ lw_tbl := (zc2 (List.mem_of_getElem? (i := 233) rfl))
set_option maxRecDepth 20000 in
theorem kcL_15 : Cond.classLink RL 15 "java/lang/IllegalStateException" ∈ ztb := ztb_in (zc2 (List.mem_of_getElem? (i := 138) rfl)) rfl
set_option maxRecDepth 20000 in
theorem cs_ise : Cond.castable "java/lang/IllegalStateException" "java/lang/IllegalStateException" ∈ lw_tbl := (zc3 (List.mem_of_getElem? (i := 65) rfl))
abbrev mL_type : zM := (yL_type, cL_type, 4, some .int)
abbrev hhL_type : zHh := [(0, 9, 12, 13), (0, 9, 15, 15)]
set_option maxRecDepth 20000 in
theorem mfL_type : zMw mL_type hhL_type 3 := ⟨ztb_in (zc2 (List.mem_of_getElem? (i := 136) rfl)) rfl, itL, ⟨by decide +kernel, by decide +kernel, by decide +kernel⟩, by decide⟩
theorem mpL_type : plainName mL_type.1.cls = true := by decide +kernel
set_option maxRecDepth 20000 in
theorem mtL_type : Cond.static mL_type.1 ∈ ztb := ztb_in (zc2 (List.mem_of_getElem? (i := 135) rfl)) rfl
abbrev mL_formula : zM := (yL_formula, cL_formula, 4, some .int)
abbrev hhL_formula : zHh := [(0, 9, 12, 21), (0, 9, 15, 13), (0, 9, 18, 15)]
set_option maxRecDepth 20000 in
theorem mfL_formula : zMw mL_formula hhL_formula 3 := ⟨ztb_in (zc3 (List.mem_of_getElem? (i := 85) rfl)) rfl, itL, ⟨by decide +kernel, by decide +kernel, by decide +kernel⟩, by decide⟩
theorem mpL_formula : plainName mL_formula.1.cls = true := by decide +kernel
set_option maxRecDepth 20000 in
theorem mtL_formula : Cond.static mL_formula.1 ∈ ztb := ztb_in (zc3 (List.mem_of_getElem? (i := 84) rfl)) rfl
abbrev mL_hold : zM := (yL_hold, cL_hold, 5, some .int)
abbrev hhL_hold : zHh := [(0, 10, 13, 21), (0, 10, 17, 13), (0, 10, 21, 15)]
set_option maxRecDepth 20000 in
theorem mfL_hold : zMw mL_hold hhL_hold 4 := ⟨ztb_in (zc4 (List.mem_of_getElem? (i := 30) rfl)) rfl, itL, ⟨by decide +kernel, by decide +kernel, by decide +kernel⟩, by decide⟩
theorem mpL_hold : plainName mL_hold.1.cls = true := by decide +kernel
set_option maxRecDepth 20000 in
theorem mtL_hold : Cond.static mL_hold.1 ∈ ztb := ztb_in (zc4 (List.mem_of_getElem? (i := 29) rfl)) rfl
abbrev mL_release : zM := (yL_release, cL_release, 4, some .int)
abbrev hhL_release : zHh := [(0, 9, 12, 21), (0, 9, 15, 15)]
set_option maxRecDepth 20000 in
theorem mfL_release : zMw mL_release hhL_release 3 := ⟨ztb_in (zc4 (List.mem_of_getElem? (i := 41) rfl)) rfl, itL, ⟨by decide +kernel, by decide +kernel, by decide +kernel⟩, by decide⟩
theorem mpL_release : plainName mL_release.1.cls = true := by decide +kernel
set_option maxRecDepth 20000 in
theorem mtL_release : Cond.static mL_release.1 ∈ ztb := ztb_in (zc4 (List.mem_of_getElem? (i := 40) rfl)) rfl
abbrev mL_read : zM := (yL_read, cL_read, 5, some .int)
abbrev hhL_read : zHh := [(0, 10, 13, 21), (0, 10, 17, 13), (0, 10, 21, 15)]
set_option maxRecDepth 20000 in
theorem mfL_read : zMw mL_read hhL_read 4 := ⟨ztb_in (zc4 (List.mem_of_getElem? (i := 49) rfl)) rfl, itL, ⟨by decide +kernel, by decide +kernel, by decide +kernel⟩, by decide⟩
theorem mpL_read : plainName mL_read.1.cls = true := by decide +kernel
set_option maxRecDepth 20000 in
theorem mtL_read : Cond.static mL_read.1 ∈ ztb := ztb_in (zc4 (List.mem_of_getElem? (i := 48) rfl)) rfl
abbrev mL_control : zM := (yL_control, cL_control, 5, some .int)
abbrev hhL_control : zHh := [(0, 10, 13, 21), (0, 10, 17, 15)]
set_option maxRecDepth 20000 in
theorem mfL_control : zMw mL_control hhL_control 4 := ⟨ztb_in (zc4 (List.mem_of_getElem? (i := 56) rfl)) rfl, itL, ⟨by decide +kernel, by decide +kernel, by decide +kernel⟩, by decide⟩
theorem mpL_control : plainName mL_control.1.cls = true := by decide +kernel
set_option maxRecDepth 20000 in
theorem mtL_control : Cond.static mL_control.1 ∈ ztb := ztb_in (zc4 (List.mem_of_getElem? (i := 55) rfl)) rfl
abbrev mL_limit : zM := (yL_limit, cL_limit, 5, some .int)
abbrev hhL_limit : zHh := [(0, 10, 13, 21), (0, 10, 17, 15)]
set_option maxRecDepth 20000 in
theorem mfL_limit : zMw mL_limit hhL_limit 4 := ⟨ztb_in (zc4 (List.mem_of_getElem? (i := 69) rfl)) rfl, itL, ⟨by decide +kernel, by decide +kernel, by decide +kernel⟩, by decide⟩
theorem mpL_limit : plainName mL_limit.1.cls = true := by decide +kernel
set_option maxRecDepth 20000 in
theorem mtL_limit : Cond.static mL_limit.1 ∈ ztb := ztb_in (zc4 (List.mem_of_getElem? (i := 68) rfl)) rfl
abbrev mL_demand : zM := (yL_demand, cL_demand, 6, some .int)
abbrev hhL_demand : zHh := [(0, 12, 15, 21), (0, 12, 19, 13), (0, 12, 23, 15)]
set_option maxRecDepth 20000 in
theorem mfL_demand : zMw mL_demand hhL_demand 5 := ⟨ztb_in (zc4 (List.mem_of_getElem? (i := 76) rfl)) rfl, itL, ⟨by decide +kernel, by decide +kernel, by decide +kernel⟩, by decide⟩
theorem mpL_demand : plainName mL_demand.1.cls = true := by decide +kernel
set_option maxRecDepth 20000 in
theorem mtL_demand : Cond.static mL_demand.1 ∈ ztb := ztb_in (zc4 (List.mem_of_getElem? (i := 75) rfl)) rfl
abbrev mL_need : zM := (yL_need, cL_need, 6, some .int)
abbrev hhL_need : zHh := [(0, 12, 15, 21), (0, 12, 19, 13), (0, 12, 23, 15)]
set_option maxRecDepth 20000 in
theorem mfL_need : zMw mL_need hhL_need 5 := ⟨ztb_in (zc4 (List.mem_of_getElem? (i := 83) rfl)) rfl, itL, ⟨by decide +kernel, by decide +kernel, by decide +kernel⟩, by decide⟩
theorem mpL_need : plainName mL_need.1.cls = true := by decide +kernel
set_option maxRecDepth 20000 in
theorem mtL_need : Cond.static mL_need.1 ∈ ztb := ztb_in (zc4 (List.mem_of_getElem? (i := 82) rfl)) rfl
abbrev mL_lie : zM := (yL_lie, cL_lie, 5, some .int)
abbrev hhL_lie : zHh := [(0, 10, 13, 21), (0, 10, 17, 13), (0, 10, 21, 15)]
set_option maxRecDepth 20000 in
theorem mfL_lie : zMw mL_lie hhL_lie 4 := ⟨ztb_in (zc4 (List.mem_of_getElem? (i := 91) rfl)) rfl, itL, ⟨by decide +kernel, by decide +kernel, by decide +kernel⟩, by decide⟩
theorem mpL_lie : plainName mL_lie.1.cls = true := by decide +kernel
set_option maxRecDepth 20000 in
theorem mtL_lie : Cond.static mL_lie.1 ∈ ztb := ztb_in (zc4 (List.mem_of_getElem? (i := 90) rfl)) rfl
abbrev mL_mend : zM := (yL_mend, cL_mend, 4, some .int)
abbrev hhL_mend : zHh := [(0, 9, 12, 21), (0, 9, 15, 15)]
set_option maxRecDepth 20000 in
theorem mfL_mend : zMw mL_mend hhL_mend 3 := ⟨ztb_in (zc4 (List.mem_of_getElem? (i := 98) rfl)) rfl, itL, ⟨by decide +kernel, by decide +kernel, by decide +kernel⟩, by decide⟩
theorem mpL_mend : plainName mL_mend.1.cls = true := by decide +kernel
set_option maxRecDepth 20000 in
theorem mtL_mend : Cond.static mL_mend.1 ∈ ztb := ztb_in (zc4 (List.mem_of_getElem? (i := 97) rfl)) rfl
abbrev mL_tick : zM := (yL_tick, cL_tick, 4, some .int)
abbrev hhL_tick : zHh := [(0, 9, 12, 13), (0, 9, 15, 15)]
set_option maxRecDepth 20000 in
theorem mfL_tick : zMw mL_tick hhL_tick 3 := ⟨ztb_in (zc4 (List.mem_of_getElem? (i := 106) rfl)) rfl, itL, ⟨by decide +kernel, by decide +kernel, by decide +kernel⟩, by decide⟩
theorem mpL_tick : plainName mL_tick.1.cls = true := by decide +kernel
set_option maxRecDepth 20000 in
theorem mtL_tick : Cond.static mL_tick.1 ∈ ztb := ztb_in (zc4 (List.mem_of_getElem? (i := 105) rfl)) rfl
abbrev mL_undo : zM := (yL_undo, cL_undo, 3, some .int)
abbrev hhL_undo : zHh := [(0, 8, 11, 15)]
set_option maxRecDepth 20000 in
theorem mfL_undo : zMw mL_undo hhL_undo 2 := ⟨ztb_in (zc4 (List.mem_of_getElem? (i := 114) rfl)) rfl, itL, ⟨by decide +kernel, by decide +kernel, by decide +kernel⟩, by decide⟩
theorem mpL_undo : plainName mL_undo.1.cls = true := by decide +kernel
set_option maxRecDepth 20000 in
theorem mtL_undo : Cond.static mL_undo.1 ∈ ztb := ztb_in (zc4 (List.mem_of_getElem? (i := 113) rfl)) rfl
abbrev mL_value : zM := (yL_value, cL_value, 4, some .int)
abbrev hhL_value : zHh := [(0, 9, 12, 21)]
set_option maxRecDepth 20000 in
theorem mfL_value : zMw mL_value hhL_value 3 := ⟨ztb_in (zc4 (List.mem_of_getElem? (i := 134) rfl)) rfl, itL, ⟨by decide +kernel, by decide +kernel, by decide +kernel⟩, by decide⟩
theorem mpL_value : plainName mL_value.1.cls = true := by decide +kernel
set_option maxRecDepth 20000 in
theorem mtL_value : Cond.static mL_value.1 ∈ ztb := ztb_in (zc4 (List.mem_of_getElem? (i := 133) rfl)) rfl
abbrev mL_valueAnew : zM := (yL_valueAnew, cL_valueAnew, 4, some .int)
abbrev hhL_valueAnew : zHh := [(0, 9, 12, 21)]
set_option maxRecDepth 20000 in
theorem mfL_valueAnew : zMw mL_valueAnew hhL_valueAnew 3 := ⟨ztb_in (zc4 (List.mem_of_getElem? (i := 141) rfl)) rfl, itL, ⟨by decide +kernel, by decide +kernel, by decide +kernel⟩, by decide⟩
theorem mpL_valueAnew : plainName mL_valueAnew.1.cls = true := by decide +kernel
set_option maxRecDepth 20000 in
theorem mtL_valueAnew : Cond.static mL_valueAnew.1 ∈ ztb := ztb_in (zc4 (List.mem_of_getElem? (i := 140) rfl)) rfl
abbrev mL_worth : zM := (yL_worth, cL_worth, 4, some .int)
abbrev hhL_worth : zHh := [(0, 9, 12, 21)]
set_option maxRecDepth 20000 in
theorem mfL_worth : zMw mL_worth hhL_worth 3 := ⟨ztb_in (zc4 (List.mem_of_getElem? (i := 148) rfl)) rfl, itL, ⟨by decide +kernel, by decide +kernel, by decide +kernel⟩, by decide⟩
theorem mpL_worth : plainName mL_worth.1.cls = true := by decide +kernel
set_option maxRecDepth 20000 in
theorem mtL_worth : Cond.static mL_worth.1 ∈ ztb := ztb_in (zc4 (List.mem_of_getElem? (i := 147) rfl)) rfl
abbrev mL_depth : zM := (yL_depth, cL_depth, 4, some .int)
abbrev hhL_depth : zHh := [(0, 9, 12, 21)]
set_option maxRecDepth 20000 in
theorem mfL_depth : zMw mL_depth hhL_depth 3 := ⟨ztb_in (zc4 (List.mem_of_getElem? (i := 156) rfl)) rfl, itL, ⟨by decide +kernel, by decide +kernel, by decide +kernel⟩, by decide⟩
theorem mpL_depth : plainName mL_depth.1.cls = true := by decide +kernel
set_option maxRecDepth 20000 in
theorem mtL_depth : Cond.static mL_depth.1 ∈ ztb := ztb_in (zc4 (List.mem_of_getElem? (i := 155) rfl)) rfl
abbrev mL_isStale : zM := (yL_isStale, cL_isStale, 4, some .int)
abbrev hhL_isStale : zHh := [(0, 16, 19, 21)]
set_option maxRecDepth 20000 in
theorem mfL_isStale : zMw mL_isStale hhL_isStale 3 := ⟨ztb_in (zc4 (List.mem_of_getElem? (i := 163) rfl)) rfl, itL, ⟨by decide +kernel, by decide +kernel, by decide +kernel⟩, by decide⟩
theorem mpL_isStale : plainName mL_isStale.1.cls = true := by decide +kernel
set_option maxRecDepth 20000 in
theorem mtL_isStale : Cond.static mL_isStale.1 ∈ ztb := ztb_in (zc4 (List.mem_of_getElem? (i := 162) rfl)) rfl
abbrev mL_state : zM := (yL_state, cL_state, 4, some .int)
abbrev hhL_state : zHh := [(0, 9, 12, 21)]
set_option maxRecDepth 20000 in
theorem mfL_state : zMw mL_state hhL_state 3 := ⟨ztb_in (zc4 (List.mem_of_getElem? (i := 171) rfl)) rfl, itL, ⟨by decide +kernel, by decide +kernel, by decide +kernel⟩, by decide⟩
theorem mpL_state : plainName mL_state.1.cls = true := by decide +kernel
set_option maxRecDepth 20000 in
theorem mtL_state : Cond.static mL_state.1 ∈ ztb := ztb_in (zc4 (List.mem_of_getElem? (i := 170) rfl)) rfl
abbrev mL_load : zM := (yL_load, cL_load, 4, some .int)
abbrev hhL_load : zHh := [(0, 9, 12, 21)]
set_option maxRecDepth 20000 in
theorem mfL_load : zMw mL_load hhL_load 3 := ⟨ztb_in (zc4 (List.mem_of_getElem? (i := 178) rfl)) rfl, itL, ⟨by decide +kernel, by decide +kernel, by decide +kernel⟩, by decide⟩
theorem mpL_load : plainName mL_load.1.cls = true := by decide +kernel
set_option maxRecDepth 20000 in
theorem mtL_load : Cond.static mL_load.1 ∈ ztb := ztb_in (zc4 (List.mem_of_getElem? (i := 177) rfl)) rfl
abbrev mL_told : zM := (yL_told, cL_told, 4, some .int)
abbrev hhL_told : zHh := [(0, 9, 12, 21)]
set_option maxRecDepth 20000 in
theorem mfL_told : zMw mL_told hhL_told 3 := ⟨ztb_in (zc4 (List.mem_of_getElem? (i := 185) rfl)) rfl, itL, ⟨by decide +kernel, by decide +kernel, by decide +kernel⟩, by decide⟩
theorem mpL_told : plainName mL_told.1.cls = true := by decide +kernel
set_option maxRecDepth 20000 in
theorem mtL_told : Cond.static mL_told.1 ∈ ztb := ztb_in (zc4 (List.mem_of_getElem? (i := 184) rfl)) rfl
abbrev mL_starts : zM := (yL_starts, cL_starts, 4, some .int)
abbrev hhL_starts : zHh := [(0, 9, 12, 21)]
set_option maxRecDepth 20000 in
theorem mfL_starts : zMw mL_starts hhL_starts 3 := ⟨ztb_in (zc4 (List.mem_of_getElem? (i := 192) rfl)) rfl, itL, ⟨by decide +kernel, by decide +kernel, by decide +kernel⟩, by decide⟩
theorem mpL_starts : plainName mL_starts.1.cls = true := by decide +kernel
set_option maxRecDepth 20000 in
theorem mtL_starts : Cond.static mL_starts.1 ∈ ztb := ztb_in (zc4 (List.mem_of_getElem? (i := 191) rfl)) rfl
abbrev mL_trial : zM := (yL_trial, cL_trial, 4, some .int)
abbrev hhL_trial : zHh := [(0, 9, 12, 21)]
set_option maxRecDepth 20000 in
theorem mfL_trial : zMw mL_trial hhL_trial 3 := ⟨ztb_in (zc4 (List.mem_of_getElem? (i := 199) rfl)) rfl, itL, ⟨by decide +kernel, by decide +kernel, by decide +kernel⟩, by decide⟩
theorem mpL_trial : plainName mL_trial.1.cls = true := by decide +kernel
set_option maxRecDepth 20000 in
theorem mtL_trial : Cond.static mL_trial.1 ∈ ztb := ztb_in (zc4 (List.mem_of_getElem? (i := 198) rfl)) rfl
abbrev mL_isLoop : zM := (yL_isLoop, cL_isLoop, 4, some .int)
abbrev hhL_isLoop : zHh := [(0, 16, 19, 21)]
set_option maxRecDepth 20000 in
theorem mfL_isLoop : zMw mL_isLoop hhL_isLoop 3 := ⟨ztb_in (zc4 (List.mem_of_getElem? (i := 221) rfl)) rfl, itL, ⟨by decide +kernel, by decide +kernel, by decide +kernel⟩, by decide⟩
theorem mpL_isLoop : plainName mL_isLoop.1.cls = true := by decide +kernel
set_option maxRecDepth 20000 in
theorem mtL_isLoop : Cond.static mL_isLoop.1 ∈ ztb := ztb_in (zc4 (List.mem_of_getElem? (i := 220) rfl)) rfl
set_option maxRecDepth 20000 in
theorem mlL_94 : Cond.methodLink RL 94 mX8_init.1 ∈ ztb := ztb_in (zc1 (List.mem_of_getElem? (i := 27) rfl)) rfl
set_option maxRecDepth 20000 in
theorem mlL_107 : Cond.methodLink RL 107 mX8_wipe.1 ∈ ztb := ztb_in (zc2 (List.mem_of_getElem? (i := 57) rfl)) rfl
set_option maxRecDepth 20000 in
theorem mlL_111 : Cond.methodLink RL 111 mX8_fault.1 ∈ ztb := ztb_in (zc2 (List.mem_of_getElem? (i := 61) rfl)) rfl
set_option maxRecDepth 20000 in
theorem mlL_156 : Cond.methodLink RL 156 mX8_steps.1 ∈ ztb := ztb_in (zc2 (List.mem_of_getElem? (i := 122) rfl)) rfl
set_option maxRecDepth 20000 in
theorem mlL_160 : Cond.methodLink RL 160 mX8_now.1 ∈ ztb := ztb_in (zc2 (List.mem_of_getElem? (i := 126) rfl)) rfl
set_option maxRecDepth 20000 in
theorem mlL_179 : Cond.methodLink RL 179 mX8_work.1 ∈ ztb := ztb_in (zc2 (List.mem_of_getElem? (i := 130) rfl)) rfl
set_option maxRecDepth 20000 in
theorem mlL_7 : Cond.methodLink RL 7 mX8_type.1 ∈ ztb := ztb_in (zc2 (List.mem_of_getElem? (i := 139) rfl)) rfl
set_option maxRecDepth 20000 in
theorem mlL_17 : Cond.methodLink RL 17 mX8_formula.1 ∈ ztb := ztb_in (zc3 (List.mem_of_getElem? (i := 87) rfl)) rfl
set_option maxRecDepth 20000 in
theorem mlL_23 : Cond.methodLink RL 23 mX8_hold.1 ∈ ztb := ztb_in (zc4 (List.mem_of_getElem? (i := 31) rfl)) rfl
set_option maxRecDepth 20000 in
theorem mlL_27 : Cond.methodLink RL 27 mX8_release.1 ∈ ztb := ztb_in (zc4 (List.mem_of_getElem? (i := 42) rfl)) rfl
set_option maxRecDepth 20000 in
theorem mlL_30 : Cond.methodLink RL 30 mX8_read.1 ∈ ztb := ztb_in (zc4 (List.mem_of_getElem? (i := 50) rfl)) rfl
set_option maxRecDepth 20000 in
theorem mlL_33 : Cond.methodLink RL 33 mX8_control.1 ∈ ztb := ztb_in (zc4 (List.mem_of_getElem? (i := 57) rfl)) rfl
set_option maxRecDepth 20000 in
theorem mlL_36 : Cond.methodLink RL 36 mX8_limit.1 ∈ ztb := ztb_in (zc4 (List.mem_of_getElem? (i := 70) rfl)) rfl
set_option maxRecDepth 20000 in
theorem mlL_39 : Cond.methodLink RL 39 mX8_demand.1 ∈ ztb := ztb_in (zc4 (List.mem_of_getElem? (i := 77) rfl)) rfl
set_option maxRecDepth 20000 in
theorem mlL_43 : Cond.methodLink RL 43 mX8_need.1 ∈ ztb := ztb_in (zc4 (List.mem_of_getElem? (i := 84) rfl)) rfl
set_option maxRecDepth 20000 in
theorem mlL_47 : Cond.methodLink RL 47 mX8_lie.1 ∈ ztb := ztb_in (zc4 (List.mem_of_getElem? (i := 92) rfl)) rfl
set_option maxRecDepth 20000 in
theorem mlL_50 : Cond.methodLink RL 50 mX8_mend.1 ∈ ztb := ztb_in (zc4 (List.mem_of_getElem? (i := 99) rfl)) rfl
set_option maxRecDepth 20000 in
theorem mlL_53 : Cond.methodLink RL 53 mX8_tick.1 ∈ ztb := ztb_in (zc4 (List.mem_of_getElem? (i := 107) rfl)) rfl
set_option maxRecDepth 20000 in
theorem mlL_56 : Cond.methodLink RL 56 mX8_undo.1 ∈ ztb := ztb_in (zc4 (List.mem_of_getElem? (i := 115) rfl)) rfl
set_option maxRecDepth 20000 in
theorem mlL_60 : Cond.methodLink RL 60 mX8_value.1 ∈ ztb := ztb_in (zc4 (List.mem_of_getElem? (i := 135) rfl)) rfl
set_option maxRecDepth 20000 in
theorem mlL_63 : Cond.methodLink RL 63 mX8_valueAnew.1 ∈ ztb := ztb_in (zc4 (List.mem_of_getElem? (i := 142) rfl)) rfl
set_option maxRecDepth 20000 in
theorem mlL_66 : Cond.methodLink RL 66 mX8_worth.1 ∈ ztb := ztb_in (zc4 (List.mem_of_getElem? (i := 149) rfl)) rfl
set_option maxRecDepth 20000 in
theorem mlL_69 : Cond.methodLink RL 69 mX8_depth.1 ∈ ztb := ztb_in (zc4 (List.mem_of_getElem? (i := 157) rfl)) rfl
set_option maxRecDepth 20000 in
theorem mlL_72 : Cond.methodLink RL 72 mX8_isStale.1 ∈ ztb := ztb_in (zc4 (List.mem_of_getElem? (i := 164) rfl)) rfl
set_option maxRecDepth 20000 in
theorem mlL_76 : Cond.methodLink RL 76 mX8_state.1 ∈ ztb := ztb_in (zc4 (List.mem_of_getElem? (i := 172) rfl)) rfl
set_option maxRecDepth 20000 in
theorem mlL_79 : Cond.methodLink RL 79 mX8_load.1 ∈ ztb := ztb_in (zc4 (List.mem_of_getElem? (i := 179) rfl)) rfl
set_option maxRecDepth 20000 in
theorem mlL_82 : Cond.methodLink RL 82 mX8_told.1 ∈ ztb := ztb_in (zc4 (List.mem_of_getElem? (i := 186) rfl)) rfl
set_option maxRecDepth 20000 in
theorem mlL_85 : Cond.methodLink RL 85 mX8_starts.1 ∈ ztb := ztb_in (zc4 (List.mem_of_getElem? (i := 193) rfl)) rfl
set_option maxRecDepth 20000 in
theorem mlL_88 : Cond.methodLink RL 88 mX8_trial.1 ∈ ztb := ztb_in (zc4 (List.mem_of_getElem? (i := 200) rfl)) rfl
set_option maxRecDepth 20000 in
theorem mlL_91 : Cond.methodLink RL 91 mX8_isLoop.1 ∈ ztb := ztb_in (zc4 (List.mem_of_getElem? (i := 222) rfl)) rfl
set_option maxRecDepth 20000 in
theorem mlL_97 : Cond.methodLink RL 97 mX9_init.1 ∈ ztb := ztb_in (zc4 (List.mem_of_getElem? (i := 237) rfl)) rfl
set_option maxRecDepth 20000 in
theorem mlL_104 : Cond.methodLink RL 104 mX9_thrown.1 ∈ ztb := ztb_in (zc5 (List.mem_of_getElem? (i := 150) rfl)) rfl
set_option maxRecDepth 20000 in
theorem mlL_103 : Cond.methodLink RL 103 mX9_type.1 ∈ ztb := ztb_in (zc5 (List.mem_of_getElem? (i := 154) rfl)) rfl
set_option maxRecDepth 20000 in
theorem mlL_110 : Cond.methodLink RL 110 mX9_wipe.1 ∈ ztb := ztb_in (zc5 (List.mem_of_getElem? (i := 174) rfl)) rfl
set_option maxRecDepth 20000 in
theorem mlL_114 : Cond.methodLink RL 114 mX9_fault.1 ∈ ztb := ztb_in (zc5 (List.mem_of_getElem? (i := 178) rfl)) rfl
set_option maxRecDepth 20000 in
theorem mlL_118 : Cond.methodLink RL 118 mX9_formula.1 ∈ ztb := ztb_in (zc5 (List.mem_of_getElem? (i := 209) rfl)) rfl
set_option maxRecDepth 20000 in
theorem mlL_122 : Cond.methodLink RL 122 mX9_hold.1 ∈ ztb := ztb_in (zc6 (List.mem_of_getElem? (i := 90) rfl)) rfl
set_option maxRecDepth 20000 in
theorem mlL_125 : Cond.methodLink RL 125 mX9_release.1 ∈ ztb := ztb_in (zc6 (List.mem_of_getElem? (i := 94) rfl)) rfl
set_option maxRecDepth 20000 in
theorem mlL_128 : Cond.methodLink RL 128 mX9_read.1 ∈ ztb := ztb_in (zc6 (List.mem_of_getElem? (i := 98) rfl)) rfl
set_option maxRecDepth 20000 in
theorem mlL_131 : Cond.methodLink RL 131 mX9_control.1 ∈ ztb := ztb_in (zc6 (List.mem_of_getElem? (i := 102) rfl)) rfl
set_option maxRecDepth 20000 in
theorem mlL_134 : Cond.methodLink RL 134 mX9_limit.1 ∈ ztb := ztb_in (zc6 (List.mem_of_getElem? (i := 109) rfl)) rfl
set_option maxRecDepth 20000 in
theorem mlL_138 : Cond.methodLink RL 138 mX9_demand.1 ∈ ztb := ztb_in (zc6 (List.mem_of_getElem? (i := 113) rfl)) rfl
set_option maxRecDepth 20000 in
theorem mlL_142 : Cond.methodLink RL 142 mX9_need.1 ∈ ztb := ztb_in (zc6 (List.mem_of_getElem? (i := 117) rfl)) rfl
set_option maxRecDepth 20000 in
theorem mlL_145 : Cond.methodLink RL 145 mX9_lie.1 ∈ ztb := ztb_in (zc6 (List.mem_of_getElem? (i := 121) rfl)) rfl
set_option maxRecDepth 20000 in
theorem mlL_148 : Cond.methodLink RL 148 mX9_mend.1 ∈ ztb := ztb_in (zc6 (List.mem_of_getElem? (i := 125) rfl)) rfl
set_option maxRecDepth 20000 in
theorem mlL_151 : Cond.methodLink RL 151 mX9_tick.1 ∈ ztb := ztb_in (zc6 (List.mem_of_getElem? (i := 129) rfl)) rfl
set_option maxRecDepth 20000 in
theorem mlL_155 : Cond.methodLink RL 155 mX9_undo.1 ∈ ztb := ztb_in (zc6 (List.mem_of_getElem? (i := 133) rfl)) rfl
set_option maxRecDepth 20000 in
theorem mlL_159 : Cond.methodLink RL 159 mX9_steps.1 ∈ ztb := ztb_in (zc6 (List.mem_of_getElem? (i := 141) rfl)) rfl
set_option maxRecDepth 20000 in
theorem mlL_163 : Cond.methodLink RL 163 mX9_now.1 ∈ ztb := ztb_in (zc6 (List.mem_of_getElem? (i := 145) rfl)) rfl
set_option maxRecDepth 20000 in
theorem mlL_166 : Cond.methodLink RL 166 mX9_value.1 ∈ ztb := ztb_in (zc6 (List.mem_of_getElem? (i := 149) rfl)) rfl
set_option maxRecDepth 20000 in
theorem mlL_169 : Cond.methodLink RL 169 mX9_valueAnew.1 ∈ ztb := ztb_in (zc6 (List.mem_of_getElem? (i := 153) rfl)) rfl
set_option maxRecDepth 20000 in
theorem mlL_172 : Cond.methodLink RL 172 mX9_worth.1 ∈ ztb := ztb_in (zc6 (List.mem_of_getElem? (i := 158) rfl)) rfl
set_option maxRecDepth 20000 in
theorem mlL_175 : Cond.methodLink RL 175 mX9_depth.1 ∈ ztb := ztb_in (zc6 (List.mem_of_getElem? (i := 162) rfl)) rfl
set_option maxRecDepth 20000 in
theorem mlL_178 : Cond.methodLink RL 178 mX9_isStale.1 ∈ ztb := ztb_in (zc6 (List.mem_of_getElem? (i := 166) rfl)) rfl
set_option maxRecDepth 20000 in
theorem mlL_182 : Cond.methodLink RL 182 mX9_work.1 ∈ ztb := ztb_in (zc6 (List.mem_of_getElem? (i := 170) rfl)) rfl
set_option maxRecDepth 20000 in
theorem mlL_185 : Cond.methodLink RL 185 mX9_state.1 ∈ ztb := ztb_in (zc6 (List.mem_of_getElem? (i := 174) rfl)) rfl
set_option maxRecDepth 20000 in
theorem mlL_188 : Cond.methodLink RL 188 mX9_load.1 ∈ ztb := ztb_in (zc6 (List.mem_of_getElem? (i := 178) rfl)) rfl
set_option maxRecDepth 20000 in
theorem mlL_191 : Cond.methodLink RL 191 mX9_told.1 ∈ ztb := ztb_in (zc6 (List.mem_of_getElem? (i := 182) rfl)) rfl
set_option maxRecDepth 20000 in
theorem mlL_194 : Cond.methodLink RL 194 mX9_starts.1 ∈ ztb := ztb_in (zc6 (List.mem_of_getElem? (i := 186) rfl)) rfl
set_option maxRecDepth 20000 in
theorem mlL_197 : Cond.methodLink RL 197 mX9_trial.1 ∈ ztb := ztb_in (zc6 (List.mem_of_getElem? (i := 190) rfl)) rfl
set_option maxRecDepth 20000 in
theorem mlL_200 : Cond.methodLink RL 200 mX9_isLoop.1 ∈ ztb := ztb_in (zc6 (List.mem_of_getElem? (i := 198) rfl)) rfl
set_option maxRecDepth 20000 in
theorem mwL_98 : Cond.methodLink RL 98 mL_type.1 ∈ ztb := ztb_in (zc2 (List.mem_of_getElem? (i := 134) rfl)) rfl
set_option maxRecDepth 20000 in
theorem mwL_115 : Cond.methodLink RL 115 mL_formula.1 ∈ ztb := ztb_in (zc3 (List.mem_of_getElem? (i := 83) rfl)) rfl
set_option maxRecDepth 20000 in
theorem mwL_119 : Cond.methodLink RL 119 mL_hold.1 ∈ ztb := ztb_in (zc4 (List.mem_of_getElem? (i := 28) rfl)) rfl
set_option maxRecDepth 20000 in
theorem mwL_123 : Cond.methodLink RL 123 mL_release.1 ∈ ztb := ztb_in (zc4 (List.mem_of_getElem? (i := 39) rfl)) rfl
set_option maxRecDepth 20000 in
theorem mwL_126 : Cond.methodLink RL 126 mL_read.1 ∈ ztb := ztb_in (zc4 (List.mem_of_getElem? (i := 47) rfl)) rfl
set_option maxRecDepth 20000 in
theorem mwL_129 : Cond.methodLink RL 129 mL_control.1 ∈ ztb := ztb_in (zc4 (List.mem_of_getElem? (i := 54) rfl)) rfl
set_option maxRecDepth 20000 in
theorem mwL_132 : Cond.methodLink RL 132 mL_limit.1 ∈ ztb := ztb_in (zc4 (List.mem_of_getElem? (i := 67) rfl)) rfl
set_option maxRecDepth 20000 in
theorem mwL_135 : Cond.methodLink RL 135 mL_demand.1 ∈ ztb := ztb_in (zc4 (List.mem_of_getElem? (i := 74) rfl)) rfl
set_option maxRecDepth 20000 in
theorem mwL_139 : Cond.methodLink RL 139 mL_need.1 ∈ ztb := ztb_in (zc4 (List.mem_of_getElem? (i := 81) rfl)) rfl
set_option maxRecDepth 20000 in
theorem mwL_143 : Cond.methodLink RL 143 mL_lie.1 ∈ ztb := ztb_in (zc4 (List.mem_of_getElem? (i := 89) rfl)) rfl
set_option maxRecDepth 20000 in
theorem mwL_146 : Cond.methodLink RL 146 mL_mend.1 ∈ ztb := ztb_in (zc4 (List.mem_of_getElem? (i := 96) rfl)) rfl
set_option maxRecDepth 20000 in
theorem mwL_149 : Cond.methodLink RL 149 mL_tick.1 ∈ ztb := ztb_in (zc4 (List.mem_of_getElem? (i := 104) rfl)) rfl
set_option maxRecDepth 20000 in
theorem mwL_152 : Cond.methodLink RL 152 mL_undo.1 ∈ ztb := ztb_in (zc4 (List.mem_of_getElem? (i := 112) rfl)) rfl
set_option maxRecDepth 20000 in
theorem mwL_164 : Cond.methodLink RL 164 mL_value.1 ∈ ztb := ztb_in (zc4 (List.mem_of_getElem? (i := 132) rfl)) rfl
set_option maxRecDepth 20000 in
theorem mwL_167 : Cond.methodLink RL 167 mL_valueAnew.1 ∈ ztb := ztb_in (zc4 (List.mem_of_getElem? (i := 139) rfl)) rfl
set_option maxRecDepth 20000 in
theorem mwL_170 : Cond.methodLink RL 170 mL_worth.1 ∈ ztb := ztb_in (zc4 (List.mem_of_getElem? (i := 146) rfl)) rfl
set_option maxRecDepth 20000 in
theorem mwL_173 : Cond.methodLink RL 173 mL_depth.1 ∈ ztb := ztb_in (zc4 (List.mem_of_getElem? (i := 154) rfl)) rfl
set_option maxRecDepth 20000 in
theorem mwL_176 : Cond.methodLink RL 176 mL_isStale.1 ∈ ztb := ztb_in (zc4 (List.mem_of_getElem? (i := 161) rfl)) rfl
set_option maxRecDepth 20000 in
theorem mwL_183 : Cond.methodLink RL 183 mL_state.1 ∈ ztb := ztb_in (zc4 (List.mem_of_getElem? (i := 169) rfl)) rfl
set_option maxRecDepth 20000 in
theorem mwL_186 : Cond.methodLink RL 186 mL_load.1 ∈ ztb := ztb_in (zc4 (List.mem_of_getElem? (i := 176) rfl)) rfl
set_option maxRecDepth 20000 in
theorem mwL_189 : Cond.methodLink RL 189 mL_told.1 ∈ ztb := ztb_in (zc4 (List.mem_of_getElem? (i := 183) rfl)) rfl
set_option maxRecDepth 20000 in
theorem mwL_192 : Cond.methodLink RL 192 mL_starts.1 ∈ ztb := ztb_in (zc4 (List.mem_of_getElem? (i := 190) rfl)) rfl
set_option maxRecDepth 20000 in
theorem mwL_195 : Cond.methodLink RL 195 mL_trial.1 ∈ ztb := ztb_in (zc4 (List.mem_of_getElem? (i := 197) rfl)) rfl
set_option maxRecDepth 20000 in
theorem mwL_198 : Cond.methodLink RL 198 mL_isLoop.1 ∈ ztb := ztb_in (zc4 (List.mem_of_getElem? (i := 219) rfl)) rfl
set_option maxRecDepth 100000 in
set_option maxHeartbeats 4000000 in
theorem w_type {l : Launch} {Z : zZ} (hZ : zSt l Z) {μ : zMem} {σ : zS2} {π : zP2} {g : zG2} {k mc ms : Nat} {a : Int32} (h0 : zK μ 0 = 8 + 8) {Q : Int32 → zMem → Prop} (ct : zCt l Z mX8_type k mc ms [.ref 0, .int a] (zA4 μ σ π g) (fun r μx => ∃ x, r = some (.int x) ∧ Q x μx)) (hQ : ∀ x μx, Q x μx → ∃ μ1 σ1 π1 g1, μx = zA4 μ1 σ1 π1 g1 ∧ zK μ1 106 = 3 ∧ zL μ1 106 = 1) : zCtW l Z mL_type hhL_type (k + 1) mc ms [.ref 0, .int a, .ref 106] (zA4 μ σ π g) (fun r μx => r = some (.int 0) ∧ ∃ x μ1 σ1 π1 g1, Q x (zA4 μ1 σ1 π1 g1) ∧ μx = zA4 μ1 σ1 π1 (zug g1 106 0 x.toInt64)) := by
  refine zCtW_of hZ mpL_type (Nat.le_of_ble_eq_true rfl) (L := [some (.ref 0), some (.int a), some (.ref 106), none]) rfl (fun τ hYW => ?_)
  have hY := hYW.1
  have hT := hY.1
  refine J_aload_n (i := 2) hT dL_type_0 rfl rfl ?_
  refine J_iconst (v := 0) hT dL_type_1 rfl ?_
  refine J_aload_n (i := 0) hT dL_type_2 rfl rfl ?_
  refine J_iload_n (i := 1) hT dL_type_3 rfl rfl ?_
  refine J_callV (ci := 8) hY dL_type_4 mfX8_type miX8_type msX8_type kL_7 ⟨by decide, rfl⟩ h0 ct rfl (Nat.lt_succ_self _) rfl rfl (Nat.le_of_ble_eq_true rfl) (Nat.le_of_eq (Nat.zero_add _)) (Nat.le_of_eq (Nat.zero_add _)) (fun r1 μ1 hq => ?_)
  obtain ⟨x, rfl, hq⟩ := hq
  obtain ⟨μ1, σ1, π1, g1, rfl, k6, l6⟩ := hQ x _ hq
  show zJ _ _ _ _ (.int x :: _) _ _ _
  refine J_i2l hT dL_type_7 ?_
  refine R_last hT dL_type_8 k6 l6 (by first | exact ⟨rfl, by decide⟩ | exact zix_nI (by omega) (by decide) | assumption) ?_
  refine J_goto (tgt := 18) hT dL_type_9 (by decide) ?_
  refine J_iconst (v := 0) hT dL_type_18 rfl ?_
  exact J_iret hT dL_type_19 rfl rfl (⟨rfl, x, μ1, σ1, π1, g1, hq, rfl⟩) (Nat.le_of_eq (Nat.zero_add _)) (Nat.le_of_eq (Nat.zero_add _))

set_option maxRecDepth 100000 in
set_option maxHeartbeats 4000000 in
theorem w_type_iae {l : Launch} {Z : zZ} (hZ : zSt l Z) {μ : zMem} {k mc ms : Nat} {a : Int32} (h0 : zK μ 0 = 8 + 8) (hN : zNs Z) {Q : zMem → Prop} (ct : zCtX l Z mX8_type k mc ms [.ref 0, .int a] μ "java/lang/IllegalArgumentException" Q) : zCtW l Z mL_type hhL_type (k + 1) mc ms [.ref 0, .int a, .ref 106] μ (fun r μx => r = some (.int 1) ∧ Q μx) := by
  refine zCtW_of hZ mpL_type (Nat.le_of_ble_eq_true rfl) (L := [some (.ref 0), some (.int a), some (.ref 106), none]) rfl (fun τ hYW => ?_)
  have hY := hYW.1
  have hT := hY.1
  refine J_aload_n (i := 2) hT dL_type_0 rfl rfl ?_
  refine J_iconst (v := 0) hT dL_type_1 rfl ?_
  refine J_aload_n (i := 0) hT dL_type_2 rfl rfl ?_
  refine J_iload_n (i := 1) hT dL_type_3 rfl rfl ?_
  refine J_callVC (ci := 8) (i := 3) (hpc := 12) (nx := 13) hYW dL_type_4 mfX8_type miX8_type msX8_type ⟨by decide, rfl⟩ h0 ct rfl (Nat.lt_succ_self _) rfl rfl (Nat.le_of_ble_eq_true rfl) (Nat.le_of_eq (Nat.zero_add _)) (Nat.le_of_eq (Nat.zero_add _)) mlL_7 [] [(0, 9, 15, 15)] 13 0 9 rfl (fun _ h => nomatch h) (by decide) (by decide) kcL_13 cs_iae (Or.inl ⟨_, dL_type_12, rfl, rfl⟩) (Nat.le_of_ble_eq_true rfl) (fun μ1 hq => ?_)
  refine J_iconst (v := 1) hT dL_type_13 rfl ?_
  exact J_iret hT dL_type_14 rfl rfl (⟨rfl, hq⟩) (Nat.le_of_eq (Nat.zero_add _)) (Nat.le_of_eq (Nat.zero_add _))

set_option maxRecDepth 100000 in
set_option maxHeartbeats 4000000 in
theorem w_type_ise {l : Launch} {Z : zZ} (hZ : zSt l Z) {μ : zMem} {k mc ms : Nat} {a : Int32} (h0 : zK μ 0 = 8 + 8) (hN : zNs Z) {Q : zMem → Prop} (ct : zCtX l Z mX8_type k mc ms [.ref 0, .int a] μ "java/lang/IllegalStateException" Q) : zCtW l Z mL_type hhL_type (k + 1) mc ms [.ref 0, .int a, .ref 106] μ (fun r μx => r = some (.int 2) ∧ Q μx) := by
  refine zCtW_of hZ mpL_type (Nat.le_of_ble_eq_true rfl) (L := [some (.ref 0), some (.int a), some (.ref 106), none]) rfl (fun τ hYW => ?_)
  have hY := hYW.1
  have hT := hY.1
  refine J_aload_n (i := 2) hT dL_type_0 rfl rfl ?_
  refine J_iconst (v := 0) hT dL_type_1 rfl ?_
  refine J_aload_n (i := 0) hT dL_type_2 rfl rfl ?_
  refine J_iload_n (i := 1) hT dL_type_3 rfl rfl ?_
  refine J_callVC (ci := 8) (i := 3) (hpc := 15) (nx := 16) hYW dL_type_4 mfX8_type miX8_type msX8_type ⟨by decide, rfl⟩ h0 ct rfl (Nat.lt_succ_self _) rfl rfl (Nat.le_of_ble_eq_true rfl) (Nat.le_of_eq (Nat.zero_add _)) (Nat.le_of_eq (Nat.zero_add _)) mlL_7 [(0, 9, 12, 13)] [] 15 0 9 rfl (fun z hz => by rcases List.mem_singleton.mp hz with rfl; exact ⟨by decide, _, kcL_13, hN.2.2⟩) (by decide) (by decide) kcL_15 cs_ise (Or.inl ⟨_, dL_type_15, rfl, rfl⟩) (Nat.le_of_ble_eq_true rfl) (fun μ1 hq => ?_)
  refine J_iconst (v := 2) hT dL_type_16 rfl ?_
  exact J_iret hT dL_type_17 rfl rfl (⟨rfl, hq⟩) (Nat.le_of_eq (Nat.zero_add _)) (Nat.le_of_eq (Nat.zero_add _))

set_option maxRecDepth 100000 in
set_option maxHeartbeats 4000000 in
theorem w_formula {l : Launch} {Z : zZ} (hZ : zSt l Z) {μ : zMem} {σ : zS2} {π : zP2} {g : zG2} {k mc ms : Nat} {a : Int32} (h0 : zK μ 0 = 8 + 8) {Q : Int32 → zMem → Prop} (ct : zCt l Z mX8_formula k mc ms [.ref 0, .int a] (zA4 μ σ π g) (fun r μx => ∃ x, r = some (.int x) ∧ Q x μx)) (hQ : ∀ x μx, Q x μx → ∃ μ1 σ1 π1 g1, μx = zA4 μ1 σ1 π1 g1 ∧ zK μ1 106 = 3 ∧ zL μ1 106 = 1) : zCtW l Z mL_formula hhL_formula (k + 1) mc ms [.ref 0, .int a, .ref 106] (zA4 μ σ π g) (fun r μx => r = some (.int 0) ∧ ∃ x μ1 σ1 π1 g1, Q x (zA4 μ1 σ1 π1 g1) ∧ μx = zA4 μ1 σ1 π1 (zug g1 106 0 x.toInt64)) := by
  refine zCtW_of hZ mpL_formula (Nat.le_of_ble_eq_true rfl) (L := [some (.ref 0), some (.int a), some (.ref 106), none]) rfl (fun τ hYW => ?_)
  have hY := hYW.1
  have hT := hY.1
  refine J_aload_n (i := 2) hT dL_formula_0 rfl rfl ?_
  refine J_iconst (v := 0) hT dL_formula_1 rfl ?_
  refine J_aload_n (i := 0) hT dL_formula_2 rfl rfl ?_
  refine J_iload_n (i := 1) hT dL_formula_3 rfl rfl ?_
  refine J_callV (ci := 8) hY dL_formula_4 mfX8_formula miX8_formula msX8_formula kL_17 ⟨by decide, rfl⟩ h0 ct rfl (Nat.lt_succ_self _) rfl rfl (Nat.le_of_ble_eq_true rfl) (Nat.le_of_eq (Nat.zero_add _)) (Nat.le_of_eq (Nat.zero_add _)) (fun r1 μ1 hq => ?_)
  obtain ⟨x, rfl, hq⟩ := hq
  obtain ⟨μ1, σ1, π1, g1, rfl, k6, l6⟩ := hQ x _ hq
  show zJ _ _ _ _ (.int x :: _) _ _ _
  refine J_i2l hT dL_formula_7 ?_
  refine R_last hT dL_formula_8 k6 l6 (by first | exact ⟨rfl, by decide⟩ | exact zix_nI (by omega) (by decide) | assumption) ?_
  refine J_goto (tgt := 21) hT dL_formula_9 (by decide) ?_
  refine J_iconst (v := 0) hT dL_formula_21 rfl ?_
  exact J_iret hT dL_formula_22 rfl rfl (⟨rfl, x, μ1, σ1, π1, g1, hq, rfl⟩) (Nat.le_of_eq (Nat.zero_add _)) (Nat.le_of_eq (Nat.zero_add _))

set_option maxRecDepth 100000 in
set_option maxHeartbeats 4000000 in
theorem w_formula_iob {l : Launch} {Z : zZ} (hZ : zSt l Z) {μ : zMem} {k mc ms : Nat} {a : Int32} (h0 : zK μ 0 = 8 + 8) (hN : zNs Z) {Q : zMem → Prop} (ct : zCtX l Z mX8_formula k mc ms [.ref 0, .int a] μ "java/lang/IndexOutOfBoundsException" Q) : zCtW l Z mL_formula hhL_formula (k + 1) mc ms [.ref 0, .int a, .ref 106] μ (fun r μx => r = some (.int 1) ∧ Q μx) := by
  refine zCtW_of hZ mpL_formula (Nat.le_of_ble_eq_true rfl) (L := [some (.ref 0), some (.int a), some (.ref 106), none]) rfl (fun τ hYW => ?_)
  have hY := hYW.1
  have hT := hY.1
  refine J_aload_n (i := 2) hT dL_formula_0 rfl rfl ?_
  refine J_iconst (v := 0) hT dL_formula_1 rfl ?_
  refine J_aload_n (i := 0) hT dL_formula_2 rfl rfl ?_
  refine J_iload_n (i := 1) hT dL_formula_3 rfl rfl ?_
  refine J_callVC (ci := 8) (i := 3) (hpc := 12) (nx := 13) hYW dL_formula_4 mfX8_formula miX8_formula msX8_formula ⟨by decide, rfl⟩ h0 ct rfl (Nat.lt_succ_self _) rfl rfl (Nat.le_of_ble_eq_true rfl) (Nat.le_of_eq (Nat.zero_add _)) (Nat.le_of_eq (Nat.zero_add _)) mlL_17 [] [(0, 9, 15, 13), (0, 9, 18, 15)] 21 0 9 rfl (fun _ h => nomatch h) (by decide) (by decide) kcL_21 cs_iob (Or.inl ⟨_, dL_formula_12, rfl, rfl⟩) (Nat.le_of_ble_eq_true rfl) (fun μ1 hq => ?_)
  refine J_iconst (v := 1) hT dL_formula_13 rfl ?_
  exact J_iret hT dL_formula_14 rfl rfl (⟨rfl, hq⟩) (Nat.le_of_eq (Nat.zero_add _)) (Nat.le_of_eq (Nat.zero_add _))

set_option maxRecDepth 100000 in
set_option maxHeartbeats 4000000 in
theorem w_formula_iae {l : Launch} {Z : zZ} (hZ : zSt l Z) {μ : zMem} {k mc ms : Nat} {a : Int32} (h0 : zK μ 0 = 8 + 8) (hN : zNs Z) {Q : zMem → Prop} (ct : zCtX l Z mX8_formula k mc ms [.ref 0, .int a] μ "java/lang/IllegalArgumentException" Q) : zCtW l Z mL_formula hhL_formula (k + 1) mc ms [.ref 0, .int a, .ref 106] μ (fun r μx => r = some (.int 2) ∧ Q μx) := by
  refine zCtW_of hZ mpL_formula (Nat.le_of_ble_eq_true rfl) (L := [some (.ref 0), some (.int a), some (.ref 106), none]) rfl (fun τ hYW => ?_)
  have hY := hYW.1
  have hT := hY.1
  refine J_aload_n (i := 2) hT dL_formula_0 rfl rfl ?_
  refine J_iconst (v := 0) hT dL_formula_1 rfl ?_
  refine J_aload_n (i := 0) hT dL_formula_2 rfl rfl ?_
  refine J_iload_n (i := 1) hT dL_formula_3 rfl rfl ?_
  refine J_callVC (ci := 8) (i := 3) (hpc := 15) (nx := 16) hYW dL_formula_4 mfX8_formula miX8_formula msX8_formula ⟨by decide, rfl⟩ h0 ct rfl (Nat.lt_succ_self _) rfl rfl (Nat.le_of_ble_eq_true rfl) (Nat.le_of_eq (Nat.zero_add _)) (Nat.le_of_eq (Nat.zero_add _)) mlL_17 [(0, 9, 12, 21)] [(0, 9, 18, 15)] 13 0 9 rfl (fun z hz => by rcases List.mem_singleton.mp hz with rfl; exact ⟨by decide, _, kcL_21, hN.1⟩) (by decide) (by decide) kcL_13 cs_iae (Or.inl ⟨_, dL_formula_15, rfl, rfl⟩) (Nat.le_of_ble_eq_true rfl) (fun μ1 hq => ?_)
  refine J_iconst (v := 2) hT dL_formula_16 rfl ?_
  exact J_iret hT dL_formula_17 rfl rfl (⟨rfl, hq⟩) (Nat.le_of_eq (Nat.zero_add _)) (Nat.le_of_eq (Nat.zero_add _))

set_option maxRecDepth 100000 in
set_option maxHeartbeats 4000000 in
theorem w_formula_ise {l : Launch} {Z : zZ} (hZ : zSt l Z) {μ : zMem} {k mc ms : Nat} {a : Int32} (h0 : zK μ 0 = 8 + 8) (hN : zNs Z) {Q : zMem → Prop} (ct : zCtX l Z mX8_formula k mc ms [.ref 0, .int a] μ "java/lang/IllegalStateException" Q) : zCtW l Z mL_formula hhL_formula (k + 1) mc ms [.ref 0, .int a, .ref 106] μ (fun r μx => r = some (.int 3) ∧ Q μx) := by
  refine zCtW_of hZ mpL_formula (Nat.le_of_ble_eq_true rfl) (L := [some (.ref 0), some (.int a), some (.ref 106), none]) rfl (fun τ hYW => ?_)
  have hY := hYW.1
  have hT := hY.1
  refine J_aload_n (i := 2) hT dL_formula_0 rfl rfl ?_
  refine J_iconst (v := 0) hT dL_formula_1 rfl ?_
  refine J_aload_n (i := 0) hT dL_formula_2 rfl rfl ?_
  refine J_iload_n (i := 1) hT dL_formula_3 rfl rfl ?_
  refine J_callVC (ci := 8) (i := 3) (hpc := 18) (nx := 19) hYW dL_formula_4 mfX8_formula miX8_formula msX8_formula ⟨by decide, rfl⟩ h0 ct rfl (Nat.lt_succ_self _) rfl rfl (Nat.le_of_ble_eq_true rfl) (Nat.le_of_eq (Nat.zero_add _)) (Nat.le_of_eq (Nat.zero_add _)) mlL_17 [(0, 9, 12, 21), (0, 9, 15, 13)] [] 15 0 9 rfl (fun z hz => by
    rcases List.mem_cons.mp hz with rfl | hz
    · exact ⟨by decide, _, kcL_21, hN.2.1⟩
    · rcases List.mem_singleton.mp hz with rfl; exact ⟨by decide, _, kcL_13, hN.2.2⟩) (by decide) (by decide) kcL_15 cs_ise (Or.inl ⟨_, dL_formula_18, rfl, rfl⟩) (Nat.le_of_ble_eq_true rfl) (fun μ1 hq => ?_)
  refine J_iconst (v := 3) hT dL_formula_19 rfl ?_
  exact J_iret hT dL_formula_20 rfl rfl (⟨rfl, hq⟩) (Nat.le_of_eq (Nat.zero_add _)) (Nat.le_of_eq (Nat.zero_add _))

set_option maxRecDepth 100000 in
set_option maxHeartbeats 4000000 in
theorem w_hold {l : Launch} {Z : zZ} (hZ : zSt l Z) {μ : zMem} {σ : zS2} {π : zP2} {g : zG2} {k mc ms : Nat} {a b : Int32} (h0 : zK μ 0 = 8 + 8) {Q : Int32 → zMem → Prop} (ct : zCt l Z mX8_hold k mc ms [.ref 0, .int a, .int b] (zA4 μ σ π g) (fun r μx => ∃ x, r = some (.int x) ∧ Q x μx)) (hQ : ∀ x μx, Q x μx → ∃ μ1 σ1 π1 g1, μx = zA4 μ1 σ1 π1 g1 ∧ zK μ1 106 = 3 ∧ zL μ1 106 = 1) : zCtW l Z mL_hold hhL_hold (k + 1) mc ms [.ref 0, .int a, .int b, .ref 106] (zA4 μ σ π g) (fun r μx => r = some (.int 0) ∧ ∃ x μ1 σ1 π1 g1, Q x (zA4 μ1 σ1 π1 g1) ∧ μx = zA4 μ1 σ1 π1 (zug g1 106 0 x.toInt64)) := by
  refine zCtW_of hZ mpL_hold (Nat.le_of_ble_eq_true rfl) (L := [some (.ref 0), some (.int a), some (.int b), some (.ref 106), none]) rfl (fun τ hYW => ?_)
  have hY := hYW.1
  have hT := hY.1
  refine J_aload_n (i := 3) hT dL_hold_0 rfl rfl ?_
  refine J_iconst (v := 0) hT dL_hold_1 rfl ?_
  refine J_aload_n (i := 0) hT dL_hold_2 rfl rfl ?_
  refine J_iload_n (i := 1) hT dL_hold_3 rfl rfl ?_
  refine J_iload_n (i := 2) hT dL_hold_4 rfl rfl ?_
  refine J_callV (ci := 8) hY dL_hold_5 mfX8_hold miX8_hold msX8_hold kL_23 ⟨by decide, rfl⟩ h0 ct rfl (Nat.lt_succ_self _) rfl rfl (Nat.le_of_ble_eq_true rfl) (Nat.le_of_eq (Nat.zero_add _)) (Nat.le_of_eq (Nat.zero_add _)) (fun r1 μ1 hq => ?_)
  obtain ⟨x, rfl, hq⟩ := hq
  obtain ⟨μ1, σ1, π1, g1, rfl, k6, l6⟩ := hQ x _ hq
  show zJ _ _ _ _ (.int x :: _) _ _ _
  refine J_i2l hT dL_hold_8 ?_
  refine R_last hT dL_hold_9 k6 l6 (by first | exact ⟨rfl, by decide⟩ | exact zix_nI (by omega) (by decide) | assumption) ?_
  refine J_goto (tgt := 25) hT dL_hold_10 (by decide) ?_
  refine J_iconst (v := 0) hT dL_hold_25 rfl ?_
  exact J_iret hT dL_hold_26 rfl rfl (⟨rfl, x, μ1, σ1, π1, g1, hq, rfl⟩) (Nat.le_of_eq (Nat.zero_add _)) (Nat.le_of_eq (Nat.zero_add _))

set_option maxRecDepth 100000 in
set_option maxHeartbeats 4000000 in
theorem w_hold_iob {l : Launch} {Z : zZ} (hZ : zSt l Z) {μ : zMem} {k mc ms : Nat} {a b : Int32} (h0 : zK μ 0 = 8 + 8) (hN : zNs Z) {Q : zMem → Prop} (ct : zCtX l Z mX8_hold k mc ms [.ref 0, .int a, .int b] μ "java/lang/IndexOutOfBoundsException" Q) : zCtW l Z mL_hold hhL_hold (k + 1) mc ms [.ref 0, .int a, .int b, .ref 106] μ (fun r μx => r = some (.int 1) ∧ Q μx) := by
  refine zCtW_of hZ mpL_hold (Nat.le_of_ble_eq_true rfl) (L := [some (.ref 0), some (.int a), some (.int b), some (.ref 106), none]) rfl (fun τ hYW => ?_)
  have hY := hYW.1
  have hT := hY.1
  refine J_aload_n (i := 3) hT dL_hold_0 rfl rfl ?_
  refine J_iconst (v := 0) hT dL_hold_1 rfl ?_
  refine J_aload_n (i := 0) hT dL_hold_2 rfl rfl ?_
  refine J_iload_n (i := 1) hT dL_hold_3 rfl rfl ?_
  refine J_iload_n (i := 2) hT dL_hold_4 rfl rfl ?_
  refine J_callVC (ci := 8) (i := 4) (hpc := 13) (nx := 15) hYW dL_hold_5 mfX8_hold miX8_hold msX8_hold ⟨by decide, rfl⟩ h0 ct rfl (Nat.lt_succ_self _) rfl rfl (Nat.le_of_ble_eq_true rfl) (Nat.le_of_eq (Nat.zero_add _)) (Nat.le_of_eq (Nat.zero_add _)) mlL_23 [] [(0, 10, 17, 13), (0, 10, 21, 15)] 21 0 10 rfl (fun _ h => nomatch h) (by decide) (by decide) kcL_21 cs_iob (Or.inr ⟨dL_hold_13, rfl⟩) (Nat.le_of_ble_eq_true rfl) (fun μ1 hq => ?_)
  refine J_iconst (v := 1) hT dL_hold_15 rfl ?_
  exact J_iret hT dL_hold_16 rfl rfl (⟨rfl, hq⟩) (Nat.le_of_eq (Nat.zero_add _)) (Nat.le_of_eq (Nat.zero_add _))

set_option maxRecDepth 100000 in
set_option maxHeartbeats 4000000 in
theorem w_hold_iae {l : Launch} {Z : zZ} (hZ : zSt l Z) {μ : zMem} {k mc ms : Nat} {a b : Int32} (h0 : zK μ 0 = 8 + 8) (hN : zNs Z) {Q : zMem → Prop} (ct : zCtX l Z mX8_hold k mc ms [.ref 0, .int a, .int b] μ "java/lang/IllegalArgumentException" Q) : zCtW l Z mL_hold hhL_hold (k + 1) mc ms [.ref 0, .int a, .int b, .ref 106] μ (fun r μx => r = some (.int 2) ∧ Q μx) := by
  refine zCtW_of hZ mpL_hold (Nat.le_of_ble_eq_true rfl) (L := [some (.ref 0), some (.int a), some (.int b), some (.ref 106), none]) rfl (fun τ hYW => ?_)
  have hY := hYW.1
  have hT := hY.1
  refine J_aload_n (i := 3) hT dL_hold_0 rfl rfl ?_
  refine J_iconst (v := 0) hT dL_hold_1 rfl ?_
  refine J_aload_n (i := 0) hT dL_hold_2 rfl rfl ?_
  refine J_iload_n (i := 1) hT dL_hold_3 rfl rfl ?_
  refine J_iload_n (i := 2) hT dL_hold_4 rfl rfl ?_
  refine J_callVC (ci := 8) (i := 4) (hpc := 17) (nx := 19) hYW dL_hold_5 mfX8_hold miX8_hold msX8_hold ⟨by decide, rfl⟩ h0 ct rfl (Nat.lt_succ_self _) rfl rfl (Nat.le_of_ble_eq_true rfl) (Nat.le_of_eq (Nat.zero_add _)) (Nat.le_of_eq (Nat.zero_add _)) mlL_23 [(0, 10, 13, 21)] [(0, 10, 21, 15)] 13 0 10 rfl (fun z hz => by rcases List.mem_singleton.mp hz with rfl; exact ⟨by decide, _, kcL_21, hN.1⟩) (by decide) (by decide) kcL_13 cs_iae (Or.inr ⟨dL_hold_17, rfl⟩) (Nat.le_of_ble_eq_true rfl) (fun μ1 hq => ?_)
  refine J_iconst (v := 2) hT dL_hold_19 rfl ?_
  exact J_iret hT dL_hold_20 rfl rfl (⟨rfl, hq⟩) (Nat.le_of_eq (Nat.zero_add _)) (Nat.le_of_eq (Nat.zero_add _))

set_option maxRecDepth 100000 in
set_option maxHeartbeats 4000000 in
theorem w_hold_ise {l : Launch} {Z : zZ} (hZ : zSt l Z) {μ : zMem} {k mc ms : Nat} {a b : Int32} (h0 : zK μ 0 = 8 + 8) (hN : zNs Z) {Q : zMem → Prop} (ct : zCtX l Z mX8_hold k mc ms [.ref 0, .int a, .int b] μ "java/lang/IllegalStateException" Q) : zCtW l Z mL_hold hhL_hold (k + 1) mc ms [.ref 0, .int a, .int b, .ref 106] μ (fun r μx => r = some (.int 3) ∧ Q μx) := by
  refine zCtW_of hZ mpL_hold (Nat.le_of_ble_eq_true rfl) (L := [some (.ref 0), some (.int a), some (.int b), some (.ref 106), none]) rfl (fun τ hYW => ?_)
  have hY := hYW.1
  have hT := hY.1
  refine J_aload_n (i := 3) hT dL_hold_0 rfl rfl ?_
  refine J_iconst (v := 0) hT dL_hold_1 rfl ?_
  refine J_aload_n (i := 0) hT dL_hold_2 rfl rfl ?_
  refine J_iload_n (i := 1) hT dL_hold_3 rfl rfl ?_
  refine J_iload_n (i := 2) hT dL_hold_4 rfl rfl ?_
  refine J_callVC (ci := 8) (i := 4) (hpc := 21) (nx := 23) hYW dL_hold_5 mfX8_hold miX8_hold msX8_hold ⟨by decide, rfl⟩ h0 ct rfl (Nat.lt_succ_self _) rfl rfl (Nat.le_of_ble_eq_true rfl) (Nat.le_of_eq (Nat.zero_add _)) (Nat.le_of_eq (Nat.zero_add _)) mlL_23 [(0, 10, 13, 21), (0, 10, 17, 13)] [] 15 0 10 rfl (fun z hz => by
    rcases List.mem_cons.mp hz with rfl | hz
    · exact ⟨by decide, _, kcL_21, hN.2.1⟩
    · rcases List.mem_singleton.mp hz with rfl; exact ⟨by decide, _, kcL_13, hN.2.2⟩) (by decide) (by decide) kcL_15 cs_ise (Or.inr ⟨dL_hold_21, rfl⟩) (Nat.le_of_ble_eq_true rfl) (fun μ1 hq => ?_)
  refine J_iconst (v := 3) hT dL_hold_23 rfl ?_
  exact J_iret hT dL_hold_24 rfl rfl (⟨rfl, hq⟩) (Nat.le_of_eq (Nat.zero_add _)) (Nat.le_of_eq (Nat.zero_add _))

set_option maxRecDepth 100000 in
set_option maxHeartbeats 4000000 in
theorem w_release {l : Launch} {Z : zZ} (hZ : zSt l Z) {μ : zMem} {σ : zS2} {π : zP2} {g : zG2} {k mc ms : Nat} {a : Int32} (h0 : zK μ 0 = 8 + 8) {Q : Int32 → zMem → Prop} (ct : zCt l Z mX8_release k mc ms [.ref 0, .int a] (zA4 μ σ π g) (fun r μx => ∃ x, r = some (.int x) ∧ Q x μx)) (hQ : ∀ x μx, Q x μx → ∃ μ1 σ1 π1 g1, μx = zA4 μ1 σ1 π1 g1 ∧ zK μ1 106 = 3 ∧ zL μ1 106 = 1) : zCtW l Z mL_release hhL_release (k + 1) mc ms [.ref 0, .int a, .ref 106] (zA4 μ σ π g) (fun r μx => r = some (.int 0) ∧ ∃ x μ1 σ1 π1 g1, Q x (zA4 μ1 σ1 π1 g1) ∧ μx = zA4 μ1 σ1 π1 (zug g1 106 0 x.toInt64)) := by
  refine zCtW_of hZ mpL_release (Nat.le_of_ble_eq_true rfl) (L := [some (.ref 0), some (.int a), some (.ref 106), none]) rfl (fun τ hYW => ?_)
  have hY := hYW.1
  have hT := hY.1
  refine J_aload_n (i := 2) hT dL_release_0 rfl rfl ?_
  refine J_iconst (v := 0) hT dL_release_1 rfl ?_
  refine J_aload_n (i := 0) hT dL_release_2 rfl rfl ?_
  refine J_iload_n (i := 1) hT dL_release_3 rfl rfl ?_
  refine J_callV (ci := 8) hY dL_release_4 mfX8_release miX8_release msX8_release kL_27 ⟨by decide, rfl⟩ h0 ct rfl (Nat.lt_succ_self _) rfl rfl (Nat.le_of_ble_eq_true rfl) (Nat.le_of_eq (Nat.zero_add _)) (Nat.le_of_eq (Nat.zero_add _)) (fun r1 μ1 hq => ?_)
  obtain ⟨x, rfl, hq⟩ := hq
  obtain ⟨μ1, σ1, π1, g1, rfl, k6, l6⟩ := hQ x _ hq
  show zJ _ _ _ _ (.int x :: _) _ _ _
  refine J_i2l hT dL_release_7 ?_
  refine R_last hT dL_release_8 k6 l6 (by first | exact ⟨rfl, by decide⟩ | exact zix_nI (by omega) (by decide) | assumption) ?_
  refine J_goto (tgt := 18) hT dL_release_9 (by decide) ?_
  refine J_iconst (v := 0) hT dL_release_18 rfl ?_
  exact J_iret hT dL_release_19 rfl rfl (⟨rfl, x, μ1, σ1, π1, g1, hq, rfl⟩) (Nat.le_of_eq (Nat.zero_add _)) (Nat.le_of_eq (Nat.zero_add _))

set_option maxRecDepth 100000 in
set_option maxHeartbeats 4000000 in
theorem w_release_iob {l : Launch} {Z : zZ} (hZ : zSt l Z) {μ : zMem} {k mc ms : Nat} {a : Int32} (h0 : zK μ 0 = 8 + 8) (hN : zNs Z) {Q : zMem → Prop} (ct : zCtX l Z mX8_release k mc ms [.ref 0, .int a] μ "java/lang/IndexOutOfBoundsException" Q) : zCtW l Z mL_release hhL_release (k + 1) mc ms [.ref 0, .int a, .ref 106] μ (fun r μx => r = some (.int 1) ∧ Q μx) := by
  refine zCtW_of hZ mpL_release (Nat.le_of_ble_eq_true rfl) (L := [some (.ref 0), some (.int a), some (.ref 106), none]) rfl (fun τ hYW => ?_)
  have hY := hYW.1
  have hT := hY.1
  refine J_aload_n (i := 2) hT dL_release_0 rfl rfl ?_
  refine J_iconst (v := 0) hT dL_release_1 rfl ?_
  refine J_aload_n (i := 0) hT dL_release_2 rfl rfl ?_
  refine J_iload_n (i := 1) hT dL_release_3 rfl rfl ?_
  refine J_callVC (ci := 8) (i := 3) (hpc := 12) (nx := 13) hYW dL_release_4 mfX8_release miX8_release msX8_release ⟨by decide, rfl⟩ h0 ct rfl (Nat.lt_succ_self _) rfl rfl (Nat.le_of_ble_eq_true rfl) (Nat.le_of_eq (Nat.zero_add _)) (Nat.le_of_eq (Nat.zero_add _)) mlL_27 [] [(0, 9, 15, 15)] 21 0 9 rfl (fun _ h => nomatch h) (by decide) (by decide) kcL_21 cs_iob (Or.inl ⟨_, dL_release_12, rfl, rfl⟩) (Nat.le_of_ble_eq_true rfl) (fun μ1 hq => ?_)
  refine J_iconst (v := 1) hT dL_release_13 rfl ?_
  exact J_iret hT dL_release_14 rfl rfl (⟨rfl, hq⟩) (Nat.le_of_eq (Nat.zero_add _)) (Nat.le_of_eq (Nat.zero_add _))

set_option maxRecDepth 100000 in
set_option maxHeartbeats 4000000 in
theorem w_release_ise {l : Launch} {Z : zZ} (hZ : zSt l Z) {μ : zMem} {k mc ms : Nat} {a : Int32} (h0 : zK μ 0 = 8 + 8) (hN : zNs Z) {Q : zMem → Prop} (ct : zCtX l Z mX8_release k mc ms [.ref 0, .int a] μ "java/lang/IllegalStateException" Q) : zCtW l Z mL_release hhL_release (k + 1) mc ms [.ref 0, .int a, .ref 106] μ (fun r μx => r = some (.int 2) ∧ Q μx) := by
  refine zCtW_of hZ mpL_release (Nat.le_of_ble_eq_true rfl) (L := [some (.ref 0), some (.int a), some (.ref 106), none]) rfl (fun τ hYW => ?_)
  have hY := hYW.1
  have hT := hY.1
  refine J_aload_n (i := 2) hT dL_release_0 rfl rfl ?_
  refine J_iconst (v := 0) hT dL_release_1 rfl ?_
  refine J_aload_n (i := 0) hT dL_release_2 rfl rfl ?_
  refine J_iload_n (i := 1) hT dL_release_3 rfl rfl ?_
  refine J_callVC (ci := 8) (i := 3) (hpc := 15) (nx := 16) hYW dL_release_4 mfX8_release miX8_release msX8_release ⟨by decide, rfl⟩ h0 ct rfl (Nat.lt_succ_self _) rfl rfl (Nat.le_of_ble_eq_true rfl) (Nat.le_of_eq (Nat.zero_add _)) (Nat.le_of_eq (Nat.zero_add _)) mlL_27 [(0, 9, 12, 21)] [] 15 0 9 rfl (fun z hz => by rcases List.mem_singleton.mp hz with rfl; exact ⟨by decide, _, kcL_21, hN.2.1⟩) (by decide) (by decide) kcL_15 cs_ise (Or.inl ⟨_, dL_release_15, rfl, rfl⟩) (Nat.le_of_ble_eq_true rfl) (fun μ1 hq => ?_)
  refine J_iconst (v := 2) hT dL_release_16 rfl ?_
  exact J_iret hT dL_release_17 rfl rfl (⟨rfl, hq⟩) (Nat.le_of_eq (Nat.zero_add _)) (Nat.le_of_eq (Nat.zero_add _))

set_option maxRecDepth 100000 in
set_option maxHeartbeats 4000000 in
theorem w_read {l : Launch} {Z : zZ} (hZ : zSt l Z) {μ : zMem} {σ : zS2} {π : zP2} {g : zG2} {k mc ms : Nat} {a b : Int32} (h0 : zK μ 0 = 8 + 8) {Q : Int32 → zMem → Prop} (ct : zCt l Z mX8_read k mc ms [.ref 0, .int a, .int b] (zA4 μ σ π g) (fun r μx => ∃ x, r = some (.int x) ∧ Q x μx)) (hQ : ∀ x μx, Q x μx → ∃ μ1 σ1 π1 g1, μx = zA4 μ1 σ1 π1 g1 ∧ zK μ1 106 = 3 ∧ zL μ1 106 = 1) : zCtW l Z mL_read hhL_read (k + 1) mc ms [.ref 0, .int a, .int b, .ref 106] (zA4 μ σ π g) (fun r μx => r = some (.int 0) ∧ ∃ x μ1 σ1 π1 g1, Q x (zA4 μ1 σ1 π1 g1) ∧ μx = zA4 μ1 σ1 π1 (zug g1 106 0 x.toInt64)) := by
  refine zCtW_of hZ mpL_read (Nat.le_of_ble_eq_true rfl) (L := [some (.ref 0), some (.int a), some (.int b), some (.ref 106), none]) rfl (fun τ hYW => ?_)
  have hY := hYW.1
  have hT := hY.1
  refine J_aload_n (i := 3) hT dL_read_0 rfl rfl ?_
  refine J_iconst (v := 0) hT dL_read_1 rfl ?_
  refine J_aload_n (i := 0) hT dL_read_2 rfl rfl ?_
  refine J_iload_n (i := 1) hT dL_read_3 rfl rfl ?_
  refine J_iload_n (i := 2) hT dL_read_4 rfl rfl ?_
  refine J_callV (ci := 8) hY dL_read_5 mfX8_read miX8_read msX8_read kL_30 ⟨by decide, rfl⟩ h0 ct rfl (Nat.lt_succ_self _) rfl rfl (Nat.le_of_ble_eq_true rfl) (Nat.le_of_eq (Nat.zero_add _)) (Nat.le_of_eq (Nat.zero_add _)) (fun r1 μ1 hq => ?_)
  obtain ⟨x, rfl, hq⟩ := hq
  obtain ⟨μ1, σ1, π1, g1, rfl, k6, l6⟩ := hQ x _ hq
  show zJ _ _ _ _ (.int x :: _) _ _ _
  refine J_i2l hT dL_read_8 ?_
  refine R_last hT dL_read_9 k6 l6 (by first | exact ⟨rfl, by decide⟩ | exact zix_nI (by omega) (by decide) | assumption) ?_
  refine J_goto (tgt := 25) hT dL_read_10 (by decide) ?_
  refine J_iconst (v := 0) hT dL_read_25 rfl ?_
  exact J_iret hT dL_read_26 rfl rfl (⟨rfl, x, μ1, σ1, π1, g1, hq, rfl⟩) (Nat.le_of_eq (Nat.zero_add _)) (Nat.le_of_eq (Nat.zero_add _))

set_option maxRecDepth 100000 in
set_option maxHeartbeats 4000000 in
theorem w_read_iob {l : Launch} {Z : zZ} (hZ : zSt l Z) {μ : zMem} {k mc ms : Nat} {a b : Int32} (h0 : zK μ 0 = 8 + 8) (hN : zNs Z) {Q : zMem → Prop} (ct : zCtX l Z mX8_read k mc ms [.ref 0, .int a, .int b] μ "java/lang/IndexOutOfBoundsException" Q) : zCtW l Z mL_read hhL_read (k + 1) mc ms [.ref 0, .int a, .int b, .ref 106] μ (fun r μx => r = some (.int 1) ∧ Q μx) := by
  refine zCtW_of hZ mpL_read (Nat.le_of_ble_eq_true rfl) (L := [some (.ref 0), some (.int a), some (.int b), some (.ref 106), none]) rfl (fun τ hYW => ?_)
  have hY := hYW.1
  have hT := hY.1
  refine J_aload_n (i := 3) hT dL_read_0 rfl rfl ?_
  refine J_iconst (v := 0) hT dL_read_1 rfl ?_
  refine J_aload_n (i := 0) hT dL_read_2 rfl rfl ?_
  refine J_iload_n (i := 1) hT dL_read_3 rfl rfl ?_
  refine J_iload_n (i := 2) hT dL_read_4 rfl rfl ?_
  refine J_callVC (ci := 8) (i := 4) (hpc := 13) (nx := 15) hYW dL_read_5 mfX8_read miX8_read msX8_read ⟨by decide, rfl⟩ h0 ct rfl (Nat.lt_succ_self _) rfl rfl (Nat.le_of_ble_eq_true rfl) (Nat.le_of_eq (Nat.zero_add _)) (Nat.le_of_eq (Nat.zero_add _)) mlL_30 [] [(0, 10, 17, 13), (0, 10, 21, 15)] 21 0 10 rfl (fun _ h => nomatch h) (by decide) (by decide) kcL_21 cs_iob (Or.inr ⟨dL_read_13, rfl⟩) (Nat.le_of_ble_eq_true rfl) (fun μ1 hq => ?_)
  refine J_iconst (v := 1) hT dL_read_15 rfl ?_
  exact J_iret hT dL_read_16 rfl rfl (⟨rfl, hq⟩) (Nat.le_of_eq (Nat.zero_add _)) (Nat.le_of_eq (Nat.zero_add _))

set_option maxRecDepth 100000 in
set_option maxHeartbeats 4000000 in
theorem w_read_iae {l : Launch} {Z : zZ} (hZ : zSt l Z) {μ : zMem} {k mc ms : Nat} {a b : Int32} (h0 : zK μ 0 = 8 + 8) (hN : zNs Z) {Q : zMem → Prop} (ct : zCtX l Z mX8_read k mc ms [.ref 0, .int a, .int b] μ "java/lang/IllegalArgumentException" Q) : zCtW l Z mL_read hhL_read (k + 1) mc ms [.ref 0, .int a, .int b, .ref 106] μ (fun r μx => r = some (.int 2) ∧ Q μx) := by
  refine zCtW_of hZ mpL_read (Nat.le_of_ble_eq_true rfl) (L := [some (.ref 0), some (.int a), some (.int b), some (.ref 106), none]) rfl (fun τ hYW => ?_)
  have hY := hYW.1
  have hT := hY.1
  refine J_aload_n (i := 3) hT dL_read_0 rfl rfl ?_
  refine J_iconst (v := 0) hT dL_read_1 rfl ?_
  refine J_aload_n (i := 0) hT dL_read_2 rfl rfl ?_
  refine J_iload_n (i := 1) hT dL_read_3 rfl rfl ?_
  refine J_iload_n (i := 2) hT dL_read_4 rfl rfl ?_
  refine J_callVC (ci := 8) (i := 4) (hpc := 17) (nx := 19) hYW dL_read_5 mfX8_read miX8_read msX8_read ⟨by decide, rfl⟩ h0 ct rfl (Nat.lt_succ_self _) rfl rfl (Nat.le_of_ble_eq_true rfl) (Nat.le_of_eq (Nat.zero_add _)) (Nat.le_of_eq (Nat.zero_add _)) mlL_30 [(0, 10, 13, 21)] [(0, 10, 21, 15)] 13 0 10 rfl (fun z hz => by rcases List.mem_singleton.mp hz with rfl; exact ⟨by decide, _, kcL_21, hN.1⟩) (by decide) (by decide) kcL_13 cs_iae (Or.inr ⟨dL_read_17, rfl⟩) (Nat.le_of_ble_eq_true rfl) (fun μ1 hq => ?_)
  refine J_iconst (v := 2) hT dL_read_19 rfl ?_
  exact J_iret hT dL_read_20 rfl rfl (⟨rfl, hq⟩) (Nat.le_of_eq (Nat.zero_add _)) (Nat.le_of_eq (Nat.zero_add _))

set_option maxRecDepth 100000 in
set_option maxHeartbeats 4000000 in
theorem w_read_ise {l : Launch} {Z : zZ} (hZ : zSt l Z) {μ : zMem} {k mc ms : Nat} {a b : Int32} (h0 : zK μ 0 = 8 + 8) (hN : zNs Z) {Q : zMem → Prop} (ct : zCtX l Z mX8_read k mc ms [.ref 0, .int a, .int b] μ "java/lang/IllegalStateException" Q) : zCtW l Z mL_read hhL_read (k + 1) mc ms [.ref 0, .int a, .int b, .ref 106] μ (fun r μx => r = some (.int 3) ∧ Q μx) := by
  refine zCtW_of hZ mpL_read (Nat.le_of_ble_eq_true rfl) (L := [some (.ref 0), some (.int a), some (.int b), some (.ref 106), none]) rfl (fun τ hYW => ?_)
  have hY := hYW.1
  have hT := hY.1
  refine J_aload_n (i := 3) hT dL_read_0 rfl rfl ?_
  refine J_iconst (v := 0) hT dL_read_1 rfl ?_
  refine J_aload_n (i := 0) hT dL_read_2 rfl rfl ?_
  refine J_iload_n (i := 1) hT dL_read_3 rfl rfl ?_
  refine J_iload_n (i := 2) hT dL_read_4 rfl rfl ?_
  refine J_callVC (ci := 8) (i := 4) (hpc := 21) (nx := 23) hYW dL_read_5 mfX8_read miX8_read msX8_read ⟨by decide, rfl⟩ h0 ct rfl (Nat.lt_succ_self _) rfl rfl (Nat.le_of_ble_eq_true rfl) (Nat.le_of_eq (Nat.zero_add _)) (Nat.le_of_eq (Nat.zero_add _)) mlL_30 [(0, 10, 13, 21), (0, 10, 17, 13)] [] 15 0 10 rfl (fun z hz => by
    rcases List.mem_cons.mp hz with rfl | hz
    · exact ⟨by decide, _, kcL_21, hN.2.1⟩
    · rcases List.mem_singleton.mp hz with rfl; exact ⟨by decide, _, kcL_13, hN.2.2⟩) (by decide) (by decide) kcL_15 cs_ise (Or.inr ⟨dL_read_21, rfl⟩) (Nat.le_of_ble_eq_true rfl) (fun μ1 hq => ?_)
  refine J_iconst (v := 3) hT dL_read_23 rfl ?_
  exact J_iret hT dL_read_24 rfl rfl (⟨rfl, hq⟩) (Nat.le_of_eq (Nat.zero_add _)) (Nat.le_of_eq (Nat.zero_add _))

set_option maxRecDepth 100000 in
set_option maxHeartbeats 4000000 in
theorem w_control {l : Launch} {Z : zZ} (hZ : zSt l Z) {μ : zMem} {σ : zS2} {π : zP2} {g : zG2} {k mc ms : Nat} {a b : Int32} (h0 : zK μ 0 = 8 + 8) {Q : Int32 → zMem → Prop} (ct : zCt l Z mX8_control k mc ms [.ref 0, .int a, .int b] (zA4 μ σ π g) (fun r μx => ∃ x, r = some (.int x) ∧ Q x μx)) (hQ : ∀ x μx, Q x μx → ∃ μ1 σ1 π1 g1, μx = zA4 μ1 σ1 π1 g1 ∧ zK μ1 106 = 3 ∧ zL μ1 106 = 1) : zCtW l Z mL_control hhL_control (k + 1) mc ms [.ref 0, .int a, .int b, .ref 106] (zA4 μ σ π g) (fun r μx => r = some (.int 0) ∧ ∃ x μ1 σ1 π1 g1, Q x (zA4 μ1 σ1 π1 g1) ∧ μx = zA4 μ1 σ1 π1 (zug g1 106 0 x.toInt64)) := by
  refine zCtW_of hZ mpL_control (Nat.le_of_ble_eq_true rfl) (L := [some (.ref 0), some (.int a), some (.int b), some (.ref 106), none]) rfl (fun τ hYW => ?_)
  have hY := hYW.1
  have hT := hY.1
  refine J_aload_n (i := 3) hT dL_control_0 rfl rfl ?_
  refine J_iconst (v := 0) hT dL_control_1 rfl ?_
  refine J_aload_n (i := 0) hT dL_control_2 rfl rfl ?_
  refine J_iload_n (i := 1) hT dL_control_3 rfl rfl ?_
  refine J_iload_n (i := 2) hT dL_control_4 rfl rfl ?_
  refine J_callV (ci := 8) hY dL_control_5 mfX8_control miX8_control msX8_control kL_33 ⟨by decide, rfl⟩ h0 ct rfl (Nat.lt_succ_self _) rfl rfl (Nat.le_of_ble_eq_true rfl) (Nat.le_of_eq (Nat.zero_add _)) (Nat.le_of_eq (Nat.zero_add _)) (fun r1 μ1 hq => ?_)
  obtain ⟨x, rfl, hq⟩ := hq
  obtain ⟨μ1, σ1, π1, g1, rfl, k6, l6⟩ := hQ x _ hq
  show zJ _ _ _ _ (.int x :: _) _ _ _
  refine J_i2l hT dL_control_8 ?_
  refine R_last hT dL_control_9 k6 l6 (by first | exact ⟨rfl, by decide⟩ | exact zix_nI (by omega) (by decide) | assumption) ?_
  refine J_goto (tgt := 21) hT dL_control_10 (by decide) ?_
  refine J_iconst (v := 0) hT dL_control_21 rfl ?_
  exact J_iret hT dL_control_22 rfl rfl (⟨rfl, x, μ1, σ1, π1, g1, hq, rfl⟩) (Nat.le_of_eq (Nat.zero_add _)) (Nat.le_of_eq (Nat.zero_add _))

set_option maxRecDepth 100000 in
set_option maxHeartbeats 4000000 in
theorem w_control_iob {l : Launch} {Z : zZ} (hZ : zSt l Z) {μ : zMem} {k mc ms : Nat} {a b : Int32} (h0 : zK μ 0 = 8 + 8) (hN : zNs Z) {Q : zMem → Prop} (ct : zCtX l Z mX8_control k mc ms [.ref 0, .int a, .int b] μ "java/lang/IndexOutOfBoundsException" Q) : zCtW l Z mL_control hhL_control (k + 1) mc ms [.ref 0, .int a, .int b, .ref 106] μ (fun r μx => r = some (.int 1) ∧ Q μx) := by
  refine zCtW_of hZ mpL_control (Nat.le_of_ble_eq_true rfl) (L := [some (.ref 0), some (.int a), some (.int b), some (.ref 106), none]) rfl (fun τ hYW => ?_)
  have hY := hYW.1
  have hT := hY.1
  refine J_aload_n (i := 3) hT dL_control_0 rfl rfl ?_
  refine J_iconst (v := 0) hT dL_control_1 rfl ?_
  refine J_aload_n (i := 0) hT dL_control_2 rfl rfl ?_
  refine J_iload_n (i := 1) hT dL_control_3 rfl rfl ?_
  refine J_iload_n (i := 2) hT dL_control_4 rfl rfl ?_
  refine J_callVC (ci := 8) (i := 4) (hpc := 13) (nx := 15) hYW dL_control_5 mfX8_control miX8_control msX8_control ⟨by decide, rfl⟩ h0 ct rfl (Nat.lt_succ_self _) rfl rfl (Nat.le_of_ble_eq_true rfl) (Nat.le_of_eq (Nat.zero_add _)) (Nat.le_of_eq (Nat.zero_add _)) mlL_33 [] [(0, 10, 17, 15)] 21 0 10 rfl (fun _ h => nomatch h) (by decide) (by decide) kcL_21 cs_iob (Or.inr ⟨dL_control_13, rfl⟩) (Nat.le_of_ble_eq_true rfl) (fun μ1 hq => ?_)
  refine J_iconst (v := 1) hT dL_control_15 rfl ?_
  exact J_iret hT dL_control_16 rfl rfl (⟨rfl, hq⟩) (Nat.le_of_eq (Nat.zero_add _)) (Nat.le_of_eq (Nat.zero_add _))

set_option maxRecDepth 100000 in
set_option maxHeartbeats 4000000 in
theorem w_control_ise {l : Launch} {Z : zZ} (hZ : zSt l Z) {μ : zMem} {k mc ms : Nat} {a b : Int32} (h0 : zK μ 0 = 8 + 8) (hN : zNs Z) {Q : zMem → Prop} (ct : zCtX l Z mX8_control k mc ms [.ref 0, .int a, .int b] μ "java/lang/IllegalStateException" Q) : zCtW l Z mL_control hhL_control (k + 1) mc ms [.ref 0, .int a, .int b, .ref 106] μ (fun r μx => r = some (.int 2) ∧ Q μx) := by
  refine zCtW_of hZ mpL_control (Nat.le_of_ble_eq_true rfl) (L := [some (.ref 0), some (.int a), some (.int b), some (.ref 106), none]) rfl (fun τ hYW => ?_)
  have hY := hYW.1
  have hT := hY.1
  refine J_aload_n (i := 3) hT dL_control_0 rfl rfl ?_
  refine J_iconst (v := 0) hT dL_control_1 rfl ?_
  refine J_aload_n (i := 0) hT dL_control_2 rfl rfl ?_
  refine J_iload_n (i := 1) hT dL_control_3 rfl rfl ?_
  refine J_iload_n (i := 2) hT dL_control_4 rfl rfl ?_
  refine J_callVC (ci := 8) (i := 4) (hpc := 17) (nx := 19) hYW dL_control_5 mfX8_control miX8_control msX8_control ⟨by decide, rfl⟩ h0 ct rfl (Nat.lt_succ_self _) rfl rfl (Nat.le_of_ble_eq_true rfl) (Nat.le_of_eq (Nat.zero_add _)) (Nat.le_of_eq (Nat.zero_add _)) mlL_33 [(0, 10, 13, 21)] [] 15 0 10 rfl (fun z hz => by rcases List.mem_singleton.mp hz with rfl; exact ⟨by decide, _, kcL_21, hN.2.1⟩) (by decide) (by decide) kcL_15 cs_ise (Or.inr ⟨dL_control_17, rfl⟩) (Nat.le_of_ble_eq_true rfl) (fun μ1 hq => ?_)
  refine J_iconst (v := 2) hT dL_control_19 rfl ?_
  exact J_iret hT dL_control_20 rfl rfl (⟨rfl, hq⟩) (Nat.le_of_eq (Nat.zero_add _)) (Nat.le_of_eq (Nat.zero_add _))

set_option maxRecDepth 100000 in
set_option maxHeartbeats 4000000 in
theorem w_limit {l : Launch} {Z : zZ} (hZ : zSt l Z) {μ : zMem} {σ : zS2} {π : zP2} {g : zG2} {k mc ms : Nat} {a b : Int32} (h0 : zK μ 0 = 8 + 8) {Q : Int32 → zMem → Prop} (ct : zCt l Z mX8_limit k mc ms [.ref 0, .int a, .int b] (zA4 μ σ π g) (fun r μx => ∃ x, r = some (.int x) ∧ Q x μx)) (hQ : ∀ x μx, Q x μx → ∃ μ1 σ1 π1 g1, μx = zA4 μ1 σ1 π1 g1 ∧ zK μ1 106 = 3 ∧ zL μ1 106 = 1) : zCtW l Z mL_limit hhL_limit (k + 1) mc ms [.ref 0, .int a, .int b, .ref 106] (zA4 μ σ π g) (fun r μx => r = some (.int 0) ∧ ∃ x μ1 σ1 π1 g1, Q x (zA4 μ1 σ1 π1 g1) ∧ μx = zA4 μ1 σ1 π1 (zug g1 106 0 x.toInt64)) := by
  refine zCtW_of hZ mpL_limit (Nat.le_of_ble_eq_true rfl) (L := [some (.ref 0), some (.int a), some (.int b), some (.ref 106), none]) rfl (fun τ hYW => ?_)
  have hY := hYW.1
  have hT := hY.1
  refine J_aload_n (i := 3) hT dL_limit_0 rfl rfl ?_
  refine J_iconst (v := 0) hT dL_limit_1 rfl ?_
  refine J_aload_n (i := 0) hT dL_limit_2 rfl rfl ?_
  refine J_iload_n (i := 1) hT dL_limit_3 rfl rfl ?_
  refine J_iload_n (i := 2) hT dL_limit_4 rfl rfl ?_
  refine J_callV (ci := 8) hY dL_limit_5 mfX8_limit miX8_limit msX8_limit kL_36 ⟨by decide, rfl⟩ h0 ct rfl (Nat.lt_succ_self _) rfl rfl (Nat.le_of_ble_eq_true rfl) (Nat.le_of_eq (Nat.zero_add _)) (Nat.le_of_eq (Nat.zero_add _)) (fun r1 μ1 hq => ?_)
  obtain ⟨x, rfl, hq⟩ := hq
  obtain ⟨μ1, σ1, π1, g1, rfl, k6, l6⟩ := hQ x _ hq
  show zJ _ _ _ _ (.int x :: _) _ _ _
  refine J_i2l hT dL_limit_8 ?_
  refine R_last hT dL_limit_9 k6 l6 (by first | exact ⟨rfl, by decide⟩ | exact zix_nI (by omega) (by decide) | assumption) ?_
  refine J_goto (tgt := 21) hT dL_limit_10 (by decide) ?_
  refine J_iconst (v := 0) hT dL_limit_21 rfl ?_
  exact J_iret hT dL_limit_22 rfl rfl (⟨rfl, x, μ1, σ1, π1, g1, hq, rfl⟩) (Nat.le_of_eq (Nat.zero_add _)) (Nat.le_of_eq (Nat.zero_add _))

set_option maxRecDepth 100000 in
set_option maxHeartbeats 4000000 in
theorem w_limit_iob {l : Launch} {Z : zZ} (hZ : zSt l Z) {μ : zMem} {k mc ms : Nat} {a b : Int32} (h0 : zK μ 0 = 8 + 8) (hN : zNs Z) {Q : zMem → Prop} (ct : zCtX l Z mX8_limit k mc ms [.ref 0, .int a, .int b] μ "java/lang/IndexOutOfBoundsException" Q) : zCtW l Z mL_limit hhL_limit (k + 1) mc ms [.ref 0, .int a, .int b, .ref 106] μ (fun r μx => r = some (.int 1) ∧ Q μx) := by
  refine zCtW_of hZ mpL_limit (Nat.le_of_ble_eq_true rfl) (L := [some (.ref 0), some (.int a), some (.int b), some (.ref 106), none]) rfl (fun τ hYW => ?_)
  have hY := hYW.1
  have hT := hY.1
  refine J_aload_n (i := 3) hT dL_limit_0 rfl rfl ?_
  refine J_iconst (v := 0) hT dL_limit_1 rfl ?_
  refine J_aload_n (i := 0) hT dL_limit_2 rfl rfl ?_
  refine J_iload_n (i := 1) hT dL_limit_3 rfl rfl ?_
  refine J_iload_n (i := 2) hT dL_limit_4 rfl rfl ?_
  refine J_callVC (ci := 8) (i := 4) (hpc := 13) (nx := 15) hYW dL_limit_5 mfX8_limit miX8_limit msX8_limit ⟨by decide, rfl⟩ h0 ct rfl (Nat.lt_succ_self _) rfl rfl (Nat.le_of_ble_eq_true rfl) (Nat.le_of_eq (Nat.zero_add _)) (Nat.le_of_eq (Nat.zero_add _)) mlL_36 [] [(0, 10, 17, 15)] 21 0 10 rfl (fun _ h => nomatch h) (by decide) (by decide) kcL_21 cs_iob (Or.inr ⟨dL_limit_13, rfl⟩) (Nat.le_of_ble_eq_true rfl) (fun μ1 hq => ?_)
  refine J_iconst (v := 1) hT dL_limit_15 rfl ?_
  exact J_iret hT dL_limit_16 rfl rfl (⟨rfl, hq⟩) (Nat.le_of_eq (Nat.zero_add _)) (Nat.le_of_eq (Nat.zero_add _))

set_option maxRecDepth 100000 in
set_option maxHeartbeats 4000000 in
theorem w_limit_ise {l : Launch} {Z : zZ} (hZ : zSt l Z) {μ : zMem} {k mc ms : Nat} {a b : Int32} (h0 : zK μ 0 = 8 + 8) (hN : zNs Z) {Q : zMem → Prop} (ct : zCtX l Z mX8_limit k mc ms [.ref 0, .int a, .int b] μ "java/lang/IllegalStateException" Q) : zCtW l Z mL_limit hhL_limit (k + 1) mc ms [.ref 0, .int a, .int b, .ref 106] μ (fun r μx => r = some (.int 2) ∧ Q μx) := by
  refine zCtW_of hZ mpL_limit (Nat.le_of_ble_eq_true rfl) (L := [some (.ref 0), some (.int a), some (.int b), some (.ref 106), none]) rfl (fun τ hYW => ?_)
  have hY := hYW.1
  have hT := hY.1
  refine J_aload_n (i := 3) hT dL_limit_0 rfl rfl ?_
  refine J_iconst (v := 0) hT dL_limit_1 rfl ?_
  refine J_aload_n (i := 0) hT dL_limit_2 rfl rfl ?_
  refine J_iload_n (i := 1) hT dL_limit_3 rfl rfl ?_
  refine J_iload_n (i := 2) hT dL_limit_4 rfl rfl ?_
  refine J_callVC (ci := 8) (i := 4) (hpc := 17) (nx := 19) hYW dL_limit_5 mfX8_limit miX8_limit msX8_limit ⟨by decide, rfl⟩ h0 ct rfl (Nat.lt_succ_self _) rfl rfl (Nat.le_of_ble_eq_true rfl) (Nat.le_of_eq (Nat.zero_add _)) (Nat.le_of_eq (Nat.zero_add _)) mlL_36 [(0, 10, 13, 21)] [] 15 0 10 rfl (fun z hz => by rcases List.mem_singleton.mp hz with rfl; exact ⟨by decide, _, kcL_21, hN.2.1⟩) (by decide) (by decide) kcL_15 cs_ise (Or.inr ⟨dL_limit_17, rfl⟩) (Nat.le_of_ble_eq_true rfl) (fun μ1 hq => ?_)
  refine J_iconst (v := 2) hT dL_limit_19 rfl ?_
  exact J_iret hT dL_limit_20 rfl rfl (⟨rfl, hq⟩) (Nat.le_of_eq (Nat.zero_add _)) (Nat.le_of_eq (Nat.zero_add _))

set_option maxRecDepth 100000 in
set_option maxHeartbeats 4000000 in
theorem w_demand {l : Launch} {Z : zZ} (hZ : zSt l Z) {μ : zMem} {σ : zS2} {π : zP2} {g : zG2} {k mc ms : Nat} {a b e : Int32} (h0 : zK μ 0 = 8 + 8) {Q : Int32 → zMem → Prop} (ct : zCt l Z mX8_demand k mc ms [.ref 0, .int a, .int b, .int e] (zA4 μ σ π g) (fun r μx => ∃ x, r = some (.int x) ∧ Q x μx)) (hQ : ∀ x μx, Q x μx → ∃ μ1 σ1 π1 g1, μx = zA4 μ1 σ1 π1 g1 ∧ zK μ1 106 = 3 ∧ zL μ1 106 = 1) : zCtW l Z mL_demand hhL_demand (k + 1) mc ms [.ref 0, .int a, .int b, .int e, .ref 106] (zA4 μ σ π g) (fun r μx => r = some (.int 0) ∧ ∃ x μ1 σ1 π1 g1, Q x (zA4 μ1 σ1 π1 g1) ∧ μx = zA4 μ1 σ1 π1 (zug g1 106 0 x.toInt64)) := by
  refine zCtW_of hZ mpL_demand (Nat.le_of_ble_eq_true rfl) (L := [some (.ref 0), some (.int a), some (.int b), some (.int e), some (.ref 106), none]) rfl (fun τ hYW => ?_)
  have hY := hYW.1
  have hT := hY.1
  refine J_aload (i := 4) hT dL_demand_0 rfl ?_
  refine J_iconst (v := 0) hT dL_demand_2 rfl ?_
  refine J_aload_n (i := 0) hT dL_demand_3 rfl rfl ?_
  refine J_iload_n (i := 1) hT dL_demand_4 rfl rfl ?_
  refine J_iload_n (i := 2) hT dL_demand_5 rfl rfl ?_
  refine J_iload_n (i := 3) hT dL_demand_6 rfl rfl ?_
  refine J_callV (ci := 8) hY dL_demand_7 mfX8_demand miX8_demand msX8_demand kL_39 ⟨by decide, rfl⟩ h0 ct rfl (Nat.lt_succ_self _) rfl rfl (Nat.le_of_ble_eq_true rfl) (Nat.le_of_eq (Nat.zero_add _)) (Nat.le_of_eq (Nat.zero_add _)) (fun r1 μ1 hq => ?_)
  obtain ⟨x, rfl, hq⟩ := hq
  obtain ⟨μ1, σ1, π1, g1, rfl, k6, l6⟩ := hQ x _ hq
  show zJ _ _ _ _ (.int x :: _) _ _ _
  refine J_i2l hT dL_demand_10 ?_
  refine R_last hT dL_demand_11 k6 l6 (by first | exact ⟨rfl, by decide⟩ | exact zix_nI (by omega) (by decide) | assumption) ?_
  refine J_goto (tgt := 27) hT dL_demand_12 (by decide) ?_
  refine J_iconst (v := 0) hT dL_demand_27 rfl ?_
  exact J_iret hT dL_demand_28 rfl rfl (⟨rfl, x, μ1, σ1, π1, g1, hq, rfl⟩) (Nat.le_of_eq (Nat.zero_add _)) (Nat.le_of_eq (Nat.zero_add _))

set_option maxRecDepth 100000 in
set_option maxHeartbeats 4000000 in
theorem w_demand_iob {l : Launch} {Z : zZ} (hZ : zSt l Z) {μ : zMem} {k mc ms : Nat} {a b e : Int32} (h0 : zK μ 0 = 8 + 8) (hN : zNs Z) {Q : zMem → Prop} (ct : zCtX l Z mX8_demand k mc ms [.ref 0, .int a, .int b, .int e] μ "java/lang/IndexOutOfBoundsException" Q) : zCtW l Z mL_demand hhL_demand (k + 1) mc ms [.ref 0, .int a, .int b, .int e, .ref 106] μ (fun r μx => r = some (.int 1) ∧ Q μx) := by
  refine zCtW_of hZ mpL_demand (Nat.le_of_ble_eq_true rfl) (L := [some (.ref 0), some (.int a), some (.int b), some (.int e), some (.ref 106), none]) rfl (fun τ hYW => ?_)
  have hY := hYW.1
  have hT := hY.1
  refine J_aload (i := 4) hT dL_demand_0 rfl ?_
  refine J_iconst (v := 0) hT dL_demand_2 rfl ?_
  refine J_aload_n (i := 0) hT dL_demand_3 rfl rfl ?_
  refine J_iload_n (i := 1) hT dL_demand_4 rfl rfl ?_
  refine J_iload_n (i := 2) hT dL_demand_5 rfl rfl ?_
  refine J_iload_n (i := 3) hT dL_demand_6 rfl rfl ?_
  refine J_callVC (ci := 8) (i := 5) (hpc := 15) (nx := 17) hYW dL_demand_7 mfX8_demand miX8_demand msX8_demand ⟨by decide, rfl⟩ h0 ct rfl (Nat.lt_succ_self _) rfl rfl (Nat.le_of_ble_eq_true rfl) (Nat.le_of_eq (Nat.zero_add _)) (Nat.le_of_eq (Nat.zero_add _)) mlL_39 [] [(0, 12, 19, 13), (0, 12, 23, 15)] 21 0 12 rfl (fun _ h => nomatch h) (by decide) (by decide) kcL_21 cs_iob (Or.inr ⟨dL_demand_15, rfl⟩) (Nat.le_of_ble_eq_true rfl) (fun μ1 hq => ?_)
  refine J_iconst (v := 1) hT dL_demand_17 rfl ?_
  exact J_iret hT dL_demand_18 rfl rfl (⟨rfl, hq⟩) (Nat.le_of_eq (Nat.zero_add _)) (Nat.le_of_eq (Nat.zero_add _))

set_option maxRecDepth 100000 in
set_option maxHeartbeats 4000000 in
theorem w_demand_iae {l : Launch} {Z : zZ} (hZ : zSt l Z) {μ : zMem} {k mc ms : Nat} {a b e : Int32} (h0 : zK μ 0 = 8 + 8) (hN : zNs Z) {Q : zMem → Prop} (ct : zCtX l Z mX8_demand k mc ms [.ref 0, .int a, .int b, .int e] μ "java/lang/IllegalArgumentException" Q) : zCtW l Z mL_demand hhL_demand (k + 1) mc ms [.ref 0, .int a, .int b, .int e, .ref 106] μ (fun r μx => r = some (.int 2) ∧ Q μx) := by
  refine zCtW_of hZ mpL_demand (Nat.le_of_ble_eq_true rfl) (L := [some (.ref 0), some (.int a), some (.int b), some (.int e), some (.ref 106), none]) rfl (fun τ hYW => ?_)
  have hY := hYW.1
  have hT := hY.1
  refine J_aload (i := 4) hT dL_demand_0 rfl ?_
  refine J_iconst (v := 0) hT dL_demand_2 rfl ?_
  refine J_aload_n (i := 0) hT dL_demand_3 rfl rfl ?_
  refine J_iload_n (i := 1) hT dL_demand_4 rfl rfl ?_
  refine J_iload_n (i := 2) hT dL_demand_5 rfl rfl ?_
  refine J_iload_n (i := 3) hT dL_demand_6 rfl rfl ?_
  refine J_callVC (ci := 8) (i := 5) (hpc := 19) (nx := 21) hYW dL_demand_7 mfX8_demand miX8_demand msX8_demand ⟨by decide, rfl⟩ h0 ct rfl (Nat.lt_succ_self _) rfl rfl (Nat.le_of_ble_eq_true rfl) (Nat.le_of_eq (Nat.zero_add _)) (Nat.le_of_eq (Nat.zero_add _)) mlL_39 [(0, 12, 15, 21)] [(0, 12, 23, 15)] 13 0 12 rfl (fun z hz => by rcases List.mem_singleton.mp hz with rfl; exact ⟨by decide, _, kcL_21, hN.1⟩) (by decide) (by decide) kcL_13 cs_iae (Or.inr ⟨dL_demand_19, rfl⟩) (Nat.le_of_ble_eq_true rfl) (fun μ1 hq => ?_)
  refine J_iconst (v := 2) hT dL_demand_21 rfl ?_
  exact J_iret hT dL_demand_22 rfl rfl (⟨rfl, hq⟩) (Nat.le_of_eq (Nat.zero_add _)) (Nat.le_of_eq (Nat.zero_add _))

set_option maxRecDepth 100000 in
set_option maxHeartbeats 4000000 in
theorem w_demand_ise {l : Launch} {Z : zZ} (hZ : zSt l Z) {μ : zMem} {k mc ms : Nat} {a b e : Int32} (h0 : zK μ 0 = 8 + 8) (hN : zNs Z) {Q : zMem → Prop} (ct : zCtX l Z mX8_demand k mc ms [.ref 0, .int a, .int b, .int e] μ "java/lang/IllegalStateException" Q) : zCtW l Z mL_demand hhL_demand (k + 1) mc ms [.ref 0, .int a, .int b, .int e, .ref 106] μ (fun r μx => r = some (.int 3) ∧ Q μx) := by
  refine zCtW_of hZ mpL_demand (Nat.le_of_ble_eq_true rfl) (L := [some (.ref 0), some (.int a), some (.int b), some (.int e), some (.ref 106), none]) rfl (fun τ hYW => ?_)
  have hY := hYW.1
  have hT := hY.1
  refine J_aload (i := 4) hT dL_demand_0 rfl ?_
  refine J_iconst (v := 0) hT dL_demand_2 rfl ?_
  refine J_aload_n (i := 0) hT dL_demand_3 rfl rfl ?_
  refine J_iload_n (i := 1) hT dL_demand_4 rfl rfl ?_
  refine J_iload_n (i := 2) hT dL_demand_5 rfl rfl ?_
  refine J_iload_n (i := 3) hT dL_demand_6 rfl rfl ?_
  refine J_callVC (ci := 8) (i := 5) (hpc := 23) (nx := 25) hYW dL_demand_7 mfX8_demand miX8_demand msX8_demand ⟨by decide, rfl⟩ h0 ct rfl (Nat.lt_succ_self _) rfl rfl (Nat.le_of_ble_eq_true rfl) (Nat.le_of_eq (Nat.zero_add _)) (Nat.le_of_eq (Nat.zero_add _)) mlL_39 [(0, 12, 15, 21), (0, 12, 19, 13)] [] 15 0 12 rfl (fun z hz => by
    rcases List.mem_cons.mp hz with rfl | hz
    · exact ⟨by decide, _, kcL_21, hN.2.1⟩
    · rcases List.mem_singleton.mp hz with rfl; exact ⟨by decide, _, kcL_13, hN.2.2⟩) (by decide) (by decide) kcL_15 cs_ise (Or.inr ⟨dL_demand_23, rfl⟩) (Nat.le_of_ble_eq_true rfl) (fun μ1 hq => ?_)
  refine J_iconst (v := 3) hT dL_demand_25 rfl ?_
  exact J_iret hT dL_demand_26 rfl rfl (⟨rfl, hq⟩) (Nat.le_of_eq (Nat.zero_add _)) (Nat.le_of_eq (Nat.zero_add _))

set_option maxRecDepth 100000 in
set_option maxHeartbeats 4000000 in
theorem w_need {l : Launch} {Z : zZ} (hZ : zSt l Z) {μ : zMem} {σ : zS2} {π : zP2} {g : zG2} {k mc ms : Nat} {a b e : Int32} (h0 : zK μ 0 = 8 + 8) {Q : Int32 → zMem → Prop} (ct : zCt l Z mX8_need k mc ms [.ref 0, .int a, .int b, .int e] (zA4 μ σ π g) (fun r μx => ∃ x, r = some (.int x) ∧ Q x μx)) (hQ : ∀ x μx, Q x μx → ∃ μ1 σ1 π1 g1, μx = zA4 μ1 σ1 π1 g1 ∧ zK μ1 106 = 3 ∧ zL μ1 106 = 1) : zCtW l Z mL_need hhL_need (k + 1) mc ms [.ref 0, .int a, .int b, .int e, .ref 106] (zA4 μ σ π g) (fun r μx => r = some (.int 0) ∧ ∃ x μ1 σ1 π1 g1, Q x (zA4 μ1 σ1 π1 g1) ∧ μx = zA4 μ1 σ1 π1 (zug g1 106 0 x.toInt64)) := by
  refine zCtW_of hZ mpL_need (Nat.le_of_ble_eq_true rfl) (L := [some (.ref 0), some (.int a), some (.int b), some (.int e), some (.ref 106), none]) rfl (fun τ hYW => ?_)
  have hY := hYW.1
  have hT := hY.1
  refine J_aload (i := 4) hT dL_need_0 rfl ?_
  refine J_iconst (v := 0) hT dL_need_2 rfl ?_
  refine J_aload_n (i := 0) hT dL_need_3 rfl rfl ?_
  refine J_iload_n (i := 1) hT dL_need_4 rfl rfl ?_
  refine J_iload_n (i := 2) hT dL_need_5 rfl rfl ?_
  refine J_iload_n (i := 3) hT dL_need_6 rfl rfl ?_
  refine J_callV (ci := 8) hY dL_need_7 mfX8_need miX8_need msX8_need kL_43 ⟨by decide, rfl⟩ h0 ct rfl (Nat.lt_succ_self _) rfl rfl (Nat.le_of_ble_eq_true rfl) (Nat.le_of_eq (Nat.zero_add _)) (Nat.le_of_eq (Nat.zero_add _)) (fun r1 μ1 hq => ?_)
  obtain ⟨x, rfl, hq⟩ := hq
  obtain ⟨μ1, σ1, π1, g1, rfl, k6, l6⟩ := hQ x _ hq
  show zJ _ _ _ _ (.int x :: _) _ _ _
  refine J_i2l hT dL_need_10 ?_
  refine R_last hT dL_need_11 k6 l6 (by first | exact ⟨rfl, by decide⟩ | exact zix_nI (by omega) (by decide) | assumption) ?_
  refine J_goto (tgt := 27) hT dL_need_12 (by decide) ?_
  refine J_iconst (v := 0) hT dL_need_27 rfl ?_
  exact J_iret hT dL_need_28 rfl rfl (⟨rfl, x, μ1, σ1, π1, g1, hq, rfl⟩) (Nat.le_of_eq (Nat.zero_add _)) (Nat.le_of_eq (Nat.zero_add _))

set_option maxRecDepth 100000 in
set_option maxHeartbeats 4000000 in
theorem w_need_iob {l : Launch} {Z : zZ} (hZ : zSt l Z) {μ : zMem} {k mc ms : Nat} {a b e : Int32} (h0 : zK μ 0 = 8 + 8) (hN : zNs Z) {Q : zMem → Prop} (ct : zCtX l Z mX8_need k mc ms [.ref 0, .int a, .int b, .int e] μ "java/lang/IndexOutOfBoundsException" Q) : zCtW l Z mL_need hhL_need (k + 1) mc ms [.ref 0, .int a, .int b, .int e, .ref 106] μ (fun r μx => r = some (.int 1) ∧ Q μx) := by
  refine zCtW_of hZ mpL_need (Nat.le_of_ble_eq_true rfl) (L := [some (.ref 0), some (.int a), some (.int b), some (.int e), some (.ref 106), none]) rfl (fun τ hYW => ?_)
  have hY := hYW.1
  have hT := hY.1
  refine J_aload (i := 4) hT dL_need_0 rfl ?_
  refine J_iconst (v := 0) hT dL_need_2 rfl ?_
  refine J_aload_n (i := 0) hT dL_need_3 rfl rfl ?_
  refine J_iload_n (i := 1) hT dL_need_4 rfl rfl ?_
  refine J_iload_n (i := 2) hT dL_need_5 rfl rfl ?_
  refine J_iload_n (i := 3) hT dL_need_6 rfl rfl ?_
  refine J_callVC (ci := 8) (i := 5) (hpc := 15) (nx := 17) hYW dL_need_7 mfX8_need miX8_need msX8_need ⟨by decide, rfl⟩ h0 ct rfl (Nat.lt_succ_self _) rfl rfl (Nat.le_of_ble_eq_true rfl) (Nat.le_of_eq (Nat.zero_add _)) (Nat.le_of_eq (Nat.zero_add _)) mlL_43 [] [(0, 12, 19, 13), (0, 12, 23, 15)] 21 0 12 rfl (fun _ h => nomatch h) (by decide) (by decide) kcL_21 cs_iob (Or.inr ⟨dL_need_15, rfl⟩) (Nat.le_of_ble_eq_true rfl) (fun μ1 hq => ?_)
  refine J_iconst (v := 1) hT dL_need_17 rfl ?_
  exact J_iret hT dL_need_18 rfl rfl (⟨rfl, hq⟩) (Nat.le_of_eq (Nat.zero_add _)) (Nat.le_of_eq (Nat.zero_add _))

set_option maxRecDepth 100000 in
set_option maxHeartbeats 4000000 in
theorem w_need_iae {l : Launch} {Z : zZ} (hZ : zSt l Z) {μ : zMem} {k mc ms : Nat} {a b e : Int32} (h0 : zK μ 0 = 8 + 8) (hN : zNs Z) {Q : zMem → Prop} (ct : zCtX l Z mX8_need k mc ms [.ref 0, .int a, .int b, .int e] μ "java/lang/IllegalArgumentException" Q) : zCtW l Z mL_need hhL_need (k + 1) mc ms [.ref 0, .int a, .int b, .int e, .ref 106] μ (fun r μx => r = some (.int 2) ∧ Q μx) := by
  refine zCtW_of hZ mpL_need (Nat.le_of_ble_eq_true rfl) (L := [some (.ref 0), some (.int a), some (.int b), some (.int e), some (.ref 106), none]) rfl (fun τ hYW => ?_)
  have hY := hYW.1
  have hT := hY.1
  refine J_aload (i := 4) hT dL_need_0 rfl ?_
  refine J_iconst (v := 0) hT dL_need_2 rfl ?_
  refine J_aload_n (i := 0) hT dL_need_3 rfl rfl ?_
  refine J_iload_n (i := 1) hT dL_need_4 rfl rfl ?_
  refine J_iload_n (i := 2) hT dL_need_5 rfl rfl ?_
  refine J_iload_n (i := 3) hT dL_need_6 rfl rfl ?_
  refine J_callVC (ci := 8) (i := 5) (hpc := 19) (nx := 21) hYW dL_need_7 mfX8_need miX8_need msX8_need ⟨by decide, rfl⟩ h0 ct rfl (Nat.lt_succ_self _) rfl rfl (Nat.le_of_ble_eq_true rfl) (Nat.le_of_eq (Nat.zero_add _)) (Nat.le_of_eq (Nat.zero_add _)) mlL_43 [(0, 12, 15, 21)] [(0, 12, 23, 15)] 13 0 12 rfl (fun z hz => by rcases List.mem_singleton.mp hz with rfl; exact ⟨by decide, _, kcL_21, hN.1⟩) (by decide) (by decide) kcL_13 cs_iae (Or.inr ⟨dL_need_19, rfl⟩) (Nat.le_of_ble_eq_true rfl) (fun μ1 hq => ?_)
  refine J_iconst (v := 2) hT dL_need_21 rfl ?_
  exact J_iret hT dL_need_22 rfl rfl (⟨rfl, hq⟩) (Nat.le_of_eq (Nat.zero_add _)) (Nat.le_of_eq (Nat.zero_add _))

set_option maxRecDepth 100000 in
set_option maxHeartbeats 4000000 in
theorem w_need_ise {l : Launch} {Z : zZ} (hZ : zSt l Z) {μ : zMem} {k mc ms : Nat} {a b e : Int32} (h0 : zK μ 0 = 8 + 8) (hN : zNs Z) {Q : zMem → Prop} (ct : zCtX l Z mX8_need k mc ms [.ref 0, .int a, .int b, .int e] μ "java/lang/IllegalStateException" Q) : zCtW l Z mL_need hhL_need (k + 1) mc ms [.ref 0, .int a, .int b, .int e, .ref 106] μ (fun r μx => r = some (.int 3) ∧ Q μx) := by
  refine zCtW_of hZ mpL_need (Nat.le_of_ble_eq_true rfl) (L := [some (.ref 0), some (.int a), some (.int b), some (.int e), some (.ref 106), none]) rfl (fun τ hYW => ?_)
  have hY := hYW.1
  have hT := hY.1
  refine J_aload (i := 4) hT dL_need_0 rfl ?_
  refine J_iconst (v := 0) hT dL_need_2 rfl ?_
  refine J_aload_n (i := 0) hT dL_need_3 rfl rfl ?_
  refine J_iload_n (i := 1) hT dL_need_4 rfl rfl ?_
  refine J_iload_n (i := 2) hT dL_need_5 rfl rfl ?_
  refine J_iload_n (i := 3) hT dL_need_6 rfl rfl ?_
  refine J_callVC (ci := 8) (i := 5) (hpc := 23) (nx := 25) hYW dL_need_7 mfX8_need miX8_need msX8_need ⟨by decide, rfl⟩ h0 ct rfl (Nat.lt_succ_self _) rfl rfl (Nat.le_of_ble_eq_true rfl) (Nat.le_of_eq (Nat.zero_add _)) (Nat.le_of_eq (Nat.zero_add _)) mlL_43 [(0, 12, 15, 21), (0, 12, 19, 13)] [] 15 0 12 rfl (fun z hz => by
    rcases List.mem_cons.mp hz with rfl | hz
    · exact ⟨by decide, _, kcL_21, hN.2.1⟩
    · rcases List.mem_singleton.mp hz with rfl; exact ⟨by decide, _, kcL_13, hN.2.2⟩) (by decide) (by decide) kcL_15 cs_ise (Or.inr ⟨dL_need_23, rfl⟩) (Nat.le_of_ble_eq_true rfl) (fun μ1 hq => ?_)
  refine J_iconst (v := 3) hT dL_need_25 rfl ?_
  exact J_iret hT dL_need_26 rfl rfl (⟨rfl, hq⟩) (Nat.le_of_eq (Nat.zero_add _)) (Nat.le_of_eq (Nat.zero_add _))

set_option maxRecDepth 100000 in
set_option maxHeartbeats 4000000 in
theorem w_lie {l : Launch} {Z : zZ} (hZ : zSt l Z) {μ : zMem} {σ : zS2} {π : zP2} {g : zG2} {k mc ms : Nat} {a b : Int32} (h0 : zK μ 0 = 8 + 8) {Q : Int32 → zMem → Prop} (ct : zCt l Z mX8_lie k mc ms [.ref 0, .int a, .int b] (zA4 μ σ π g) (fun r μx => ∃ x, r = some (.int x) ∧ Q x μx)) (hQ : ∀ x μx, Q x μx → ∃ μ1 σ1 π1 g1, μx = zA4 μ1 σ1 π1 g1 ∧ zK μ1 106 = 3 ∧ zL μ1 106 = 1) : zCtW l Z mL_lie hhL_lie (k + 1) mc ms [.ref 0, .int a, .int b, .ref 106] (zA4 μ σ π g) (fun r μx => r = some (.int 0) ∧ ∃ x μ1 σ1 π1 g1, Q x (zA4 μ1 σ1 π1 g1) ∧ μx = zA4 μ1 σ1 π1 (zug g1 106 0 x.toInt64)) := by
  refine zCtW_of hZ mpL_lie (Nat.le_of_ble_eq_true rfl) (L := [some (.ref 0), some (.int a), some (.int b), some (.ref 106), none]) rfl (fun τ hYW => ?_)
  have hY := hYW.1
  have hT := hY.1
  refine J_aload_n (i := 3) hT dL_lie_0 rfl rfl ?_
  refine J_iconst (v := 0) hT dL_lie_1 rfl ?_
  refine J_aload_n (i := 0) hT dL_lie_2 rfl rfl ?_
  refine J_iload_n (i := 1) hT dL_lie_3 rfl rfl ?_
  refine J_iload_n (i := 2) hT dL_lie_4 rfl rfl ?_
  refine J_callV (ci := 8) hY dL_lie_5 mfX8_lie miX8_lie msX8_lie kL_47 ⟨by decide, rfl⟩ h0 ct rfl (Nat.lt_succ_self _) rfl rfl (Nat.le_of_ble_eq_true rfl) (Nat.le_of_eq (Nat.zero_add _)) (Nat.le_of_eq (Nat.zero_add _)) (fun r1 μ1 hq => ?_)
  obtain ⟨x, rfl, hq⟩ := hq
  obtain ⟨μ1, σ1, π1, g1, rfl, k6, l6⟩ := hQ x _ hq
  show zJ _ _ _ _ (.int x :: _) _ _ _
  refine J_i2l hT dL_lie_8 ?_
  refine R_last hT dL_lie_9 k6 l6 (by first | exact ⟨rfl, by decide⟩ | exact zix_nI (by omega) (by decide) | assumption) ?_
  refine J_goto (tgt := 25) hT dL_lie_10 (by decide) ?_
  refine J_iconst (v := 0) hT dL_lie_25 rfl ?_
  exact J_iret hT dL_lie_26 rfl rfl (⟨rfl, x, μ1, σ1, π1, g1, hq, rfl⟩) (Nat.le_of_eq (Nat.zero_add _)) (Nat.le_of_eq (Nat.zero_add _))

set_option maxRecDepth 100000 in
set_option maxHeartbeats 4000000 in
theorem w_lie_iob {l : Launch} {Z : zZ} (hZ : zSt l Z) {μ : zMem} {k mc ms : Nat} {a b : Int32} (h0 : zK μ 0 = 8 + 8) (hN : zNs Z) {Q : zMem → Prop} (ct : zCtX l Z mX8_lie k mc ms [.ref 0, .int a, .int b] μ "java/lang/IndexOutOfBoundsException" Q) : zCtW l Z mL_lie hhL_lie (k + 1) mc ms [.ref 0, .int a, .int b, .ref 106] μ (fun r μx => r = some (.int 1) ∧ Q μx) := by
  refine zCtW_of hZ mpL_lie (Nat.le_of_ble_eq_true rfl) (L := [some (.ref 0), some (.int a), some (.int b), some (.ref 106), none]) rfl (fun τ hYW => ?_)
  have hY := hYW.1
  have hT := hY.1
  refine J_aload_n (i := 3) hT dL_lie_0 rfl rfl ?_
  refine J_iconst (v := 0) hT dL_lie_1 rfl ?_
  refine J_aload_n (i := 0) hT dL_lie_2 rfl rfl ?_
  refine J_iload_n (i := 1) hT dL_lie_3 rfl rfl ?_
  refine J_iload_n (i := 2) hT dL_lie_4 rfl rfl ?_
  refine J_callVC (ci := 8) (i := 4) (hpc := 13) (nx := 15) hYW dL_lie_5 mfX8_lie miX8_lie msX8_lie ⟨by decide, rfl⟩ h0 ct rfl (Nat.lt_succ_self _) rfl rfl (Nat.le_of_ble_eq_true rfl) (Nat.le_of_eq (Nat.zero_add _)) (Nat.le_of_eq (Nat.zero_add _)) mlL_47 [] [(0, 10, 17, 13), (0, 10, 21, 15)] 21 0 10 rfl (fun _ h => nomatch h) (by decide) (by decide) kcL_21 cs_iob (Or.inr ⟨dL_lie_13, rfl⟩) (Nat.le_of_ble_eq_true rfl) (fun μ1 hq => ?_)
  refine J_iconst (v := 1) hT dL_lie_15 rfl ?_
  exact J_iret hT dL_lie_16 rfl rfl (⟨rfl, hq⟩) (Nat.le_of_eq (Nat.zero_add _)) (Nat.le_of_eq (Nat.zero_add _))

set_option maxRecDepth 100000 in
set_option maxHeartbeats 4000000 in
theorem w_lie_iae {l : Launch} {Z : zZ} (hZ : zSt l Z) {μ : zMem} {k mc ms : Nat} {a b : Int32} (h0 : zK μ 0 = 8 + 8) (hN : zNs Z) {Q : zMem → Prop} (ct : zCtX l Z mX8_lie k mc ms [.ref 0, .int a, .int b] μ "java/lang/IllegalArgumentException" Q) : zCtW l Z mL_lie hhL_lie (k + 1) mc ms [.ref 0, .int a, .int b, .ref 106] μ (fun r μx => r = some (.int 2) ∧ Q μx) := by
  refine zCtW_of hZ mpL_lie (Nat.le_of_ble_eq_true rfl) (L := [some (.ref 0), some (.int a), some (.int b), some (.ref 106), none]) rfl (fun τ hYW => ?_)
  have hY := hYW.1
  have hT := hY.1
  refine J_aload_n (i := 3) hT dL_lie_0 rfl rfl ?_
  refine J_iconst (v := 0) hT dL_lie_1 rfl ?_
  refine J_aload_n (i := 0) hT dL_lie_2 rfl rfl ?_
  refine J_iload_n (i := 1) hT dL_lie_3 rfl rfl ?_
  refine J_iload_n (i := 2) hT dL_lie_4 rfl rfl ?_
  refine J_callVC (ci := 8) (i := 4) (hpc := 17) (nx := 19) hYW dL_lie_5 mfX8_lie miX8_lie msX8_lie ⟨by decide, rfl⟩ h0 ct rfl (Nat.lt_succ_self _) rfl rfl (Nat.le_of_ble_eq_true rfl) (Nat.le_of_eq (Nat.zero_add _)) (Nat.le_of_eq (Nat.zero_add _)) mlL_47 [(0, 10, 13, 21)] [(0, 10, 21, 15)] 13 0 10 rfl (fun z hz => by rcases List.mem_singleton.mp hz with rfl; exact ⟨by decide, _, kcL_21, hN.1⟩) (by decide) (by decide) kcL_13 cs_iae (Or.inr ⟨dL_lie_17, rfl⟩) (Nat.le_of_ble_eq_true rfl) (fun μ1 hq => ?_)
  refine J_iconst (v := 2) hT dL_lie_19 rfl ?_
  exact J_iret hT dL_lie_20 rfl rfl (⟨rfl, hq⟩) (Nat.le_of_eq (Nat.zero_add _)) (Nat.le_of_eq (Nat.zero_add _))

set_option maxRecDepth 100000 in
set_option maxHeartbeats 4000000 in
theorem w_lie_ise {l : Launch} {Z : zZ} (hZ : zSt l Z) {μ : zMem} {k mc ms : Nat} {a b : Int32} (h0 : zK μ 0 = 8 + 8) (hN : zNs Z) {Q : zMem → Prop} (ct : zCtX l Z mX8_lie k mc ms [.ref 0, .int a, .int b] μ "java/lang/IllegalStateException" Q) : zCtW l Z mL_lie hhL_lie (k + 1) mc ms [.ref 0, .int a, .int b, .ref 106] μ (fun r μx => r = some (.int 3) ∧ Q μx) := by
  refine zCtW_of hZ mpL_lie (Nat.le_of_ble_eq_true rfl) (L := [some (.ref 0), some (.int a), some (.int b), some (.ref 106), none]) rfl (fun τ hYW => ?_)
  have hY := hYW.1
  have hT := hY.1
  refine J_aload_n (i := 3) hT dL_lie_0 rfl rfl ?_
  refine J_iconst (v := 0) hT dL_lie_1 rfl ?_
  refine J_aload_n (i := 0) hT dL_lie_2 rfl rfl ?_
  refine J_iload_n (i := 1) hT dL_lie_3 rfl rfl ?_
  refine J_iload_n (i := 2) hT dL_lie_4 rfl rfl ?_
  refine J_callVC (ci := 8) (i := 4) (hpc := 21) (nx := 23) hYW dL_lie_5 mfX8_lie miX8_lie msX8_lie ⟨by decide, rfl⟩ h0 ct rfl (Nat.lt_succ_self _) rfl rfl (Nat.le_of_ble_eq_true rfl) (Nat.le_of_eq (Nat.zero_add _)) (Nat.le_of_eq (Nat.zero_add _)) mlL_47 [(0, 10, 13, 21), (0, 10, 17, 13)] [] 15 0 10 rfl (fun z hz => by
    rcases List.mem_cons.mp hz with rfl | hz
    · exact ⟨by decide, _, kcL_21, hN.2.1⟩
    · rcases List.mem_singleton.mp hz with rfl; exact ⟨by decide, _, kcL_13, hN.2.2⟩) (by decide) (by decide) kcL_15 cs_ise (Or.inr ⟨dL_lie_21, rfl⟩) (Nat.le_of_ble_eq_true rfl) (fun μ1 hq => ?_)
  refine J_iconst (v := 3) hT dL_lie_23 rfl ?_
  exact J_iret hT dL_lie_24 rfl rfl (⟨rfl, hq⟩) (Nat.le_of_eq (Nat.zero_add _)) (Nat.le_of_eq (Nat.zero_add _))

set_option maxRecDepth 100000 in
set_option maxHeartbeats 4000000 in
theorem w_mend {l : Launch} {Z : zZ} (hZ : zSt l Z) {μ : zMem} {σ : zS2} {π : zP2} {g : zG2} {k mc ms : Nat} {a : Int32} (h0 : zK μ 0 = 8 + 8) {Q : Int32 → zMem → Prop} (ct : zCt l Z mX8_mend k mc ms [.ref 0, .int a] (zA4 μ σ π g) (fun r μx => ∃ x, r = some (.int x) ∧ Q x μx)) (hQ : ∀ x μx, Q x μx → ∃ μ1 σ1 π1 g1, μx = zA4 μ1 σ1 π1 g1 ∧ zK μ1 106 = 3 ∧ zL μ1 106 = 1) : zCtW l Z mL_mend hhL_mend (k + 1) mc ms [.ref 0, .int a, .ref 106] (zA4 μ σ π g) (fun r μx => r = some (.int 0) ∧ ∃ x μ1 σ1 π1 g1, Q x (zA4 μ1 σ1 π1 g1) ∧ μx = zA4 μ1 σ1 π1 (zug g1 106 0 x.toInt64)) := by
  refine zCtW_of hZ mpL_mend (Nat.le_of_ble_eq_true rfl) (L := [some (.ref 0), some (.int a), some (.ref 106), none]) rfl (fun τ hYW => ?_)
  have hY := hYW.1
  have hT := hY.1
  refine J_aload_n (i := 2) hT dL_mend_0 rfl rfl ?_
  refine J_iconst (v := 0) hT dL_mend_1 rfl ?_
  refine J_aload_n (i := 0) hT dL_mend_2 rfl rfl ?_
  refine J_iload_n (i := 1) hT dL_mend_3 rfl rfl ?_
  refine J_callV (ci := 8) hY dL_mend_4 mfX8_mend miX8_mend msX8_mend kL_50 ⟨by decide, rfl⟩ h0 ct rfl (Nat.lt_succ_self _) rfl rfl (Nat.le_of_ble_eq_true rfl) (Nat.le_of_eq (Nat.zero_add _)) (Nat.le_of_eq (Nat.zero_add _)) (fun r1 μ1 hq => ?_)
  obtain ⟨x, rfl, hq⟩ := hq
  obtain ⟨μ1, σ1, π1, g1, rfl, k6, l6⟩ := hQ x _ hq
  show zJ _ _ _ _ (.int x :: _) _ _ _
  refine J_i2l hT dL_mend_7 ?_
  refine R_last hT dL_mend_8 k6 l6 (by first | exact ⟨rfl, by decide⟩ | exact zix_nI (by omega) (by decide) | assumption) ?_
  refine J_goto (tgt := 18) hT dL_mend_9 (by decide) ?_
  refine J_iconst (v := 0) hT dL_mend_18 rfl ?_
  exact J_iret hT dL_mend_19 rfl rfl (⟨rfl, x, μ1, σ1, π1, g1, hq, rfl⟩) (Nat.le_of_eq (Nat.zero_add _)) (Nat.le_of_eq (Nat.zero_add _))

set_option maxRecDepth 100000 in
set_option maxHeartbeats 4000000 in
theorem w_mend_iob {l : Launch} {Z : zZ} (hZ : zSt l Z) {μ : zMem} {k mc ms : Nat} {a : Int32} (h0 : zK μ 0 = 8 + 8) (hN : zNs Z) {Q : zMem → Prop} (ct : zCtX l Z mX8_mend k mc ms [.ref 0, .int a] μ "java/lang/IndexOutOfBoundsException" Q) : zCtW l Z mL_mend hhL_mend (k + 1) mc ms [.ref 0, .int a, .ref 106] μ (fun r μx => r = some (.int 1) ∧ Q μx) := by
  refine zCtW_of hZ mpL_mend (Nat.le_of_ble_eq_true rfl) (L := [some (.ref 0), some (.int a), some (.ref 106), none]) rfl (fun τ hYW => ?_)
  have hY := hYW.1
  have hT := hY.1
  refine J_aload_n (i := 2) hT dL_mend_0 rfl rfl ?_
  refine J_iconst (v := 0) hT dL_mend_1 rfl ?_
  refine J_aload_n (i := 0) hT dL_mend_2 rfl rfl ?_
  refine J_iload_n (i := 1) hT dL_mend_3 rfl rfl ?_
  refine J_callVC (ci := 8) (i := 3) (hpc := 12) (nx := 13) hYW dL_mend_4 mfX8_mend miX8_mend msX8_mend ⟨by decide, rfl⟩ h0 ct rfl (Nat.lt_succ_self _) rfl rfl (Nat.le_of_ble_eq_true rfl) (Nat.le_of_eq (Nat.zero_add _)) (Nat.le_of_eq (Nat.zero_add _)) mlL_50 [] [(0, 9, 15, 15)] 21 0 9 rfl (fun _ h => nomatch h) (by decide) (by decide) kcL_21 cs_iob (Or.inl ⟨_, dL_mend_12, rfl, rfl⟩) (Nat.le_of_ble_eq_true rfl) (fun μ1 hq => ?_)
  refine J_iconst (v := 1) hT dL_mend_13 rfl ?_
  exact J_iret hT dL_mend_14 rfl rfl (⟨rfl, hq⟩) (Nat.le_of_eq (Nat.zero_add _)) (Nat.le_of_eq (Nat.zero_add _))

set_option maxRecDepth 100000 in
set_option maxHeartbeats 4000000 in
theorem w_mend_ise {l : Launch} {Z : zZ} (hZ : zSt l Z) {μ : zMem} {k mc ms : Nat} {a : Int32} (h0 : zK μ 0 = 8 + 8) (hN : zNs Z) {Q : zMem → Prop} (ct : zCtX l Z mX8_mend k mc ms [.ref 0, .int a] μ "java/lang/IllegalStateException" Q) : zCtW l Z mL_mend hhL_mend (k + 1) mc ms [.ref 0, .int a, .ref 106] μ (fun r μx => r = some (.int 2) ∧ Q μx) := by
  refine zCtW_of hZ mpL_mend (Nat.le_of_ble_eq_true rfl) (L := [some (.ref 0), some (.int a), some (.ref 106), none]) rfl (fun τ hYW => ?_)
  have hY := hYW.1
  have hT := hY.1
  refine J_aload_n (i := 2) hT dL_mend_0 rfl rfl ?_
  refine J_iconst (v := 0) hT dL_mend_1 rfl ?_
  refine J_aload_n (i := 0) hT dL_mend_2 rfl rfl ?_
  refine J_iload_n (i := 1) hT dL_mend_3 rfl rfl ?_
  refine J_callVC (ci := 8) (i := 3) (hpc := 15) (nx := 16) hYW dL_mend_4 mfX8_mend miX8_mend msX8_mend ⟨by decide, rfl⟩ h0 ct rfl (Nat.lt_succ_self _) rfl rfl (Nat.le_of_ble_eq_true rfl) (Nat.le_of_eq (Nat.zero_add _)) (Nat.le_of_eq (Nat.zero_add _)) mlL_50 [(0, 9, 12, 21)] [] 15 0 9 rfl (fun z hz => by rcases List.mem_singleton.mp hz with rfl; exact ⟨by decide, _, kcL_21, hN.2.1⟩) (by decide) (by decide) kcL_15 cs_ise (Or.inl ⟨_, dL_mend_15, rfl, rfl⟩) (Nat.le_of_ble_eq_true rfl) (fun μ1 hq => ?_)
  refine J_iconst (v := 2) hT dL_mend_16 rfl ?_
  exact J_iret hT dL_mend_17 rfl rfl (⟨rfl, hq⟩) (Nat.le_of_eq (Nat.zero_add _)) (Nat.le_of_eq (Nat.zero_add _))

set_option maxRecDepth 100000 in
set_option maxHeartbeats 4000000 in
theorem w_tick {l : Launch} {Z : zZ} (hZ : zSt l Z) {μ : zMem} {σ : zS2} {π : zP2} {g : zG2} {k mc ms : Nat} {a : Int32} (h0 : zK μ 0 = 8 + 8) {Q : Int32 → zMem → Prop} (ct : zCt l Z mX8_tick k mc ms [.ref 0, .int a] (zA4 μ σ π g) (fun r μx => ∃ x, r = some (.int x) ∧ Q x μx)) (hQ : ∀ x μx, Q x μx → ∃ μ1 σ1 π1 g1, μx = zA4 μ1 σ1 π1 g1 ∧ zK μ1 106 = 3 ∧ zL μ1 106 = 1) : zCtW l Z mL_tick hhL_tick (k + 1) mc ms [.ref 0, .int a, .ref 106] (zA4 μ σ π g) (fun r μx => r = some (.int 0) ∧ ∃ x μ1 σ1 π1 g1, Q x (zA4 μ1 σ1 π1 g1) ∧ μx = zA4 μ1 σ1 π1 (zug g1 106 0 x.toInt64)) := by
  refine zCtW_of hZ mpL_tick (Nat.le_of_ble_eq_true rfl) (L := [some (.ref 0), some (.int a), some (.ref 106), none]) rfl (fun τ hYW => ?_)
  have hY := hYW.1
  have hT := hY.1
  refine J_aload_n (i := 2) hT dL_tick_0 rfl rfl ?_
  refine J_iconst (v := 0) hT dL_tick_1 rfl ?_
  refine J_aload_n (i := 0) hT dL_tick_2 rfl rfl ?_
  refine J_iload_n (i := 1) hT dL_tick_3 rfl rfl ?_
  refine J_callV (ci := 8) hY dL_tick_4 mfX8_tick miX8_tick msX8_tick kL_53 ⟨by decide, rfl⟩ h0 ct rfl (Nat.lt_succ_self _) rfl rfl (Nat.le_of_ble_eq_true rfl) (Nat.le_of_eq (Nat.zero_add _)) (Nat.le_of_eq (Nat.zero_add _)) (fun r1 μ1 hq => ?_)
  obtain ⟨x, rfl, hq⟩ := hq
  obtain ⟨μ1, σ1, π1, g1, rfl, k6, l6⟩ := hQ x _ hq
  show zJ _ _ _ _ (.int x :: _) _ _ _
  refine J_i2l hT dL_tick_7 ?_
  refine R_last hT dL_tick_8 k6 l6 (by first | exact ⟨rfl, by decide⟩ | exact zix_nI (by omega) (by decide) | assumption) ?_
  refine J_goto (tgt := 18) hT dL_tick_9 (by decide) ?_
  refine J_iconst (v := 0) hT dL_tick_18 rfl ?_
  exact J_iret hT dL_tick_19 rfl rfl (⟨rfl, x, μ1, σ1, π1, g1, hq, rfl⟩) (Nat.le_of_eq (Nat.zero_add _)) (Nat.le_of_eq (Nat.zero_add _))

set_option maxRecDepth 100000 in
set_option maxHeartbeats 4000000 in
theorem w_tick_iae {l : Launch} {Z : zZ} (hZ : zSt l Z) {μ : zMem} {k mc ms : Nat} {a : Int32} (h0 : zK μ 0 = 8 + 8) (hN : zNs Z) {Q : zMem → Prop} (ct : zCtX l Z mX8_tick k mc ms [.ref 0, .int a] μ "java/lang/IllegalArgumentException" Q) : zCtW l Z mL_tick hhL_tick (k + 1) mc ms [.ref 0, .int a, .ref 106] μ (fun r μx => r = some (.int 1) ∧ Q μx) := by
  refine zCtW_of hZ mpL_tick (Nat.le_of_ble_eq_true rfl) (L := [some (.ref 0), some (.int a), some (.ref 106), none]) rfl (fun τ hYW => ?_)
  have hY := hYW.1
  have hT := hY.1
  refine J_aload_n (i := 2) hT dL_tick_0 rfl rfl ?_
  refine J_iconst (v := 0) hT dL_tick_1 rfl ?_
  refine J_aload_n (i := 0) hT dL_tick_2 rfl rfl ?_
  refine J_iload_n (i := 1) hT dL_tick_3 rfl rfl ?_
  refine J_callVC (ci := 8) (i := 3) (hpc := 12) (nx := 13) hYW dL_tick_4 mfX8_tick miX8_tick msX8_tick ⟨by decide, rfl⟩ h0 ct rfl (Nat.lt_succ_self _) rfl rfl (Nat.le_of_ble_eq_true rfl) (Nat.le_of_eq (Nat.zero_add _)) (Nat.le_of_eq (Nat.zero_add _)) mlL_53 [] [(0, 9, 15, 15)] 13 0 9 rfl (fun _ h => nomatch h) (by decide) (by decide) kcL_13 cs_iae (Or.inl ⟨_, dL_tick_12, rfl, rfl⟩) (Nat.le_of_ble_eq_true rfl) (fun μ1 hq => ?_)
  refine J_iconst (v := 1) hT dL_tick_13 rfl ?_
  exact J_iret hT dL_tick_14 rfl rfl (⟨rfl, hq⟩) (Nat.le_of_eq (Nat.zero_add _)) (Nat.le_of_eq (Nat.zero_add _))

set_option maxRecDepth 100000 in
set_option maxHeartbeats 4000000 in
theorem w_tick_ise {l : Launch} {Z : zZ} (hZ : zSt l Z) {μ : zMem} {k mc ms : Nat} {a : Int32} (h0 : zK μ 0 = 8 + 8) (hN : zNs Z) {Q : zMem → Prop} (ct : zCtX l Z mX8_tick k mc ms [.ref 0, .int a] μ "java/lang/IllegalStateException" Q) : zCtW l Z mL_tick hhL_tick (k + 1) mc ms [.ref 0, .int a, .ref 106] μ (fun r μx => r = some (.int 2) ∧ Q μx) := by
  refine zCtW_of hZ mpL_tick (Nat.le_of_ble_eq_true rfl) (L := [some (.ref 0), some (.int a), some (.ref 106), none]) rfl (fun τ hYW => ?_)
  have hY := hYW.1
  have hT := hY.1
  refine J_aload_n (i := 2) hT dL_tick_0 rfl rfl ?_
  refine J_iconst (v := 0) hT dL_tick_1 rfl ?_
  refine J_aload_n (i := 0) hT dL_tick_2 rfl rfl ?_
  refine J_iload_n (i := 1) hT dL_tick_3 rfl rfl ?_
  refine J_callVC (ci := 8) (i := 3) (hpc := 15) (nx := 16) hYW dL_tick_4 mfX8_tick miX8_tick msX8_tick ⟨by decide, rfl⟩ h0 ct rfl (Nat.lt_succ_self _) rfl rfl (Nat.le_of_ble_eq_true rfl) (Nat.le_of_eq (Nat.zero_add _)) (Nat.le_of_eq (Nat.zero_add _)) mlL_53 [(0, 9, 12, 13)] [] 15 0 9 rfl (fun z hz => by rcases List.mem_singleton.mp hz with rfl; exact ⟨by decide, _, kcL_13, hN.2.2⟩) (by decide) (by decide) kcL_15 cs_ise (Or.inl ⟨_, dL_tick_15, rfl, rfl⟩) (Nat.le_of_ble_eq_true rfl) (fun μ1 hq => ?_)
  refine J_iconst (v := 2) hT dL_tick_16 rfl ?_
  exact J_iret hT dL_tick_17 rfl rfl (⟨rfl, hq⟩) (Nat.le_of_eq (Nat.zero_add _)) (Nat.le_of_eq (Nat.zero_add _))

set_option maxRecDepth 100000 in
set_option maxHeartbeats 4000000 in
theorem w_undo {l : Launch} {Z : zZ} (hZ : zSt l Z) {μ : zMem} {σ : zS2} {π : zP2} {g : zG2} {k mc ms : Nat} (h0 : zK μ 0 = 8 + 8) {Q : Int32 → zMem → Prop} (ct : zCt l Z mX8_undo k mc ms [.ref 0] (zA4 μ σ π g) (fun r μx => ∃ x, r = some (.int x) ∧ Q x μx)) (hQ : ∀ x μx, Q x μx → ∃ μ1 σ1 π1 g1, μx = zA4 μ1 σ1 π1 g1 ∧ zK μ1 106 = 3 ∧ zL μ1 106 = 1) : zCtW l Z mL_undo hhL_undo (k + 1) mc ms [.ref 0, .ref 106] (zA4 μ σ π g) (fun r μx => r = some (.int 0) ∧ ∃ x μ1 σ1 π1 g1, Q x (zA4 μ1 σ1 π1 g1) ∧ μx = zA4 μ1 σ1 π1 (zug g1 106 0 x.toInt64)) := by
  refine zCtW_of hZ mpL_undo (Nat.le_of_ble_eq_true rfl) (L := [some (.ref 0), some (.ref 106), none]) rfl (fun τ hYW => ?_)
  have hY := hYW.1
  have hT := hY.1
  refine J_aload_n (i := 1) hT dL_undo_0 rfl rfl ?_
  refine J_iconst (v := 0) hT dL_undo_1 rfl ?_
  refine J_aload_n (i := 0) hT dL_undo_2 rfl rfl ?_
  refine J_callV (ci := 8) hY dL_undo_3 mfX8_undo miX8_undo msX8_undo kL_56 ⟨by decide, rfl⟩ h0 ct rfl (Nat.lt_succ_self _) rfl rfl (Nat.le_of_ble_eq_true rfl) (Nat.le_of_eq (Nat.zero_add _)) (Nat.le_of_eq (Nat.zero_add _)) (fun r1 μ1 hq => ?_)
  obtain ⟨x, rfl, hq⟩ := hq
  obtain ⟨μ1, σ1, π1, g1, rfl, k6, l6⟩ := hQ x _ hq
  show zJ _ _ _ _ (.int x :: _) _ _ _
  refine J_i2l hT dL_undo_6 ?_
  refine R_last hT dL_undo_7 k6 l6 (by first | exact ⟨rfl, by decide⟩ | exact zix_nI (by omega) (by decide) | assumption) ?_
  refine J_goto (tgt := 14) hT dL_undo_8 (by decide) ?_
  refine J_iconst (v := 0) hT dL_undo_14 rfl ?_
  exact J_iret hT dL_undo_15 rfl rfl (⟨rfl, x, μ1, σ1, π1, g1, hq, rfl⟩) (Nat.le_of_eq (Nat.zero_add _)) (Nat.le_of_eq (Nat.zero_add _))

set_option maxRecDepth 100000 in
set_option maxHeartbeats 4000000 in
theorem w_undo_ise {l : Launch} {Z : zZ} (hZ : zSt l Z) {μ : zMem} {k mc ms : Nat} (h0 : zK μ 0 = 8 + 8) (hN : zNs Z) {Q : zMem → Prop} (ct : zCtX l Z mX8_undo k mc ms [.ref 0] μ "java/lang/IllegalStateException" Q) : zCtW l Z mL_undo hhL_undo (k + 1) mc ms [.ref 0, .ref 106] μ (fun r μx => r = some (.int 1) ∧ Q μx) := by
  refine zCtW_of hZ mpL_undo (Nat.le_of_ble_eq_true rfl) (L := [some (.ref 0), some (.ref 106), none]) rfl (fun τ hYW => ?_)
  have hY := hYW.1
  have hT := hY.1
  refine J_aload_n (i := 1) hT dL_undo_0 rfl rfl ?_
  refine J_iconst (v := 0) hT dL_undo_1 rfl ?_
  refine J_aload_n (i := 0) hT dL_undo_2 rfl rfl ?_
  refine J_callVC (ci := 8) (i := 2) (hpc := 11) (nx := 12) hYW dL_undo_3 mfX8_undo miX8_undo msX8_undo ⟨by decide, rfl⟩ h0 ct rfl (Nat.lt_succ_self _) rfl rfl (Nat.le_of_ble_eq_true rfl) (Nat.le_of_eq (Nat.zero_add _)) (Nat.le_of_eq (Nat.zero_add _)) mlL_56 [] [] 15 0 8 rfl (fun _ h => nomatch h) (by decide) (by decide) kcL_15 cs_ise (Or.inl ⟨_, dL_undo_11, rfl, rfl⟩) (Nat.le_of_ble_eq_true rfl) (fun μ1 hq => ?_)
  refine J_iconst (v := 1) hT dL_undo_12 rfl ?_
  exact J_iret hT dL_undo_13 rfl rfl (⟨rfl, hq⟩) (Nat.le_of_eq (Nat.zero_add _)) (Nat.le_of_eq (Nat.zero_add _))

set_option maxRecDepth 100000 in
set_option maxHeartbeats 4000000 in
theorem w_value {l : Launch} {Z : zZ} (hZ : zSt l Z) {μ : zMem} {σ : zS2} {π : zP2} {g : zG2} {k mc ms : Nat} {a : Int32} (h0 : zK μ 0 = 8 + 8) {Q : Int32 → zMem → Prop} (ct : zCt l Z mX8_value k mc ms [.ref 0, .int a] (zA4 μ σ π g) (fun r μx => ∃ x, r = some (.int x) ∧ Q x μx)) (hQ : ∀ x μx, Q x μx → ∃ μ1 σ1 π1 g1, μx = zA4 μ1 σ1 π1 g1 ∧ zK μ1 106 = 3 ∧ zL μ1 106 = 1) : zCtW l Z mL_value hhL_value (k + 1) mc ms [.ref 0, .int a, .ref 106] (zA4 μ σ π g) (fun r μx => r = some (.int 0) ∧ ∃ x μ1 σ1 π1 g1, Q x (zA4 μ1 σ1 π1 g1) ∧ μx = zA4 μ1 σ1 π1 (zug g1 106 0 x.toInt64)) := by
  refine zCtW_of hZ mpL_value (Nat.le_of_ble_eq_true rfl) (L := [some (.ref 0), some (.int a), some (.ref 106), none]) rfl (fun τ hYW => ?_)
  have hY := hYW.1
  have hT := hY.1
  refine J_aload_n (i := 2) hT dL_value_0 rfl rfl ?_
  refine J_iconst (v := 0) hT dL_value_1 rfl ?_
  refine J_aload_n (i := 0) hT dL_value_2 rfl rfl ?_
  refine J_iload_n (i := 1) hT dL_value_3 rfl rfl ?_
  refine J_callV (ci := 8) hY dL_value_4 mfX8_value miX8_value msX8_value kL_60 ⟨by decide, rfl⟩ h0 ct rfl (Nat.lt_succ_self _) rfl rfl (Nat.le_of_ble_eq_true rfl) (Nat.le_of_eq (Nat.zero_add _)) (Nat.le_of_eq (Nat.zero_add _)) (fun r1 μ1 hq => ?_)
  obtain ⟨x, rfl, hq⟩ := hq
  obtain ⟨μ1, σ1, π1, g1, rfl, k6, l6⟩ := hQ x _ hq
  show zJ _ _ _ _ (.int x :: _) _ _ _
  refine J_i2l hT dL_value_7 ?_
  refine R_last hT dL_value_8 k6 l6 (by first | exact ⟨rfl, by decide⟩ | exact zix_nI (by omega) (by decide) | assumption) ?_
  refine J_goto (tgt := 15) hT dL_value_9 (by decide) ?_
  refine J_iconst (v := 0) hT dL_value_15 rfl ?_
  exact J_iret hT dL_value_16 rfl rfl (⟨rfl, x, μ1, σ1, π1, g1, hq, rfl⟩) (Nat.le_of_eq (Nat.zero_add _)) (Nat.le_of_eq (Nat.zero_add _))

set_option maxRecDepth 100000 in
set_option maxHeartbeats 4000000 in
theorem w_value_iob {l : Launch} {Z : zZ} (hZ : zSt l Z) {μ : zMem} {k mc ms : Nat} {a : Int32} (h0 : zK μ 0 = 8 + 8) (hN : zNs Z) {Q : zMem → Prop} (ct : zCtX l Z mX8_value k mc ms [.ref 0, .int a] μ "java/lang/IndexOutOfBoundsException" Q) : zCtW l Z mL_value hhL_value (k + 1) mc ms [.ref 0, .int a, .ref 106] μ (fun r μx => r = some (.int 1) ∧ Q μx) := by
  refine zCtW_of hZ mpL_value (Nat.le_of_ble_eq_true rfl) (L := [some (.ref 0), some (.int a), some (.ref 106), none]) rfl (fun τ hYW => ?_)
  have hY := hYW.1
  have hT := hY.1
  refine J_aload_n (i := 2) hT dL_value_0 rfl rfl ?_
  refine J_iconst (v := 0) hT dL_value_1 rfl ?_
  refine J_aload_n (i := 0) hT dL_value_2 rfl rfl ?_
  refine J_iload_n (i := 1) hT dL_value_3 rfl rfl ?_
  refine J_callVC (ci := 8) (i := 3) (hpc := 12) (nx := 13) hYW dL_value_4 mfX8_value miX8_value msX8_value ⟨by decide, rfl⟩ h0 ct rfl (Nat.lt_succ_self _) rfl rfl (Nat.le_of_ble_eq_true rfl) (Nat.le_of_eq (Nat.zero_add _)) (Nat.le_of_eq (Nat.zero_add _)) mlL_60 [] [] 21 0 9 rfl (fun _ h => nomatch h) (by decide) (by decide) kcL_21 cs_iob (Or.inl ⟨_, dL_value_12, rfl, rfl⟩) (Nat.le_of_ble_eq_true rfl) (fun μ1 hq => ?_)
  refine J_iconst (v := 1) hT dL_value_13 rfl ?_
  exact J_iret hT dL_value_14 rfl rfl (⟨rfl, hq⟩) (Nat.le_of_eq (Nat.zero_add _)) (Nat.le_of_eq (Nat.zero_add _))

set_option maxRecDepth 100000 in
set_option maxHeartbeats 4000000 in
theorem w_valueAnew {l : Launch} {Z : zZ} (hZ : zSt l Z) {μ : zMem} {σ : zS2} {π : zP2} {g : zG2} {k mc ms : Nat} {a : Int32} (h0 : zK μ 0 = 8 + 8) {Q : Int32 → zMem → Prop} (ct : zCt l Z mX8_valueAnew k mc ms [.ref 0, .int a] (zA4 μ σ π g) (fun r μx => ∃ x, r = some (.int x) ∧ Q x μx)) (hQ : ∀ x μx, Q x μx → ∃ μ1 σ1 π1 g1, μx = zA4 μ1 σ1 π1 g1 ∧ zK μ1 106 = 3 ∧ zL μ1 106 = 1) : zCtW l Z mL_valueAnew hhL_valueAnew (k + 1) mc ms [.ref 0, .int a, .ref 106] (zA4 μ σ π g) (fun r μx => r = some (.int 0) ∧ ∃ x μ1 σ1 π1 g1, Q x (zA4 μ1 σ1 π1 g1) ∧ μx = zA4 μ1 σ1 π1 (zug g1 106 0 x.toInt64)) := by
  refine zCtW_of hZ mpL_valueAnew (Nat.le_of_ble_eq_true rfl) (L := [some (.ref 0), some (.int a), some (.ref 106), none]) rfl (fun τ hYW => ?_)
  have hY := hYW.1
  have hT := hY.1
  refine J_aload_n (i := 2) hT dL_valueAnew_0 rfl rfl ?_
  refine J_iconst (v := 0) hT dL_valueAnew_1 rfl ?_
  refine J_aload_n (i := 0) hT dL_valueAnew_2 rfl rfl ?_
  refine J_iload_n (i := 1) hT dL_valueAnew_3 rfl rfl ?_
  refine J_callV (ci := 8) hY dL_valueAnew_4 mfX8_valueAnew miX8_valueAnew msX8_valueAnew kL_63 ⟨by decide, rfl⟩ h0 ct rfl (Nat.lt_succ_self _) rfl rfl (Nat.le_of_ble_eq_true rfl) (Nat.le_of_eq (Nat.zero_add _)) (Nat.le_of_eq (Nat.zero_add _)) (fun r1 μ1 hq => ?_)
  obtain ⟨x, rfl, hq⟩ := hq
  obtain ⟨μ1, σ1, π1, g1, rfl, k6, l6⟩ := hQ x _ hq
  show zJ _ _ _ _ (.int x :: _) _ _ _
  refine J_i2l hT dL_valueAnew_7 ?_
  refine R_last hT dL_valueAnew_8 k6 l6 (by first | exact ⟨rfl, by decide⟩ | exact zix_nI (by omega) (by decide) | assumption) ?_
  refine J_goto (tgt := 15) hT dL_valueAnew_9 (by decide) ?_
  refine J_iconst (v := 0) hT dL_valueAnew_15 rfl ?_
  exact J_iret hT dL_valueAnew_16 rfl rfl (⟨rfl, x, μ1, σ1, π1, g1, hq, rfl⟩) (Nat.le_of_eq (Nat.zero_add _)) (Nat.le_of_eq (Nat.zero_add _))

set_option maxRecDepth 100000 in
set_option maxHeartbeats 4000000 in
theorem w_valueAnew_iob {l : Launch} {Z : zZ} (hZ : zSt l Z) {μ : zMem} {k mc ms : Nat} {a : Int32} (h0 : zK μ 0 = 8 + 8) (hN : zNs Z) {Q : zMem → Prop} (ct : zCtX l Z mX8_valueAnew k mc ms [.ref 0, .int a] μ "java/lang/IndexOutOfBoundsException" Q) : zCtW l Z mL_valueAnew hhL_valueAnew (k + 1) mc ms [.ref 0, .int a, .ref 106] μ (fun r μx => r = some (.int 1) ∧ Q μx) := by
  refine zCtW_of hZ mpL_valueAnew (Nat.le_of_ble_eq_true rfl) (L := [some (.ref 0), some (.int a), some (.ref 106), none]) rfl (fun τ hYW => ?_)
  have hY := hYW.1
  have hT := hY.1
  refine J_aload_n (i := 2) hT dL_valueAnew_0 rfl rfl ?_
  refine J_iconst (v := 0) hT dL_valueAnew_1 rfl ?_
  refine J_aload_n (i := 0) hT dL_valueAnew_2 rfl rfl ?_
  refine J_iload_n (i := 1) hT dL_valueAnew_3 rfl rfl ?_
  refine J_callVC (ci := 8) (i := 3) (hpc := 12) (nx := 13) hYW dL_valueAnew_4 mfX8_valueAnew miX8_valueAnew msX8_valueAnew ⟨by decide, rfl⟩ h0 ct rfl (Nat.lt_succ_self _) rfl rfl (Nat.le_of_ble_eq_true rfl) (Nat.le_of_eq (Nat.zero_add _)) (Nat.le_of_eq (Nat.zero_add _)) mlL_63 [] [] 21 0 9 rfl (fun _ h => nomatch h) (by decide) (by decide) kcL_21 cs_iob (Or.inl ⟨_, dL_valueAnew_12, rfl, rfl⟩) (Nat.le_of_ble_eq_true rfl) (fun μ1 hq => ?_)
  refine J_iconst (v := 1) hT dL_valueAnew_13 rfl ?_
  exact J_iret hT dL_valueAnew_14 rfl rfl (⟨rfl, hq⟩) (Nat.le_of_eq (Nat.zero_add _)) (Nat.le_of_eq (Nat.zero_add _))

set_option maxRecDepth 100000 in
set_option maxHeartbeats 4000000 in
theorem w_worth {l : Launch} {Z : zZ} (hZ : zSt l Z) {μ : zMem} {σ : zS2} {π : zP2} {g : zG2} {k mc ms : Nat} {a : Int32} (h0 : zK μ 0 = 8 + 8) {Q : Int32 → zMem → Prop} (ct : zCt l Z mX8_worth k mc ms [.ref 0, .int a] (zA4 μ σ π g) (fun r μx => ∃ x, r = some (.int x) ∧ Q x μx)) (hQ : ∀ x μx, Q x μx → ∃ μ1 σ1 π1 g1, μx = zA4 μ1 σ1 π1 g1 ∧ zK μ1 106 = 3 ∧ zL μ1 106 = 1) : zCtW l Z mL_worth hhL_worth (k + 1) mc ms [.ref 0, .int a, .ref 106] (zA4 μ σ π g) (fun r μx => r = some (.int 0) ∧ ∃ x μ1 σ1 π1 g1, Q x (zA4 μ1 σ1 π1 g1) ∧ μx = zA4 μ1 σ1 π1 (zug g1 106 0 x.toInt64)) := by
  refine zCtW_of hZ mpL_worth (Nat.le_of_ble_eq_true rfl) (L := [some (.ref 0), some (.int a), some (.ref 106), none]) rfl (fun τ hYW => ?_)
  have hY := hYW.1
  have hT := hY.1
  refine J_aload_n (i := 2) hT dL_worth_0 rfl rfl ?_
  refine J_iconst (v := 0) hT dL_worth_1 rfl ?_
  refine J_aload_n (i := 0) hT dL_worth_2 rfl rfl ?_
  refine J_iload_n (i := 1) hT dL_worth_3 rfl rfl ?_
  refine J_callV (ci := 8) hY dL_worth_4 mfX8_worth miX8_worth msX8_worth kL_66 ⟨by decide, rfl⟩ h0 ct rfl (Nat.lt_succ_self _) rfl rfl (Nat.le_of_ble_eq_true rfl) (Nat.le_of_eq (Nat.zero_add _)) (Nat.le_of_eq (Nat.zero_add _)) (fun r1 μ1 hq => ?_)
  obtain ⟨x, rfl, hq⟩ := hq
  obtain ⟨μ1, σ1, π1, g1, rfl, k6, l6⟩ := hQ x _ hq
  show zJ _ _ _ _ (.int x :: _) _ _ _
  refine J_i2l hT dL_worth_7 ?_
  refine R_last hT dL_worth_8 k6 l6 (by first | exact ⟨rfl, by decide⟩ | exact zix_nI (by omega) (by decide) | assumption) ?_
  refine J_goto (tgt := 15) hT dL_worth_9 (by decide) ?_
  refine J_iconst (v := 0) hT dL_worth_15 rfl ?_
  exact J_iret hT dL_worth_16 rfl rfl (⟨rfl, x, μ1, σ1, π1, g1, hq, rfl⟩) (Nat.le_of_eq (Nat.zero_add _)) (Nat.le_of_eq (Nat.zero_add _))

set_option maxRecDepth 100000 in
set_option maxHeartbeats 4000000 in
theorem w_worth_iob {l : Launch} {Z : zZ} (hZ : zSt l Z) {μ : zMem} {k mc ms : Nat} {a : Int32} (h0 : zK μ 0 = 8 + 8) (hN : zNs Z) {Q : zMem → Prop} (ct : zCtX l Z mX8_worth k mc ms [.ref 0, .int a] μ "java/lang/IndexOutOfBoundsException" Q) : zCtW l Z mL_worth hhL_worth (k + 1) mc ms [.ref 0, .int a, .ref 106] μ (fun r μx => r = some (.int 1) ∧ Q μx) := by
  refine zCtW_of hZ mpL_worth (Nat.le_of_ble_eq_true rfl) (L := [some (.ref 0), some (.int a), some (.ref 106), none]) rfl (fun τ hYW => ?_)
  have hY := hYW.1
  have hT := hY.1
  refine J_aload_n (i := 2) hT dL_worth_0 rfl rfl ?_
  refine J_iconst (v := 0) hT dL_worth_1 rfl ?_
  refine J_aload_n (i := 0) hT dL_worth_2 rfl rfl ?_
  refine J_iload_n (i := 1) hT dL_worth_3 rfl rfl ?_
  refine J_callVC (ci := 8) (i := 3) (hpc := 12) (nx := 13) hYW dL_worth_4 mfX8_worth miX8_worth msX8_worth ⟨by decide, rfl⟩ h0 ct rfl (Nat.lt_succ_self _) rfl rfl (Nat.le_of_ble_eq_true rfl) (Nat.le_of_eq (Nat.zero_add _)) (Nat.le_of_eq (Nat.zero_add _)) mlL_66 [] [] 21 0 9 rfl (fun _ h => nomatch h) (by decide) (by decide) kcL_21 cs_iob (Or.inl ⟨_, dL_worth_12, rfl, rfl⟩) (Nat.le_of_ble_eq_true rfl) (fun μ1 hq => ?_)
  refine J_iconst (v := 1) hT dL_worth_13 rfl ?_
  exact J_iret hT dL_worth_14 rfl rfl (⟨rfl, hq⟩) (Nat.le_of_eq (Nat.zero_add _)) (Nat.le_of_eq (Nat.zero_add _))

set_option maxRecDepth 100000 in
set_option maxHeartbeats 4000000 in
theorem w_depth {l : Launch} {Z : zZ} (hZ : zSt l Z) {μ : zMem} {σ : zS2} {π : zP2} {g : zG2} {k mc ms : Nat} {a : Int32} (h0 : zK μ 0 = 8 + 8) {Q : Int32 → zMem → Prop} (ct : zCt l Z mX8_depth k mc ms [.ref 0, .int a] (zA4 μ σ π g) (fun r μx => ∃ x, r = some (.int x) ∧ Q x μx)) (hQ : ∀ x μx, Q x μx → ∃ μ1 σ1 π1 g1, μx = zA4 μ1 σ1 π1 g1 ∧ zK μ1 106 = 3 ∧ zL μ1 106 = 1) : zCtW l Z mL_depth hhL_depth (k + 1) mc ms [.ref 0, .int a, .ref 106] (zA4 μ σ π g) (fun r μx => r = some (.int 0) ∧ ∃ x μ1 σ1 π1 g1, Q x (zA4 μ1 σ1 π1 g1) ∧ μx = zA4 μ1 σ1 π1 (zug g1 106 0 x.toInt64)) := by
  refine zCtW_of hZ mpL_depth (Nat.le_of_ble_eq_true rfl) (L := [some (.ref 0), some (.int a), some (.ref 106), none]) rfl (fun τ hYW => ?_)
  have hY := hYW.1
  have hT := hY.1
  refine J_aload_n (i := 2) hT dL_depth_0 rfl rfl ?_
  refine J_iconst (v := 0) hT dL_depth_1 rfl ?_
  refine J_aload_n (i := 0) hT dL_depth_2 rfl rfl ?_
  refine J_iload_n (i := 1) hT dL_depth_3 rfl rfl ?_
  refine J_callV (ci := 8) hY dL_depth_4 mfX8_depth miX8_depth msX8_depth kL_69 ⟨by decide, rfl⟩ h0 ct rfl (Nat.lt_succ_self _) rfl rfl (Nat.le_of_ble_eq_true rfl) (Nat.le_of_eq (Nat.zero_add _)) (Nat.le_of_eq (Nat.zero_add _)) (fun r1 μ1 hq => ?_)
  obtain ⟨x, rfl, hq⟩ := hq
  obtain ⟨μ1, σ1, π1, g1, rfl, k6, l6⟩ := hQ x _ hq
  show zJ _ _ _ _ (.int x :: _) _ _ _
  refine J_i2l hT dL_depth_7 ?_
  refine R_last hT dL_depth_8 k6 l6 (by first | exact ⟨rfl, by decide⟩ | exact zix_nI (by omega) (by decide) | assumption) ?_
  refine J_goto (tgt := 15) hT dL_depth_9 (by decide) ?_
  refine J_iconst (v := 0) hT dL_depth_15 rfl ?_
  exact J_iret hT dL_depth_16 rfl rfl (⟨rfl, x, μ1, σ1, π1, g1, hq, rfl⟩) (Nat.le_of_eq (Nat.zero_add _)) (Nat.le_of_eq (Nat.zero_add _))

set_option maxRecDepth 100000 in
set_option maxHeartbeats 4000000 in
theorem w_depth_iob {l : Launch} {Z : zZ} (hZ : zSt l Z) {μ : zMem} {k mc ms : Nat} {a : Int32} (h0 : zK μ 0 = 8 + 8) (hN : zNs Z) {Q : zMem → Prop} (ct : zCtX l Z mX8_depth k mc ms [.ref 0, .int a] μ "java/lang/IndexOutOfBoundsException" Q) : zCtW l Z mL_depth hhL_depth (k + 1) mc ms [.ref 0, .int a, .ref 106] μ (fun r μx => r = some (.int 1) ∧ Q μx) := by
  refine zCtW_of hZ mpL_depth (Nat.le_of_ble_eq_true rfl) (L := [some (.ref 0), some (.int a), some (.ref 106), none]) rfl (fun τ hYW => ?_)
  have hY := hYW.1
  have hT := hY.1
  refine J_aload_n (i := 2) hT dL_depth_0 rfl rfl ?_
  refine J_iconst (v := 0) hT dL_depth_1 rfl ?_
  refine J_aload_n (i := 0) hT dL_depth_2 rfl rfl ?_
  refine J_iload_n (i := 1) hT dL_depth_3 rfl rfl ?_
  refine J_callVC (ci := 8) (i := 3) (hpc := 12) (nx := 13) hYW dL_depth_4 mfX8_depth miX8_depth msX8_depth ⟨by decide, rfl⟩ h0 ct rfl (Nat.lt_succ_self _) rfl rfl (Nat.le_of_ble_eq_true rfl) (Nat.le_of_eq (Nat.zero_add _)) (Nat.le_of_eq (Nat.zero_add _)) mlL_69 [] [] 21 0 9 rfl (fun _ h => nomatch h) (by decide) (by decide) kcL_21 cs_iob (Or.inl ⟨_, dL_depth_12, rfl, rfl⟩) (Nat.le_of_ble_eq_true rfl) (fun μ1 hq => ?_)
  refine J_iconst (v := 1) hT dL_depth_13 rfl ?_
  exact J_iret hT dL_depth_14 rfl rfl (⟨rfl, hq⟩) (Nat.le_of_eq (Nat.zero_add _)) (Nat.le_of_eq (Nat.zero_add _))

set_option maxRecDepth 100000 in
set_option maxHeartbeats 4000000 in
theorem w_isStale {l : Launch} {Z : zZ} (hZ : zSt l Z) {μ : zMem} {σ : zS2} {π : zP2} {g : zG2} {k mc ms : Nat} {a : Int32} (h0 : zK μ 0 = 8 + 8) {Q : Int32 → zMem → Prop} (ct : zCt l Z mX8_isStale k mc ms [.ref 0, .int a] (zA4 μ σ π g) (fun r μx => ∃ x, r = some (.int x) ∧ Q x μx)) (hQ : ∀ x μx, Q x μx → ∃ μ1 σ1 π1 g1, μx = zA4 μ1 σ1 π1 g1 ∧ zK μ1 106 = 3 ∧ zL μ1 106 = 1) : zCtW l Z mL_isStale hhL_isStale (k + 1) mc ms [.ref 0, .int a, .ref 106] (zA4 μ σ π g) (fun r μx => r = some (.int 0) ∧ ∃ x μ1 σ1 π1 g1, Q x (zA4 μ1 σ1 π1 g1) ∧ μx = zA4 μ1 σ1 π1 (zug g1 106 0 (if x = 0 then 0 else 1))) := by
  refine zCtW_of hZ mpL_isStale (Nat.le_of_ble_eq_true rfl) (L := [some (.ref 0), some (.int a), some (.ref 106), none]) rfl (fun τ hYW => ?_)
  have hY := hYW.1
  have hT := hY.1
  refine J_aload_n (i := 2) hT dL_isStale_0 rfl rfl ?_
  refine J_iconst (v := 0) hT dL_isStale_1 rfl ?_
  refine J_aload_n (i := 0) hT dL_isStale_2 rfl rfl ?_
  refine J_iload_n (i := 1) hT dL_isStale_3 rfl rfl ?_
  refine J_callV (ci := 8) hY dL_isStale_4 mfX8_isStale miX8_isStale msX8_isStale kL_72 ⟨by decide, rfl⟩ h0 ct rfl (Nat.lt_succ_self _) rfl rfl (Nat.le_of_ble_eq_true rfl) (Nat.le_of_eq (Nat.zero_add _)) (Nat.le_of_eq (Nat.zero_add _)) (fun r1 μ1 hq => ?_)
  obtain ⟨x, rfl, hq⟩ := hq
  obtain ⟨μ1, σ1, π1, g1, rfl, k6, l6⟩ := hQ x _ hq
  show zJ _ _ _ _ (.int x :: _) _ _ _
  refine J_if_eq (tgt := 14) hT dL_isStale_7 (by decide) (fun q7 => ?_) (fun q7 => ?_)
  · refine J_lconst (v := 0) hT dL_isStale_14 rfl ?_
    refine R_last hT dL_isStale_15 k6 l6 (by first | exact ⟨rfl, by decide⟩ | exact zix_nI (by omega) (by decide) | assumption) ?_
    refine J_goto (tgt := 22) hT dL_isStale_16 (by decide) ?_
    refine J_iconst (v := 0) hT dL_isStale_22 rfl ?_
    exact J_iret hT dL_isStale_23 rfl rfl (⟨rfl, x, μ1, σ1, π1, g1, hq, by first | (rw [if_pos q7]; rfl) | (rw [if_neg q7]; rfl)⟩) (Nat.le_of_eq (Nat.zero_add _)) (Nat.le_of_eq (Nat.zero_add _))
  · refine J_lconst (v := 1) hT dL_isStale_10 rfl ?_
    refine J_goto (tgt := 15) hT dL_isStale_11 (by decide) ?_
    refine R_last hT dL_isStale_15 k6 l6 (by first | exact ⟨rfl, by decide⟩ | exact zix_nI (by omega) (by decide) | assumption) ?_
    refine J_goto (tgt := 22) hT dL_isStale_16 (by decide) ?_
    refine J_iconst (v := 0) hT dL_isStale_22 rfl ?_
    exact J_iret hT dL_isStale_23 rfl rfl (⟨rfl, x, μ1, σ1, π1, g1, hq, by first | (rw [if_pos q7]; rfl) | (rw [if_neg q7]; rfl)⟩) (Nat.le_of_eq (Nat.zero_add _)) (Nat.le_of_eq (Nat.zero_add _))

set_option maxRecDepth 100000 in
set_option maxHeartbeats 4000000 in
theorem w_isStale_iob {l : Launch} {Z : zZ} (hZ : zSt l Z) {μ : zMem} {k mc ms : Nat} {a : Int32} (h0 : zK μ 0 = 8 + 8) (hN : zNs Z) {Q : zMem → Prop} (ct : zCtX l Z mX8_isStale k mc ms [.ref 0, .int a] μ "java/lang/IndexOutOfBoundsException" Q) : zCtW l Z mL_isStale hhL_isStale (k + 1) mc ms [.ref 0, .int a, .ref 106] μ (fun r μx => r = some (.int 1) ∧ Q μx) := by
  refine zCtW_of hZ mpL_isStale (Nat.le_of_ble_eq_true rfl) (L := [some (.ref 0), some (.int a), some (.ref 106), none]) rfl (fun τ hYW => ?_)
  have hY := hYW.1
  have hT := hY.1
  refine J_aload_n (i := 2) hT dL_isStale_0 rfl rfl ?_
  refine J_iconst (v := 0) hT dL_isStale_1 rfl ?_
  refine J_aload_n (i := 0) hT dL_isStale_2 rfl rfl ?_
  refine J_iload_n (i := 1) hT dL_isStale_3 rfl rfl ?_
  refine J_callVC (ci := 8) (i := 3) (hpc := 19) (nx := 20) hYW dL_isStale_4 mfX8_isStale miX8_isStale msX8_isStale ⟨by decide, rfl⟩ h0 ct rfl (Nat.lt_succ_self _) rfl rfl (Nat.le_of_ble_eq_true rfl) (Nat.le_of_eq (Nat.zero_add _)) (Nat.le_of_eq (Nat.zero_add _)) mlL_72 [] [] 21 0 16 rfl (fun _ h => nomatch h) (by decide) (by decide) kcL_21 cs_iob (Or.inl ⟨_, dL_isStale_19, rfl, rfl⟩) (Nat.le_of_ble_eq_true rfl) (fun μ1 hq => ?_)
  refine J_iconst (v := 1) hT dL_isStale_20 rfl ?_
  exact J_iret hT dL_isStale_21 rfl rfl (⟨rfl, hq⟩) (Nat.le_of_eq (Nat.zero_add _)) (Nat.le_of_eq (Nat.zero_add _))

set_option maxRecDepth 100000 in
set_option maxHeartbeats 4000000 in
theorem w_state {l : Launch} {Z : zZ} (hZ : zSt l Z) {μ : zMem} {σ : zS2} {π : zP2} {g : zG2} {k mc ms : Nat} {a : Int32} (h0 : zK μ 0 = 8 + 8) {Q : Int32 → zMem → Prop} (ct : zCt l Z mX8_state k mc ms [.ref 0, .int a] (zA4 μ σ π g) (fun r μx => ∃ x, r = some (.int x) ∧ Q x μx)) (hQ : ∀ x μx, Q x μx → ∃ μ1 σ1 π1 g1, μx = zA4 μ1 σ1 π1 g1 ∧ zK μ1 106 = 3 ∧ zL μ1 106 = 1) : zCtW l Z mL_state hhL_state (k + 1) mc ms [.ref 0, .int a, .ref 106] (zA4 μ σ π g) (fun r μx => r = some (.int 0) ∧ ∃ x μ1 σ1 π1 g1, Q x (zA4 μ1 σ1 π1 g1) ∧ μx = zA4 μ1 σ1 π1 (zug g1 106 0 x.toInt64)) := by
  refine zCtW_of hZ mpL_state (Nat.le_of_ble_eq_true rfl) (L := [some (.ref 0), some (.int a), some (.ref 106), none]) rfl (fun τ hYW => ?_)
  have hY := hYW.1
  have hT := hY.1
  refine J_aload_n (i := 2) hT dL_state_0 rfl rfl ?_
  refine J_iconst (v := 0) hT dL_state_1 rfl ?_
  refine J_aload_n (i := 0) hT dL_state_2 rfl rfl ?_
  refine J_iload_n (i := 1) hT dL_state_3 rfl rfl ?_
  refine J_callV (ci := 8) hY dL_state_4 mfX8_state miX8_state msX8_state kL_76 ⟨by decide, rfl⟩ h0 ct rfl (Nat.lt_succ_self _) rfl rfl (Nat.le_of_ble_eq_true rfl) (Nat.le_of_eq (Nat.zero_add _)) (Nat.le_of_eq (Nat.zero_add _)) (fun r1 μ1 hq => ?_)
  obtain ⟨x, rfl, hq⟩ := hq
  obtain ⟨μ1, σ1, π1, g1, rfl, k6, l6⟩ := hQ x _ hq
  show zJ _ _ _ _ (.int x :: _) _ _ _
  refine J_i2l hT dL_state_7 ?_
  refine R_last hT dL_state_8 k6 l6 (by first | exact ⟨rfl, by decide⟩ | exact zix_nI (by omega) (by decide) | assumption) ?_
  refine J_goto (tgt := 15) hT dL_state_9 (by decide) ?_
  refine J_iconst (v := 0) hT dL_state_15 rfl ?_
  exact J_iret hT dL_state_16 rfl rfl (⟨rfl, x, μ1, σ1, π1, g1, hq, rfl⟩) (Nat.le_of_eq (Nat.zero_add _)) (Nat.le_of_eq (Nat.zero_add _))

set_option maxRecDepth 100000 in
set_option maxHeartbeats 4000000 in
theorem w_state_iob {l : Launch} {Z : zZ} (hZ : zSt l Z) {μ : zMem} {k mc ms : Nat} {a : Int32} (h0 : zK μ 0 = 8 + 8) (hN : zNs Z) {Q : zMem → Prop} (ct : zCtX l Z mX8_state k mc ms [.ref 0, .int a] μ "java/lang/IndexOutOfBoundsException" Q) : zCtW l Z mL_state hhL_state (k + 1) mc ms [.ref 0, .int a, .ref 106] μ (fun r μx => r = some (.int 1) ∧ Q μx) := by
  refine zCtW_of hZ mpL_state (Nat.le_of_ble_eq_true rfl) (L := [some (.ref 0), some (.int a), some (.ref 106), none]) rfl (fun τ hYW => ?_)
  have hY := hYW.1
  have hT := hY.1
  refine J_aload_n (i := 2) hT dL_state_0 rfl rfl ?_
  refine J_iconst (v := 0) hT dL_state_1 rfl ?_
  refine J_aload_n (i := 0) hT dL_state_2 rfl rfl ?_
  refine J_iload_n (i := 1) hT dL_state_3 rfl rfl ?_
  refine J_callVC (ci := 8) (i := 3) (hpc := 12) (nx := 13) hYW dL_state_4 mfX8_state miX8_state msX8_state ⟨by decide, rfl⟩ h0 ct rfl (Nat.lt_succ_self _) rfl rfl (Nat.le_of_ble_eq_true rfl) (Nat.le_of_eq (Nat.zero_add _)) (Nat.le_of_eq (Nat.zero_add _)) mlL_76 [] [] 21 0 9 rfl (fun _ h => nomatch h) (by decide) (by decide) kcL_21 cs_iob (Or.inl ⟨_, dL_state_12, rfl, rfl⟩) (Nat.le_of_ble_eq_true rfl) (fun μ1 hq => ?_)
  refine J_iconst (v := 1) hT dL_state_13 rfl ?_
  exact J_iret hT dL_state_14 rfl rfl (⟨rfl, hq⟩) (Nat.le_of_eq (Nat.zero_add _)) (Nat.le_of_eq (Nat.zero_add _))

set_option maxRecDepth 100000 in
set_option maxHeartbeats 4000000 in
theorem w_load {l : Launch} {Z : zZ} (hZ : zSt l Z) {μ : zMem} {σ : zS2} {π : zP2} {g : zG2} {k mc ms : Nat} {a : Int32} (h0 : zK μ 0 = 8 + 8) {Q : Int32 → zMem → Prop} (ct : zCt l Z mX8_load k mc ms [.ref 0, .int a] (zA4 μ σ π g) (fun r μx => ∃ x, r = some (.int x) ∧ Q x μx)) (hQ : ∀ x μx, Q x μx → ∃ μ1 σ1 π1 g1, μx = zA4 μ1 σ1 π1 g1 ∧ zK μ1 106 = 3 ∧ zL μ1 106 = 1) : zCtW l Z mL_load hhL_load (k + 1) mc ms [.ref 0, .int a, .ref 106] (zA4 μ σ π g) (fun r μx => r = some (.int 0) ∧ ∃ x μ1 σ1 π1 g1, Q x (zA4 μ1 σ1 π1 g1) ∧ μx = zA4 μ1 σ1 π1 (zug g1 106 0 x.toInt64)) := by
  refine zCtW_of hZ mpL_load (Nat.le_of_ble_eq_true rfl) (L := [some (.ref 0), some (.int a), some (.ref 106), none]) rfl (fun τ hYW => ?_)
  have hY := hYW.1
  have hT := hY.1
  refine J_aload_n (i := 2) hT dL_load_0 rfl rfl ?_
  refine J_iconst (v := 0) hT dL_load_1 rfl ?_
  refine J_aload_n (i := 0) hT dL_load_2 rfl rfl ?_
  refine J_iload_n (i := 1) hT dL_load_3 rfl rfl ?_
  refine J_callV (ci := 8) hY dL_load_4 mfX8_load miX8_load msX8_load kL_79 ⟨by decide, rfl⟩ h0 ct rfl (Nat.lt_succ_self _) rfl rfl (Nat.le_of_ble_eq_true rfl) (Nat.le_of_eq (Nat.zero_add _)) (Nat.le_of_eq (Nat.zero_add _)) (fun r1 μ1 hq => ?_)
  obtain ⟨x, rfl, hq⟩ := hq
  obtain ⟨μ1, σ1, π1, g1, rfl, k6, l6⟩ := hQ x _ hq
  show zJ _ _ _ _ (.int x :: _) _ _ _
  refine J_i2l hT dL_load_7 ?_
  refine R_last hT dL_load_8 k6 l6 (by first | exact ⟨rfl, by decide⟩ | exact zix_nI (by omega) (by decide) | assumption) ?_
  refine J_goto (tgt := 15) hT dL_load_9 (by decide) ?_
  refine J_iconst (v := 0) hT dL_load_15 rfl ?_
  exact J_iret hT dL_load_16 rfl rfl (⟨rfl, x, μ1, σ1, π1, g1, hq, rfl⟩) (Nat.le_of_eq (Nat.zero_add _)) (Nat.le_of_eq (Nat.zero_add _))

set_option maxRecDepth 100000 in
set_option maxHeartbeats 4000000 in
theorem w_load_iob {l : Launch} {Z : zZ} (hZ : zSt l Z) {μ : zMem} {k mc ms : Nat} {a : Int32} (h0 : zK μ 0 = 8 + 8) (hN : zNs Z) {Q : zMem → Prop} (ct : zCtX l Z mX8_load k mc ms [.ref 0, .int a] μ "java/lang/IndexOutOfBoundsException" Q) : zCtW l Z mL_load hhL_load (k + 1) mc ms [.ref 0, .int a, .ref 106] μ (fun r μx => r = some (.int 1) ∧ Q μx) := by
  refine zCtW_of hZ mpL_load (Nat.le_of_ble_eq_true rfl) (L := [some (.ref 0), some (.int a), some (.ref 106), none]) rfl (fun τ hYW => ?_)
  have hY := hYW.1
  have hT := hY.1
  refine J_aload_n (i := 2) hT dL_load_0 rfl rfl ?_
  refine J_iconst (v := 0) hT dL_load_1 rfl ?_
  refine J_aload_n (i := 0) hT dL_load_2 rfl rfl ?_
  refine J_iload_n (i := 1) hT dL_load_3 rfl rfl ?_
  refine J_callVC (ci := 8) (i := 3) (hpc := 12) (nx := 13) hYW dL_load_4 mfX8_load miX8_load msX8_load ⟨by decide, rfl⟩ h0 ct rfl (Nat.lt_succ_self _) rfl rfl (Nat.le_of_ble_eq_true rfl) (Nat.le_of_eq (Nat.zero_add _)) (Nat.le_of_eq (Nat.zero_add _)) mlL_79 [] [] 21 0 9 rfl (fun _ h => nomatch h) (by decide) (by decide) kcL_21 cs_iob (Or.inl ⟨_, dL_load_12, rfl, rfl⟩) (Nat.le_of_ble_eq_true rfl) (fun μ1 hq => ?_)
  refine J_iconst (v := 1) hT dL_load_13 rfl ?_
  exact J_iret hT dL_load_14 rfl rfl (⟨rfl, hq⟩) (Nat.le_of_eq (Nat.zero_add _)) (Nat.le_of_eq (Nat.zero_add _))

set_option maxRecDepth 100000 in
set_option maxHeartbeats 4000000 in
theorem w_told {l : Launch} {Z : zZ} (hZ : zSt l Z) {μ : zMem} {σ : zS2} {π : zP2} {g : zG2} {k mc ms : Nat} {a : Int32} (h0 : zK μ 0 = 8 + 8) {Q : Int32 → zMem → Prop} (ct : zCt l Z mX8_told k mc ms [.ref 0, .int a] (zA4 μ σ π g) (fun r μx => ∃ x, r = some (.int x) ∧ Q x μx)) (hQ : ∀ x μx, Q x μx → ∃ μ1 σ1 π1 g1, μx = zA4 μ1 σ1 π1 g1 ∧ zK μ1 106 = 3 ∧ zL μ1 106 = 1) : zCtW l Z mL_told hhL_told (k + 1) mc ms [.ref 0, .int a, .ref 106] (zA4 μ σ π g) (fun r μx => r = some (.int 0) ∧ ∃ x μ1 σ1 π1 g1, Q x (zA4 μ1 σ1 π1 g1) ∧ μx = zA4 μ1 σ1 π1 (zug g1 106 0 x.toInt64)) := by
  refine zCtW_of hZ mpL_told (Nat.le_of_ble_eq_true rfl) (L := [some (.ref 0), some (.int a), some (.ref 106), none]) rfl (fun τ hYW => ?_)
  have hY := hYW.1
  have hT := hY.1
  refine J_aload_n (i := 2) hT dL_told_0 rfl rfl ?_
  refine J_iconst (v := 0) hT dL_told_1 rfl ?_
  refine J_aload_n (i := 0) hT dL_told_2 rfl rfl ?_
  refine J_iload_n (i := 1) hT dL_told_3 rfl rfl ?_
  refine J_callV (ci := 8) hY dL_told_4 mfX8_told miX8_told msX8_told kL_82 ⟨by decide, rfl⟩ h0 ct rfl (Nat.lt_succ_self _) rfl rfl (Nat.le_of_ble_eq_true rfl) (Nat.le_of_eq (Nat.zero_add _)) (Nat.le_of_eq (Nat.zero_add _)) (fun r1 μ1 hq => ?_)
  obtain ⟨x, rfl, hq⟩ := hq
  obtain ⟨μ1, σ1, π1, g1, rfl, k6, l6⟩ := hQ x _ hq
  show zJ _ _ _ _ (.int x :: _) _ _ _
  refine J_i2l hT dL_told_7 ?_
  refine R_last hT dL_told_8 k6 l6 (by first | exact ⟨rfl, by decide⟩ | exact zix_nI (by omega) (by decide) | assumption) ?_
  refine J_goto (tgt := 15) hT dL_told_9 (by decide) ?_
  refine J_iconst (v := 0) hT dL_told_15 rfl ?_
  exact J_iret hT dL_told_16 rfl rfl (⟨rfl, x, μ1, σ1, π1, g1, hq, rfl⟩) (Nat.le_of_eq (Nat.zero_add _)) (Nat.le_of_eq (Nat.zero_add _))

set_option maxRecDepth 100000 in
set_option maxHeartbeats 4000000 in
theorem w_told_iob {l : Launch} {Z : zZ} (hZ : zSt l Z) {μ : zMem} {k mc ms : Nat} {a : Int32} (h0 : zK μ 0 = 8 + 8) (hN : zNs Z) {Q : zMem → Prop} (ct : zCtX l Z mX8_told k mc ms [.ref 0, .int a] μ "java/lang/IndexOutOfBoundsException" Q) : zCtW l Z mL_told hhL_told (k + 1) mc ms [.ref 0, .int a, .ref 106] μ (fun r μx => r = some (.int 1) ∧ Q μx) := by
  refine zCtW_of hZ mpL_told (Nat.le_of_ble_eq_true rfl) (L := [some (.ref 0), some (.int a), some (.ref 106), none]) rfl (fun τ hYW => ?_)
  have hY := hYW.1
  have hT := hY.1
  refine J_aload_n (i := 2) hT dL_told_0 rfl rfl ?_
  refine J_iconst (v := 0) hT dL_told_1 rfl ?_
  refine J_aload_n (i := 0) hT dL_told_2 rfl rfl ?_
  refine J_iload_n (i := 1) hT dL_told_3 rfl rfl ?_
  refine J_callVC (ci := 8) (i := 3) (hpc := 12) (nx := 13) hYW dL_told_4 mfX8_told miX8_told msX8_told ⟨by decide, rfl⟩ h0 ct rfl (Nat.lt_succ_self _) rfl rfl (Nat.le_of_ble_eq_true rfl) (Nat.le_of_eq (Nat.zero_add _)) (Nat.le_of_eq (Nat.zero_add _)) mlL_82 [] [] 21 0 9 rfl (fun _ h => nomatch h) (by decide) (by decide) kcL_21 cs_iob (Or.inl ⟨_, dL_told_12, rfl, rfl⟩) (Nat.le_of_ble_eq_true rfl) (fun μ1 hq => ?_)
  refine J_iconst (v := 1) hT dL_told_13 rfl ?_
  exact J_iret hT dL_told_14 rfl rfl (⟨rfl, hq⟩) (Nat.le_of_eq (Nat.zero_add _)) (Nat.le_of_eq (Nat.zero_add _))

set_option maxRecDepth 100000 in
set_option maxHeartbeats 4000000 in
theorem w_starts {l : Launch} {Z : zZ} (hZ : zSt l Z) {μ : zMem} {σ : zS2} {π : zP2} {g : zG2} {k mc ms : Nat} {a : Int32} (h0 : zK μ 0 = 8 + 8) {Q : Int32 → zMem → Prop} (ct : zCt l Z mX8_starts k mc ms [.ref 0, .int a] (zA4 μ σ π g) (fun r μx => ∃ x, r = some (.int x) ∧ Q x μx)) (hQ : ∀ x μx, Q x μx → ∃ μ1 σ1 π1 g1, μx = zA4 μ1 σ1 π1 g1 ∧ zK μ1 106 = 3 ∧ zL μ1 106 = 1) : zCtW l Z mL_starts hhL_starts (k + 1) mc ms [.ref 0, .int a, .ref 106] (zA4 μ σ π g) (fun r μx => r = some (.int 0) ∧ ∃ x μ1 σ1 π1 g1, Q x (zA4 μ1 σ1 π1 g1) ∧ μx = zA4 μ1 σ1 π1 (zug g1 106 0 x.toInt64)) := by
  refine zCtW_of hZ mpL_starts (Nat.le_of_ble_eq_true rfl) (L := [some (.ref 0), some (.int a), some (.ref 106), none]) rfl (fun τ hYW => ?_)
  have hY := hYW.1
  have hT := hY.1
  refine J_aload_n (i := 2) hT dL_starts_0 rfl rfl ?_
  refine J_iconst (v := 0) hT dL_starts_1 rfl ?_
  refine J_aload_n (i := 0) hT dL_starts_2 rfl rfl ?_
  refine J_iload_n (i := 1) hT dL_starts_3 rfl rfl ?_
  refine J_callV (ci := 8) hY dL_starts_4 mfX8_starts miX8_starts msX8_starts kL_85 ⟨by decide, rfl⟩ h0 ct rfl (Nat.lt_succ_self _) rfl rfl (Nat.le_of_ble_eq_true rfl) (Nat.le_of_eq (Nat.zero_add _)) (Nat.le_of_eq (Nat.zero_add _)) (fun r1 μ1 hq => ?_)
  obtain ⟨x, rfl, hq⟩ := hq
  obtain ⟨μ1, σ1, π1, g1, rfl, k6, l6⟩ := hQ x _ hq
  show zJ _ _ _ _ (.int x :: _) _ _ _
  refine J_i2l hT dL_starts_7 ?_
  refine R_last hT dL_starts_8 k6 l6 (by first | exact ⟨rfl, by decide⟩ | exact zix_nI (by omega) (by decide) | assumption) ?_
  refine J_goto (tgt := 15) hT dL_starts_9 (by decide) ?_
  refine J_iconst (v := 0) hT dL_starts_15 rfl ?_
  exact J_iret hT dL_starts_16 rfl rfl (⟨rfl, x, μ1, σ1, π1, g1, hq, rfl⟩) (Nat.le_of_eq (Nat.zero_add _)) (Nat.le_of_eq (Nat.zero_add _))

set_option maxRecDepth 100000 in
set_option maxHeartbeats 4000000 in
theorem w_starts_iob {l : Launch} {Z : zZ} (hZ : zSt l Z) {μ : zMem} {k mc ms : Nat} {a : Int32} (h0 : zK μ 0 = 8 + 8) (hN : zNs Z) {Q : zMem → Prop} (ct : zCtX l Z mX8_starts k mc ms [.ref 0, .int a] μ "java/lang/IndexOutOfBoundsException" Q) : zCtW l Z mL_starts hhL_starts (k + 1) mc ms [.ref 0, .int a, .ref 106] μ (fun r μx => r = some (.int 1) ∧ Q μx) := by
  refine zCtW_of hZ mpL_starts (Nat.le_of_ble_eq_true rfl) (L := [some (.ref 0), some (.int a), some (.ref 106), none]) rfl (fun τ hYW => ?_)
  have hY := hYW.1
  have hT := hY.1
  refine J_aload_n (i := 2) hT dL_starts_0 rfl rfl ?_
  refine J_iconst (v := 0) hT dL_starts_1 rfl ?_
  refine J_aload_n (i := 0) hT dL_starts_2 rfl rfl ?_
  refine J_iload_n (i := 1) hT dL_starts_3 rfl rfl ?_
  refine J_callVC (ci := 8) (i := 3) (hpc := 12) (nx := 13) hYW dL_starts_4 mfX8_starts miX8_starts msX8_starts ⟨by decide, rfl⟩ h0 ct rfl (Nat.lt_succ_self _) rfl rfl (Nat.le_of_ble_eq_true rfl) (Nat.le_of_eq (Nat.zero_add _)) (Nat.le_of_eq (Nat.zero_add _)) mlL_85 [] [] 21 0 9 rfl (fun _ h => nomatch h) (by decide) (by decide) kcL_21 cs_iob (Or.inl ⟨_, dL_starts_12, rfl, rfl⟩) (Nat.le_of_ble_eq_true rfl) (fun μ1 hq => ?_)
  refine J_iconst (v := 1) hT dL_starts_13 rfl ?_
  exact J_iret hT dL_starts_14 rfl rfl (⟨rfl, hq⟩) (Nat.le_of_eq (Nat.zero_add _)) (Nat.le_of_eq (Nat.zero_add _))

set_option maxRecDepth 100000 in
set_option maxHeartbeats 4000000 in
theorem w_trial {l : Launch} {Z : zZ} (hZ : zSt l Z) {μ : zMem} {σ : zS2} {π : zP2} {g : zG2} {k mc ms : Nat} {a : Int32} (h0 : zK μ 0 = 8 + 8) {Q : Int32 → zMem → Prop} (ct : zCt l Z mX8_trial k mc ms [.ref 0, .int a] (zA4 μ σ π g) (fun r μx => ∃ x, r = some (.int x) ∧ Q x μx)) (hQ : ∀ x μx, Q x μx → ∃ μ1 σ1 π1 g1, μx = zA4 μ1 σ1 π1 g1 ∧ zK μ1 106 = 3 ∧ zL μ1 106 = 1) : zCtW l Z mL_trial hhL_trial (k + 1) mc ms [.ref 0, .int a, .ref 106] (zA4 μ σ π g) (fun r μx => r = some (.int 0) ∧ ∃ x μ1 σ1 π1 g1, Q x (zA4 μ1 σ1 π1 g1) ∧ μx = zA4 μ1 σ1 π1 (zug g1 106 0 x.toInt64)) := by
  refine zCtW_of hZ mpL_trial (Nat.le_of_ble_eq_true rfl) (L := [some (.ref 0), some (.int a), some (.ref 106), none]) rfl (fun τ hYW => ?_)
  have hY := hYW.1
  have hT := hY.1
  refine J_aload_n (i := 2) hT dL_trial_0 rfl rfl ?_
  refine J_iconst (v := 0) hT dL_trial_1 rfl ?_
  refine J_aload_n (i := 0) hT dL_trial_2 rfl rfl ?_
  refine J_iload_n (i := 1) hT dL_trial_3 rfl rfl ?_
  refine J_callV (ci := 8) hY dL_trial_4 mfX8_trial miX8_trial msX8_trial kL_88 ⟨by decide, rfl⟩ h0 ct rfl (Nat.lt_succ_self _) rfl rfl (Nat.le_of_ble_eq_true rfl) (Nat.le_of_eq (Nat.zero_add _)) (Nat.le_of_eq (Nat.zero_add _)) (fun r1 μ1 hq => ?_)
  obtain ⟨x, rfl, hq⟩ := hq
  obtain ⟨μ1, σ1, π1, g1, rfl, k6, l6⟩ := hQ x _ hq
  show zJ _ _ _ _ (.int x :: _) _ _ _
  refine J_i2l hT dL_trial_7 ?_
  refine R_last hT dL_trial_8 k6 l6 (by first | exact ⟨rfl, by decide⟩ | exact zix_nI (by omega) (by decide) | assumption) ?_
  refine J_goto (tgt := 15) hT dL_trial_9 (by decide) ?_
  refine J_iconst (v := 0) hT dL_trial_15 rfl ?_
  exact J_iret hT dL_trial_16 rfl rfl (⟨rfl, x, μ1, σ1, π1, g1, hq, rfl⟩) (Nat.le_of_eq (Nat.zero_add _)) (Nat.le_of_eq (Nat.zero_add _))

set_option maxRecDepth 100000 in
set_option maxHeartbeats 4000000 in
theorem w_trial_iob {l : Launch} {Z : zZ} (hZ : zSt l Z) {μ : zMem} {k mc ms : Nat} {a : Int32} (h0 : zK μ 0 = 8 + 8) (hN : zNs Z) {Q : zMem → Prop} (ct : zCtX l Z mX8_trial k mc ms [.ref 0, .int a] μ "java/lang/IndexOutOfBoundsException" Q) : zCtW l Z mL_trial hhL_trial (k + 1) mc ms [.ref 0, .int a, .ref 106] μ (fun r μx => r = some (.int 1) ∧ Q μx) := by
  refine zCtW_of hZ mpL_trial (Nat.le_of_ble_eq_true rfl) (L := [some (.ref 0), some (.int a), some (.ref 106), none]) rfl (fun τ hYW => ?_)
  have hY := hYW.1
  have hT := hY.1
  refine J_aload_n (i := 2) hT dL_trial_0 rfl rfl ?_
  refine J_iconst (v := 0) hT dL_trial_1 rfl ?_
  refine J_aload_n (i := 0) hT dL_trial_2 rfl rfl ?_
  refine J_iload_n (i := 1) hT dL_trial_3 rfl rfl ?_
  refine J_callVC (ci := 8) (i := 3) (hpc := 12) (nx := 13) hYW dL_trial_4 mfX8_trial miX8_trial msX8_trial ⟨by decide, rfl⟩ h0 ct rfl (Nat.lt_succ_self _) rfl rfl (Nat.le_of_ble_eq_true rfl) (Nat.le_of_eq (Nat.zero_add _)) (Nat.le_of_eq (Nat.zero_add _)) mlL_88 [] [] 21 0 9 rfl (fun _ h => nomatch h) (by decide) (by decide) kcL_21 cs_iob (Or.inl ⟨_, dL_trial_12, rfl, rfl⟩) (Nat.le_of_ble_eq_true rfl) (fun μ1 hq => ?_)
  refine J_iconst (v := 1) hT dL_trial_13 rfl ?_
  exact J_iret hT dL_trial_14 rfl rfl (⟨rfl, hq⟩) (Nat.le_of_eq (Nat.zero_add _)) (Nat.le_of_eq (Nat.zero_add _))

set_option maxRecDepth 100000 in
set_option maxHeartbeats 4000000 in
theorem w_isLoop {l : Launch} {Z : zZ} (hZ : zSt l Z) {μ : zMem} {σ : zS2} {π : zP2} {g : zG2} {k mc ms : Nat} {a : Int32} (h0 : zK μ 0 = 8 + 8) {Q : Int32 → zMem → Prop} (ct : zCt l Z mX8_isLoop k mc ms [.ref 0, .int a] (zA4 μ σ π g) (fun r μx => ∃ x, r = some (.int x) ∧ Q x μx)) (hQ : ∀ x μx, Q x μx → ∃ μ1 σ1 π1 g1, μx = zA4 μ1 σ1 π1 g1 ∧ zK μ1 106 = 3 ∧ zL μ1 106 = 1) : zCtW l Z mL_isLoop hhL_isLoop (k + 1) mc ms [.ref 0, .int a, .ref 106] (zA4 μ σ π g) (fun r μx => r = some (.int 0) ∧ ∃ x μ1 σ1 π1 g1, Q x (zA4 μ1 σ1 π1 g1) ∧ μx = zA4 μ1 σ1 π1 (zug g1 106 0 (if x = 0 then 0 else 1))) := by
  refine zCtW_of hZ mpL_isLoop (Nat.le_of_ble_eq_true rfl) (L := [some (.ref 0), some (.int a), some (.ref 106), none]) rfl (fun τ hYW => ?_)
  have hY := hYW.1
  have hT := hY.1
  refine J_aload_n (i := 2) hT dL_isLoop_0 rfl rfl ?_
  refine J_iconst (v := 0) hT dL_isLoop_1 rfl ?_
  refine J_aload_n (i := 0) hT dL_isLoop_2 rfl rfl ?_
  refine J_iload_n (i := 1) hT dL_isLoop_3 rfl rfl ?_
  refine J_callV (ci := 8) hY dL_isLoop_4 mfX8_isLoop miX8_isLoop msX8_isLoop kL_91 ⟨by decide, rfl⟩ h0 ct rfl (Nat.lt_succ_self _) rfl rfl (Nat.le_of_ble_eq_true rfl) (Nat.le_of_eq (Nat.zero_add _)) (Nat.le_of_eq (Nat.zero_add _)) (fun r1 μ1 hq => ?_)
  obtain ⟨x, rfl, hq⟩ := hq
  obtain ⟨μ1, σ1, π1, g1, rfl, k6, l6⟩ := hQ x _ hq
  show zJ _ _ _ _ (.int x :: _) _ _ _
  refine J_if_eq (tgt := 14) hT dL_isLoop_7 (by decide) (fun q7 => ?_) (fun q7 => ?_)
  · refine J_lconst (v := 0) hT dL_isLoop_14 rfl ?_
    refine R_last hT dL_isLoop_15 k6 l6 (by first | exact ⟨rfl, by decide⟩ | exact zix_nI (by omega) (by decide) | assumption) ?_
    refine J_goto (tgt := 22) hT dL_isLoop_16 (by decide) ?_
    refine J_iconst (v := 0) hT dL_isLoop_22 rfl ?_
    exact J_iret hT dL_isLoop_23 rfl rfl (⟨rfl, x, μ1, σ1, π1, g1, hq, by first | (rw [if_pos q7]; rfl) | (rw [if_neg q7]; rfl)⟩) (Nat.le_of_eq (Nat.zero_add _)) (Nat.le_of_eq (Nat.zero_add _))
  · refine J_lconst (v := 1) hT dL_isLoop_10 rfl ?_
    refine J_goto (tgt := 15) hT dL_isLoop_11 (by decide) ?_
    refine R_last hT dL_isLoop_15 k6 l6 (by first | exact ⟨rfl, by decide⟩ | exact zix_nI (by omega) (by decide) | assumption) ?_
    refine J_goto (tgt := 22) hT dL_isLoop_16 (by decide) ?_
    refine J_iconst (v := 0) hT dL_isLoop_22 rfl ?_
    exact J_iret hT dL_isLoop_23 rfl rfl (⟨rfl, x, μ1, σ1, π1, g1, hq, by first | (rw [if_pos q7]; rfl) | (rw [if_neg q7]; rfl)⟩) (Nat.le_of_eq (Nat.zero_add _)) (Nat.le_of_eq (Nat.zero_add _))

set_option maxRecDepth 100000 in
set_option maxHeartbeats 4000000 in
theorem w_isLoop_iob {l : Launch} {Z : zZ} (hZ : zSt l Z) {μ : zMem} {k mc ms : Nat} {a : Int32} (h0 : zK μ 0 = 8 + 8) (hN : zNs Z) {Q : zMem → Prop} (ct : zCtX l Z mX8_isLoop k mc ms [.ref 0, .int a] μ "java/lang/IndexOutOfBoundsException" Q) : zCtW l Z mL_isLoop hhL_isLoop (k + 1) mc ms [.ref 0, .int a, .ref 106] μ (fun r μx => r = some (.int 1) ∧ Q μx) := by
  refine zCtW_of hZ mpL_isLoop (Nat.le_of_ble_eq_true rfl) (L := [some (.ref 0), some (.int a), some (.ref 106), none]) rfl (fun τ hYW => ?_)
  have hY := hYW.1
  have hT := hY.1
  refine J_aload_n (i := 2) hT dL_isLoop_0 rfl rfl ?_
  refine J_iconst (v := 0) hT dL_isLoop_1 rfl ?_
  refine J_aload_n (i := 0) hT dL_isLoop_2 rfl rfl ?_
  refine J_iload_n (i := 1) hT dL_isLoop_3 rfl rfl ?_
  refine J_callVC (ci := 8) (i := 3) (hpc := 19) (nx := 20) hYW dL_isLoop_4 mfX8_isLoop miX8_isLoop msX8_isLoop ⟨by decide, rfl⟩ h0 ct rfl (Nat.lt_succ_self _) rfl rfl (Nat.le_of_ble_eq_true rfl) (Nat.le_of_eq (Nat.zero_add _)) (Nat.le_of_eq (Nat.zero_add _)) mlL_91 [] [] 21 0 16 rfl (fun _ h => nomatch h) (by decide) (by decide) kcL_21 cs_iob (Or.inl ⟨_, dL_isLoop_19, rfl, rfl⟩) (Nat.le_of_ble_eq_true rfl) (fun μ1 hq => ?_)
  refine J_iconst (v := 1) hT dL_isLoop_20 rfl ?_
  exact J_iret hT dL_isLoop_21 rfl rfl (⟨rfl, hq⟩) (Nat.le_of_eq (Nat.zero_add _)) (Nat.le_of_eq (Nat.zero_add _))

