/-! ===== the law's wrappers ===== -/
set_option maxRecDepth 20000 in
theorem kcL_17 : Cond.classLink RL 17 "java/lang/IllegalStateException" ∈ ztb := ztb_in (zc2 (List.mem_of_getElem? (i := 68) rfl)) rfl
set_option maxRecDepth 20000 in
theorem cs_ise : Cond.castable "java/lang/IllegalStateException" "java/lang/IllegalStateException" ∈ lw_tbl := (zc2 (List.mem_of_getElem? (i := 75) rfl))
set_option maxRecDepth 20000 in
theorem kcL_23 : Cond.classLink RL 23 "java/lang/IndexOutOfBoundsException" ∈ ztb := ztb_in (zc3 (List.mem_of_getElem? (i := 44) rfl)) rfl
set_option maxRecDepth 20000 in
theorem cs_iob : Cond.castable "java/lang/IndexOutOfBoundsException" "java/lang/IndexOutOfBoundsException" ∈ lw_tbl := (zc3 (List.mem_of_getElem? (i := 57) rfl))
set_option maxRecDepth 20000 in
theorem kcL_15 : Cond.classLink RL 15 "java/lang/IllegalArgumentException" ∈ ztb := ztb_in (zc3 (List.mem_of_getElem? (i := 120) rfl)) rfl
set_option maxRecDepth 20000 in
theorem cs_iae : Cond.castable "java/lang/IllegalArgumentException" "java/lang/IllegalArgumentException" ∈ lw_tbl := (zc3 (List.mem_of_getElem? (i := 213) rfl))
abbrev mL_undo : zM := (yL_undo, cL_undo, 2, some .int)
abbrev hhL_undo : zHh := [(0, 4, 5, 17)]
set_option maxRecDepth 20000 in
theorem mfL_undo : zMw mL_undo hhL_undo 1 := ⟨ztb_in (zc2 (List.mem_of_getElem? (i := 67) rfl)) rfl, itL, ⟨by decide +kernel, by decide +kernel, by decide +kernel⟩, by decide⟩
theorem mpL_undo : plainName mL_undo.1.cls = true := by decide +kernel
set_option maxRecDepth 20000 in
theorem mtL_undo : Cond.static mL_undo.1 ∈ ztb := ztb_in (zc2 (List.mem_of_getElem? (i := 66) rfl)) rfl
abbrev mL_value : zM := (yL_value, cL_value, 3, some .int)
abbrev hhL_value : zHh := [(0, 5, 6, 23)]
set_option maxRecDepth 20000 in
theorem mfL_value : zMw mL_value hhL_value 2 := ⟨ztb_in (zc3 (List.mem_of_getElem? (i := 43) rfl)) rfl, itL, ⟨by decide +kernel, by decide +kernel, by decide +kernel⟩, by decide⟩
theorem mpL_value : plainName mL_value.1.cls = true := by decide +kernel
set_option maxRecDepth 20000 in
theorem mtL_value : Cond.static mL_value.1 ∈ ztb := ztb_in (zc3 (List.mem_of_getElem? (i := 42) rfl)) rfl
abbrev mL_anew : zM := (yL_anew, cL_anew, 3, some .int)
abbrev hhL_anew : zHh := [(0, 5, 6, 23)]
set_option maxRecDepth 20000 in
theorem mfL_anew : zMw mL_anew hhL_anew 2 := ⟨ztb_in (zc3 (List.mem_of_getElem? (i := 74) rfl)) rfl, itL, ⟨by decide +kernel, by decide +kernel, by decide +kernel⟩, by decide⟩
theorem mpL_anew : plainName mL_anew.1.cls = true := by decide +kernel
set_option maxRecDepth 20000 in
theorem mtL_anew : Cond.static mL_anew.1 ∈ ztb := ztb_in (zc3 (List.mem_of_getElem? (i := 73) rfl)) rfl
abbrev mL_trial : zM := (yL_trial, cL_trial, 3, some .int)
abbrev hhL_trial : zHh := [(0, 5, 6, 23)]
set_option maxRecDepth 20000 in
theorem mfL_trial : zMw mL_trial hhL_trial 2 := ⟨ztb_in (zc3 (List.mem_of_getElem? (i := 81) rfl)) rfl, itL, ⟨by decide +kernel, by decide +kernel, by decide +kernel⟩, by decide⟩
theorem mpL_trial : plainName mL_trial.1.cls = true := by decide +kernel
set_option maxRecDepth 20000 in
theorem mtL_trial : Cond.static mL_trial.1 ∈ ztb := ztb_in (zc3 (List.mem_of_getElem? (i := 80) rfl)) rfl
abbrev mL_type : zM := (yL_type, cL_type, 3, some .int)
abbrev hhL_type : zHh := [(0, 6, 7, 15), (0, 6, 11, 17)]
set_option maxRecDepth 20000 in
theorem mfL_type : zMw mL_type hhL_type 2 := ⟨ztb_in (zc3 (List.mem_of_getElem? (i := 119) rfl)) rfl, itL, ⟨by decide +kernel, by decide +kernel, by decide +kernel⟩, by decide⟩
theorem mpL_type : plainName mL_type.1.cls = true := by decide +kernel
set_option maxRecDepth 20000 in
theorem mtL_type : Cond.static mL_type.1 ∈ ztb := ztb_in (zc3 (List.mem_of_getElem? (i := 118) rfl)) rfl
abbrev mL_formula : zM := (yL_formula, cL_formula, 3, some .int)
abbrev hhL_formula : zHh := [(0, 5, 6, 23), (0, 5, 10, 15), (0, 5, 14, 17)]
set_option maxRecDepth 20000 in
theorem mfL_formula : zMw mL_formula hhL_formula 2 := ⟨ztb_in (zc4 (List.mem_of_getElem? (i := 55) rfl)) rfl, itL, ⟨by decide +kernel, by decide +kernel, by decide +kernel⟩, by decide⟩
theorem mpL_formula : plainName mL_formula.1.cls = true := by decide +kernel
set_option maxRecDepth 20000 in
theorem mtL_formula : Cond.static mL_formula.1 ∈ ztb := ztb_in (zc4 (List.mem_of_getElem? (i := 54) rfl)) rfl
abbrev mL_worth : zM := (yL_worth, cL_worth, 3, some .int)
abbrev hhL_worth : zHh := [(0, 5, 6, 23)]
set_option maxRecDepth 20000 in
theorem mfL_worth : zMw mL_worth hhL_worth 2 := ⟨ztb_in (zc4 (List.mem_of_getElem? (i := 98) rfl)) rfl, itL, ⟨by decide +kernel, by decide +kernel, by decide +kernel⟩, by decide⟩
theorem mpL_worth : plainName mL_worth.1.cls = true := by decide +kernel
set_option maxRecDepth 20000 in
theorem mtL_worth : Cond.static mL_worth.1 ∈ ztb := ztb_in (zc4 (List.mem_of_getElem? (i := 97) rfl)) rfl
abbrev mL_stale : zM := (yL_stale, cL_stale, 3, some .int)
abbrev hhL_stale : zHh := [(0, 13, 14, 23)]
set_option maxRecDepth 20000 in
theorem mfL_stale : zMw mL_stale hhL_stale 2 := ⟨ztb_in (zc4 (List.mem_of_getElem? (i := 106) rfl)) rfl, itL, ⟨by decide +kernel, by decide +kernel, by decide +kernel⟩, by decide⟩
theorem mpL_stale : plainName mL_stale.1.cls = true := by decide +kernel
set_option maxRecDepth 20000 in
theorem mtL_stale : Cond.static mL_stale.1 ∈ ztb := ztb_in (zc4 (List.mem_of_getElem? (i := 105) rfl)) rfl
abbrev mL_depth : zM := (yL_depth, cL_depth, 3, some .int)
abbrev hhL_depth : zHh := [(0, 5, 6, 23)]
set_option maxRecDepth 20000 in
theorem mfL_depth : zMw mL_depth hhL_depth 2 := ⟨ztb_in (zc4 (List.mem_of_getElem? (i := 114) rfl)) rfl, itL, ⟨by decide +kernel, by decide +kernel, by decide +kernel⟩, by decide⟩
theorem mpL_depth : plainName mL_depth.1.cls = true := by decide +kernel
set_option maxRecDepth 20000 in
theorem mtL_depth : Cond.static mL_depth.1 ∈ ztb := ztb_in (zc4 (List.mem_of_getElem? (i := 113) rfl)) rfl
abbrev mL_state : zM := (yL_state, cL_state, 3, some .int)
abbrev hhL_state : zHh := [(0, 5, 6, 23)]
set_option maxRecDepth 20000 in
theorem mfL_state : zMw mL_state hhL_state 2 := ⟨ztb_in (zc4 (List.mem_of_getElem? (i := 123) rfl)) rfl, itL, ⟨by decide +kernel, by decide +kernel, by decide +kernel⟩, by decide⟩
theorem mpL_state : plainName mL_state.1.cls = true := by decide +kernel
set_option maxRecDepth 20000 in
theorem mtL_state : Cond.static mL_state.1 ∈ ztb := ztb_in (zc4 (List.mem_of_getElem? (i := 122) rfl)) rfl
abbrev mL_load : zM := (yL_load, cL_load, 3, some .int)
abbrev hhL_load : zHh := [(0, 5, 6, 23)]
set_option maxRecDepth 20000 in
theorem mfL_load : zMw mL_load hhL_load 2 := ⟨ztb_in (zc4 (List.mem_of_getElem? (i := 130) rfl)) rfl, itL, ⟨by decide +kernel, by decide +kernel, by decide +kernel⟩, by decide⟩
theorem mpL_load : plainName mL_load.1.cls = true := by decide +kernel
set_option maxRecDepth 20000 in
theorem mtL_load : Cond.static mL_load.1 ∈ ztb := ztb_in (zc4 (List.mem_of_getElem? (i := 129) rfl)) rfl
abbrev mL_told : zM := (yL_told, cL_told, 3, some .int)
abbrev hhL_told : zHh := [(0, 5, 6, 23)]
set_option maxRecDepth 20000 in
theorem mfL_told : zMw mL_told hhL_told 2 := ⟨ztb_in (zc4 (List.mem_of_getElem? (i := 137) rfl)) rfl, itL, ⟨by decide +kernel, by decide +kernel, by decide +kernel⟩, by decide⟩
theorem mpL_told : plainName mL_told.1.cls = true := by decide +kernel
set_option maxRecDepth 20000 in
theorem mtL_told : Cond.static mL_told.1 ∈ ztb := ztb_in (zc4 (List.mem_of_getElem? (i := 136) rfl)) rfl
abbrev mL_starts : zM := (yL_starts, cL_starts, 3, some .int)
abbrev hhL_starts : zHh := [(0, 5, 6, 23)]
set_option maxRecDepth 20000 in
theorem mfL_starts : zMw mL_starts hhL_starts 2 := ⟨ztb_in (zc4 (List.mem_of_getElem? (i := 144) rfl)) rfl, itL, ⟨by decide +kernel, by decide +kernel, by decide +kernel⟩, by decide⟩
theorem mpL_starts : plainName mL_starts.1.cls = true := by decide +kernel
set_option maxRecDepth 20000 in
theorem mtL_starts : Cond.static mL_starts.1 ∈ ztb := ztb_in (zc4 (List.mem_of_getElem? (i := 143) rfl)) rfl
abbrev mL_loop : zM := (yL_loop, cL_loop, 3, some .int)
abbrev hhL_loop : zHh := [(0, 13, 14, 23)]
set_option maxRecDepth 20000 in
theorem mfL_loop : zMw mL_loop hhL_loop 2 := ⟨ztb_in (zc4 (List.mem_of_getElem? (i := 154) rfl)) rfl, itL, ⟨by decide +kernel, by decide +kernel, by decide +kernel⟩, by decide⟩
theorem mpL_loop : plainName mL_loop.1.cls = true := by decide +kernel
set_option maxRecDepth 20000 in
theorem mtL_loop : Cond.static mL_loop.1 ∈ ztb := ztb_in (zc4 (List.mem_of_getElem? (i := 153) rfl)) rfl
abbrev mL_hold : zM := (yL_hold, cL_hold, 4, some .int)
abbrev hhL_hold : zHh := [(0, 6, 7, 23), (0, 6, 11, 15), (0, 6, 15, 17)]
set_option maxRecDepth 20000 in
theorem mfL_hold : zMw mL_hold hhL_hold 3 := ⟨ztb_in (zc4 (List.mem_of_getElem? (i := 187) rfl)) rfl, itL, ⟨by decide +kernel, by decide +kernel, by decide +kernel⟩, by decide⟩
theorem mpL_hold : plainName mL_hold.1.cls = true := by decide +kernel
set_option maxRecDepth 20000 in
theorem mtL_hold : Cond.static mL_hold.1 ∈ ztb := ztb_in (zc4 (List.mem_of_getElem? (i := 186) rfl)) rfl
abbrev mL_release : zM := (yL_release, cL_release, 3, some .int)
abbrev hhL_release : zHh := [(0, 5, 6, 23), (0, 5, 10, 17)]
set_option maxRecDepth 20000 in
theorem mfL_release : zMw mL_release hhL_release 2 := ⟨ztb_in (zc4 (List.mem_of_getElem? (i := 198) rfl)) rfl, itL, ⟨by decide +kernel, by decide +kernel, by decide +kernel⟩, by decide⟩
theorem mpL_release : plainName mL_release.1.cls = true := by decide +kernel
set_option maxRecDepth 20000 in
theorem mtL_release : Cond.static mL_release.1 ∈ ztb := ztb_in (zc4 (List.mem_of_getElem? (i := 197) rfl)) rfl
abbrev mL_read : zM := (yL_read, cL_read, 4, some .int)
abbrev hhL_read : zHh := [(0, 6, 7, 23), (0, 6, 11, 15), (0, 6, 15, 17)]
set_option maxRecDepth 20000 in
theorem mfL_read : zMw mL_read hhL_read 3 := ⟨ztb_in (zc4 (List.mem_of_getElem? (i := 206) rfl)) rfl, itL, ⟨by decide +kernel, by decide +kernel, by decide +kernel⟩, by decide⟩
theorem mpL_read : plainName mL_read.1.cls = true := by decide +kernel
set_option maxRecDepth 20000 in
theorem mtL_read : Cond.static mL_read.1 ∈ ztb := ztb_in (zc4 (List.mem_of_getElem? (i := 205) rfl)) rfl
abbrev mL_control : zM := (yL_control, cL_control, 4, some .int)
abbrev hhL_control : zHh := [(0, 6, 7, 23), (0, 6, 11, 17)]
set_option maxRecDepth 20000 in
theorem mfL_control : zMw mL_control hhL_control 3 := ⟨ztb_in (zc4 (List.mem_of_getElem? (i := 213) rfl)) rfl, itL, ⟨by decide +kernel, by decide +kernel, by decide +kernel⟩, by decide⟩
theorem mpL_control : plainName mL_control.1.cls = true := by decide +kernel
set_option maxRecDepth 20000 in
theorem mtL_control : Cond.static mL_control.1 ∈ ztb := ztb_in (zc4 (List.mem_of_getElem? (i := 212) rfl)) rfl
abbrev mL_limit : zM := (yL_limit, cL_limit, 4, some .int)
abbrev hhL_limit : zHh := [(0, 6, 7, 23), (0, 6, 11, 17)]
set_option maxRecDepth 20000 in
theorem mfL_limit : zMw mL_limit hhL_limit 3 := ⟨ztb_in (zc4 (List.mem_of_getElem? (i := 223) rfl)) rfl, itL, ⟨by decide +kernel, by decide +kernel, by decide +kernel⟩, by decide⟩
theorem mpL_limit : plainName mL_limit.1.cls = true := by decide +kernel
set_option maxRecDepth 20000 in
theorem mtL_limit : Cond.static mL_limit.1 ∈ ztb := ztb_in (zc4 (List.mem_of_getElem? (i := 222) rfl)) rfl
abbrev mL_demand : zM := (yL_demand, cL_demand, 5, some .int)
abbrev hhL_demand : zHh := [(0, 7, 8, 23), (0, 7, 13, 15), (0, 7, 18, 17)]
set_option maxRecDepth 20000 in
theorem mfL_demand : zMw mL_demand hhL_demand 4 := ⟨ztb_in (zc4 (List.mem_of_getElem? (i := 230) rfl)) rfl, itL, ⟨by decide +kernel, by decide +kernel, by decide +kernel⟩, by decide⟩
theorem mpL_demand : plainName mL_demand.1.cls = true := by decide +kernel
set_option maxRecDepth 20000 in
theorem mtL_demand : Cond.static mL_demand.1 ∈ ztb := ztb_in (zc4 (List.mem_of_getElem? (i := 229) rfl)) rfl
abbrev mL_need : zM := (yL_need, cL_need, 5, some .int)
abbrev hhL_need : zHh := [(0, 7, 8, 23), (0, 7, 13, 15), (0, 7, 18, 17)]
set_option maxRecDepth 20000 in
theorem mfL_need : zMw mL_need hhL_need 4 := ⟨ztb_in (zc4 (List.mem_of_getElem? (i := 237) rfl)) rfl, itL, ⟨by decide +kernel, by decide +kernel, by decide +kernel⟩, by decide⟩
theorem mpL_need : plainName mL_need.1.cls = true := by decide +kernel
set_option maxRecDepth 20000 in
theorem mtL_need : Cond.static mL_need.1 ∈ ztb := ztb_in (zc4 (List.mem_of_getElem? (i := 236) rfl)) rfl
abbrev mL_lie : zM := (yL_lie, cL_lie, 4, some .int)
abbrev hhL_lie : zHh := [(0, 6, 7, 23), (0, 6, 11, 15), (0, 6, 15, 17)]
set_option maxRecDepth 20000 in
theorem mfL_lie : zMw mL_lie hhL_lie 3 := ⟨ztb_in (zc5 (List.mem_of_getElem? (i := 5) rfl)) rfl, itL, ⟨by decide +kernel, by decide +kernel, by decide +kernel⟩, by decide⟩
theorem mpL_lie : plainName mL_lie.1.cls = true := by decide +kernel
set_option maxRecDepth 20000 in
theorem mtL_lie : Cond.static mL_lie.1 ∈ ztb := ztb_in (zc5 (List.mem_of_getElem? (i := 4) rfl)) rfl
abbrev mL_mend : zM := (yL_mend, cL_mend, 3, some .int)
abbrev hhL_mend : zHh := [(0, 5, 6, 23), (0, 5, 10, 17)]
set_option maxRecDepth 20000 in
theorem mfL_mend : zMw mL_mend hhL_mend 2 := ⟨ztb_in (zc5 (List.mem_of_getElem? (i := 12) rfl)) rfl, itL, ⟨by decide +kernel, by decide +kernel, by decide +kernel⟩, by decide⟩
theorem mpL_mend : plainName mL_mend.1.cls = true := by decide +kernel
set_option maxRecDepth 20000 in
theorem mtL_mend : Cond.static mL_mend.1 ∈ ztb := ztb_in (zc5 (List.mem_of_getElem? (i := 11) rfl)) rfl
abbrev mL_tick : zM := (yL_tick, cL_tick, 3, some .int)
abbrev hhL_tick : zHh := [(0, 5, 6, 15), (0, 5, 10, 17)]
set_option maxRecDepth 20000 in
theorem mfL_tick : zMw mL_tick hhL_tick 2 := ⟨ztb_in (zc5 (List.mem_of_getElem? (i := 20) rfl)) rfl, itL, ⟨by decide +kernel, by decide +kernel, by decide +kernel⟩, by decide⟩
theorem mpL_tick : plainName mL_tick.1.cls = true := by decide +kernel
set_option maxRecDepth 20000 in
theorem mtL_tick : Cond.static mL_tick.1 ∈ ztb := ztb_in (zc5 (List.mem_of_getElem? (i := 19) rfl)) rfl
set_option maxRecDepth 20000 in
theorem mlL_172 : Cond.methodLink RL 172 mX8_init.1 ∈ ztb := ztb_in (zc1 (List.mem_of_getElem? (i := 26) rfl)) rfl
set_option maxRecDepth 20000 in
theorem mlL_142 : Cond.methodLink RL 142 mX8_steps.1 ∈ ztb := ztb_in (zc2 (List.mem_of_getElem? (i := 56) rfl)) rfl
set_option maxRecDepth 20000 in
theorem mlL_58 : Cond.methodLink RL 58 mX8_undo.1 ∈ ztb := ztb_in (zc2 (List.mem_of_getElem? (i := 69) rfl)) rfl
set_option maxRecDepth 20000 in
theorem mlL_62 : Cond.methodLink RL 62 mX8_value.1 ∈ ztb := ztb_in (zc3 (List.mem_of_getElem? (i := 45) rfl)) rfl
set_option maxRecDepth 20000 in
theorem mlL_66 : Cond.methodLink RL 66 mX8_valueAnew.1 ∈ ztb := ztb_in (zc3 (List.mem_of_getElem? (i := 75) rfl)) rfl
set_option maxRecDepth 20000 in
theorem mlL_91 : Cond.methodLink RL 91 mX8_trial.1 ∈ ztb := ztb_in (zc3 (List.mem_of_getElem? (i := 82) rfl)) rfl
set_option maxRecDepth 20000 in
theorem mlL_97 : Cond.methodLink RL 97 mX8_wipe.1 ∈ ztb := ztb_in (zc3 (List.mem_of_getElem? (i := 113) rfl)) rfl
set_option maxRecDepth 20000 in
theorem mlL_9 : Cond.methodLink RL 9 mX8_type.1 ∈ ztb := ztb_in (zc3 (List.mem_of_getElem? (i := 121) rfl)) rfl
set_option maxRecDepth 20000 in
theorem mlL_109 : Cond.methodLink RL 109 mX8_fault.1 ∈ ztb := ztb_in (zc3 (List.mem_of_getElem? (i := 236) rfl)) rfl
set_option maxRecDepth 20000 in
theorem mlL_19 : Cond.methodLink RL 19 mX8_formula.1 ∈ ztb := ztb_in (zc4 (List.mem_of_getElem? (i := 56) rfl)) rfl
set_option maxRecDepth 20000 in
theorem mlL_69 : Cond.methodLink RL 69 mX8_worth.1 ∈ ztb := ztb_in (zc4 (List.mem_of_getElem? (i := 99) rfl)) rfl
set_option maxRecDepth 20000 in
theorem mlL_75 : Cond.methodLink RL 75 mX8_isStale.1 ∈ ztb := ztb_in (zc4 (List.mem_of_getElem? (i := 107) rfl)) rfl
set_option maxRecDepth 20000 in
theorem mlL_72 : Cond.methodLink RL 72 mX8_depth.1 ∈ ztb := ztb_in (zc4 (List.mem_of_getElem? (i := 115) rfl)) rfl
set_option maxRecDepth 20000 in
theorem mlL_79 : Cond.methodLink RL 79 mX8_state.1 ∈ ztb := ztb_in (zc4 (List.mem_of_getElem? (i := 124) rfl)) rfl
set_option maxRecDepth 20000 in
theorem mlL_82 : Cond.methodLink RL 82 mX8_load.1 ∈ ztb := ztb_in (zc4 (List.mem_of_getElem? (i := 131) rfl)) rfl
set_option maxRecDepth 20000 in
theorem mlL_85 : Cond.methodLink RL 85 mX8_told.1 ∈ ztb := ztb_in (zc4 (List.mem_of_getElem? (i := 138) rfl)) rfl
set_option maxRecDepth 20000 in
theorem mlL_88 : Cond.methodLink RL 88 mX8_starts.1 ∈ ztb := ztb_in (zc4 (List.mem_of_getElem? (i := 145) rfl)) rfl
set_option maxRecDepth 20000 in
theorem mlL_94 : Cond.methodLink RL 94 mX8_isLoop.1 ∈ ztb := ztb_in (zc4 (List.mem_of_getElem? (i := 155) rfl)) rfl
set_option maxRecDepth 20000 in
theorem mlL_136 : Cond.methodLink RL 136 mX8_now.1 ∈ ztb := ztb_in (zc4 (List.mem_of_getElem? (i := 168) rfl)) rfl
set_option maxRecDepth 20000 in
theorem mlL_139 : Cond.methodLink RL 139 mX8_work.1 ∈ ztb := ztb_in (zc4 (List.mem_of_getElem? (i := 172) rfl)) rfl
set_option maxRecDepth 20000 in
theorem mlL_25 : Cond.methodLink RL 25 mX8_hold.1 ∈ ztb := ztb_in (zc4 (List.mem_of_getElem? (i := 188) rfl)) rfl
set_option maxRecDepth 20000 in
theorem mlL_29 : Cond.methodLink RL 29 mX8_release.1 ∈ ztb := ztb_in (zc4 (List.mem_of_getElem? (i := 199) rfl)) rfl
set_option maxRecDepth 20000 in
theorem mlL_32 : Cond.methodLink RL 32 mX8_read.1 ∈ ztb := ztb_in (zc4 (List.mem_of_getElem? (i := 207) rfl)) rfl
set_option maxRecDepth 20000 in
theorem mlL_35 : Cond.methodLink RL 35 mX8_control.1 ∈ ztb := ztb_in (zc4 (List.mem_of_getElem? (i := 214) rfl)) rfl
set_option maxRecDepth 20000 in
theorem mlL_38 : Cond.methodLink RL 38 mX8_limit.1 ∈ ztb := ztb_in (zc4 (List.mem_of_getElem? (i := 224) rfl)) rfl
set_option maxRecDepth 20000 in
theorem mlL_41 : Cond.methodLink RL 41 mX8_demand.1 ∈ ztb := ztb_in (zc4 (List.mem_of_getElem? (i := 231) rfl)) rfl
set_option maxRecDepth 20000 in
theorem mlL_45 : Cond.methodLink RL 45 mX8_need.1 ∈ ztb := ztb_in (zc4 (List.mem_of_getElem? (i := 238) rfl)) rfl
set_option maxRecDepth 20000 in
theorem mlL_49 : Cond.methodLink RL 49 mX8_lie.1 ∈ ztb := ztb_in (zc5 (List.mem_of_getElem? (i := 6) rfl)) rfl
set_option maxRecDepth 20000 in
theorem mlL_52 : Cond.methodLink RL 52 mX8_mend.1 ∈ ztb := ztb_in (zc5 (List.mem_of_getElem? (i := 13) rfl)) rfl
set_option maxRecDepth 20000 in
theorem mlL_55 : Cond.methodLink RL 55 mX8_tick.1 ∈ ztb := ztb_in (zc5 (List.mem_of_getElem? (i := 21) rfl)) rfl
set_option maxRecDepth 20000 in
theorem mwL_194 : Cond.methodLink RL 194 mL_undo.1 ∈ ztb := ztb_in (zc2 (List.mem_of_getElem? (i := 65) rfl)) rfl
set_option maxRecDepth 20000 in
theorem mwL_114 : Cond.methodLink RL 114 mL_value.1 ∈ ztb := ztb_in (zc3 (List.mem_of_getElem? (i := 41) rfl)) rfl
set_option maxRecDepth 20000 in
theorem mwL_191 : Cond.methodLink RL 191 mL_anew.1 ∈ ztb := ztb_in (zc3 (List.mem_of_getElem? (i := 72) rfl)) rfl
set_option maxRecDepth 20000 in
theorem mwL_197 : Cond.methodLink RL 197 mL_trial.1 ∈ ztb := ztb_in (zc3 (List.mem_of_getElem? (i := 79) rfl)) rfl
set_option maxRecDepth 20000 in
theorem mwL_100 : Cond.methodLink RL 100 mL_type.1 ∈ ztb := ztb_in (zc3 (List.mem_of_getElem? (i := 117) rfl)) rfl
set_option maxRecDepth 20000 in
theorem mwL_112 : Cond.methodLink RL 112 mL_formula.1 ∈ ztb := ztb_in (zc4 (List.mem_of_getElem? (i := 53) rfl)) rfl
set_option maxRecDepth 20000 in
theorem mwL_116 : Cond.methodLink RL 116 mL_worth.1 ∈ ztb := ztb_in (zc4 (List.mem_of_getElem? (i := 96) rfl)) rfl
set_option maxRecDepth 20000 in
theorem mwL_118 : Cond.methodLink RL 118 mL_stale.1 ∈ ztb := ztb_in (zc4 (List.mem_of_getElem? (i := 104) rfl)) rfl
set_option maxRecDepth 20000 in
theorem mwL_121 : Cond.methodLink RL 121 mL_depth.1 ∈ ztb := ztb_in (zc4 (List.mem_of_getElem? (i := 112) rfl)) rfl
set_option maxRecDepth 20000 in
theorem mwL_125 : Cond.methodLink RL 125 mL_state.1 ∈ ztb := ztb_in (zc4 (List.mem_of_getElem? (i := 121) rfl)) rfl
set_option maxRecDepth 20000 in
theorem mwL_127 : Cond.methodLink RL 127 mL_load.1 ∈ ztb := ztb_in (zc4 (List.mem_of_getElem? (i := 128) rfl)) rfl
set_option maxRecDepth 20000 in
theorem mwL_129 : Cond.methodLink RL 129 mL_told.1 ∈ ztb := ztb_in (zc4 (List.mem_of_getElem? (i := 135) rfl)) rfl
set_option maxRecDepth 20000 in
theorem mwL_131 : Cond.methodLink RL 131 mL_starts.1 ∈ ztb := ztb_in (zc4 (List.mem_of_getElem? (i := 142) rfl)) rfl
set_option maxRecDepth 20000 in
theorem mwL_133 : Cond.methodLink RL 133 mL_loop.1 ∈ ztb := ztb_in (zc4 (List.mem_of_getElem? (i := 152) rfl)) rfl
set_option maxRecDepth 20000 in
theorem mwL_149 : Cond.methodLink RL 149 mL_hold.1 ∈ ztb := ztb_in (zc4 (List.mem_of_getElem? (i := 185) rfl)) rfl
set_option maxRecDepth 20000 in
theorem mwL_152 : Cond.methodLink RL 152 mL_release.1 ∈ ztb := ztb_in (zc4 (List.mem_of_getElem? (i := 196) rfl)) rfl
set_option maxRecDepth 20000 in
theorem mwL_154 : Cond.methodLink RL 154 mL_read.1 ∈ ztb := ztb_in (zc4 (List.mem_of_getElem? (i := 204) rfl)) rfl
set_option maxRecDepth 20000 in
theorem mwL_156 : Cond.methodLink RL 156 mL_control.1 ∈ ztb := ztb_in (zc4 (List.mem_of_getElem? (i := 211) rfl)) rfl
set_option maxRecDepth 20000 in
theorem mwL_158 : Cond.methodLink RL 158 mL_limit.1 ∈ ztb := ztb_in (zc4 (List.mem_of_getElem? (i := 221) rfl)) rfl
set_option maxRecDepth 20000 in
theorem mwL_160 : Cond.methodLink RL 160 mL_demand.1 ∈ ztb := ztb_in (zc4 (List.mem_of_getElem? (i := 228) rfl)) rfl
set_option maxRecDepth 20000 in
theorem mwL_163 : Cond.methodLink RL 163 mL_need.1 ∈ ztb := ztb_in (zc4 (List.mem_of_getElem? (i := 235) rfl)) rfl
set_option maxRecDepth 20000 in
theorem mwL_166 : Cond.methodLink RL 166 mL_lie.1 ∈ ztb := ztb_in (zc5 (List.mem_of_getElem? (i := 3) rfl)) rfl
set_option maxRecDepth 20000 in
theorem mwL_168 : Cond.methodLink RL 168 mL_mend.1 ∈ ztb := ztb_in (zc5 (List.mem_of_getElem? (i := 10) rfl)) rfl
set_option maxRecDepth 20000 in
theorem mwL_170 : Cond.methodLink RL 170 mL_tick.1 ∈ ztb := ztb_in (zc5 (List.mem_of_getElem? (i := 18) rfl)) rfl
section ZCW
variable {l : Launch} {Z : zZ} {τ : zT} {M : zM} {kk mc ms : Nat} {F : State → Prop} {pc : Nat} {L : List (Option Value)} {st : List Value} {μ : zMem} {c k : Nat}
theorem J_callW (hY : zCy l Z τ M kk mc ms) {m : zM} {hh : zHh} {n k' mc' ms' idx : Nat} {as stk : List Value} {Q' : Option Value → zMem → Prop} (hd : decode M.2.1 pc = .ok (.invokestatic idx, 3)) (hm : zMw m hh n) (hsta : Cond.static m.1 ∈ ztb) (hlink : Cond.methodLink M.1.cls idx m.1 ∈ ztb)
    (ct : zCtW l Z m hh k' mc' ms' as μ Q') (hn : as.length = n) (hkk : k' < kk) (hs : stk = as.reverse ++ st) (hL : L.length = M.2.2.1) (h8 : (st.map fun v => v.category).sum ≤ 8) (hc : c + mc' ≤ mc) (hk : k + ms' ≤ ms)
    (h : ∀ (r : Option Value) (μ' : zMem), Q' r μ' → zJ τ F (pc + 3) L (r.toList ++ st) μ' (c + mc') (k + ms')) : zJ τ F pc L stk μ c k := by
  intro ad H locs ls hw hLo hst
  subst hs
  obtain ⟨hT, el, eZ⟩ := hY
  subst el; subst eZ
  obtain ⟨_, _, _, _, _, _, _, _, _, hWm, hB, hfr, hlo, hcc, hss⟩ := id hT
  have hst1 : zoks (zN μ) st := fun v hv => hst v (List.mem_append_right _ hv)
  have hoa : zoks (zN μ) as := fun v hv => hst v (List.mem_append_left _ (List.mem_reverse.mpr hv))
  have hp : PreS τ.2.2.2.2.1 H (zPc τ.2.2.2.2.2.2.2.2.2.2.1 ad μ as) (as.map (ztv ad)) := ⟨zPc_blind _ _ _ _, fun U hU hWU => ⟨rfl, hWm.trans hWU, by rw [hU]; exact hw.1, by rw [hU]; exact zHS.B hT hw⟩⟩
  have hst0 : (as.reverse ++ st).map (ztv ad) = (as.map (ztv ad)).reverse ++ st.map (ztv ad) := by rw [List.map_append, List.map_reverse]
  have hG : GoodIn ztb (va_wsS M.1.cls idx m.1 (zwsw m hh)) := by
    have g : ∀ w, w ∈ ztb → w ∈ ztb ∧ ((w.onTables && w.keeps) = true ∨ ∃ ty, w = .arrayClass ty) := fun w hw => ⟨hw, good_of_word (ztb_good _ hw).2⟩
    intro w hw
    unfold va_wsS zwsw at hw
    rcases List.mem_append.mp hw with q | q
    · simp only [List.mem_cons, List.not_mem_nil, or_false] at q
      rcases q with rfl | rfl | rfl
      · exact g _ hlink
      · exact g _ hsta
      · exact g _ hm.2.1
    · rcases List.mem_cons.mp q with rfl | q
      · exact g _ hm.1
      · exact g _ q
  exact zback hT hw hLo hst1 (vx_runSW (Ts := ztb) ⟨hT.1, hT.2.1, hT.2.2.1, hT.own, hT.ws⟩ (ct ad hoa) (vx_cwSW n hT.ws hG rfl rfl rfl hm.2.2.1 (zroom hkk hfr hlo hm.2.2.2 mc' ms')) hp rfl (by rw [List.length_map]; exact hn) (hLo.1.trans hL) hst0 (lv_room (by rw [zcat8]; exact h8)) hd ⟨by omega, by omega⟩) h
theorem R_callW1 (hY : zCy l Z τ M kk mc ms) {m : zM} {hh : zHh} {n k' idx : Nat} {as stk : List Value} {v : Value} {μ0 μ1 : zMem} (hd : decode M.2.1 pc = .ok (.invokestatic idx, 3)) (hm : zMw m hh n) (hsta : Cond.static m.1 ∈ ztb) (hlink : Cond.methodLink M.1.cls idx m.1 ∈ ztb)
    (ct : zCtW l Z m hh k' 0 0 as μ0 (fun r μ' => r = some v ∧ μ' = μ1)) (hn : as.length = n) (hkk : k' < kk) (hs : stk = as.reverse ++ st) (hL : L.length = M.2.2.1) (h8 : (st.map fun v => v.category).sum ≤ 8) (hc : c ≤ mc) (hk : k ≤ ms)
    (h : zJ τ F (pc + 3) L (v :: st) μ1 c k) : zJ τ F pc L stk μ0 c k :=
  J_callW hY hd hm hsta hlink ct hn hkk hs hL h8 hc hk (fun r μ' q => by obtain ⟨rfl, rfl⟩ := q; exact h)
theorem zCtW_mono {m : zM} {hh : zHh} {kc mc' ms' : Nat} {a : List Value} {Q Q' : Option Value → zMem → Prop} (h : zCtW l Z m hh kc mc' ms' a μ Q) (hQ : ∀ r μ', Q r μ' → Q' r μ') : zCtW l Z m hh kc mc' ms' a μ Q' := by
  intro ad ho
  have h1 := h ad ho
  intro p e h2 h3 h4 s m' args below hf happ hP hK
  obtain ⟨t, o, g1, g2, g3, ⟨r, μ', ad', q1, q2, q3⟩, g5⟩ := h1 p e h2 h3 h4 s m' args below hf happ hP hK
  exact ⟨t, o, g1, g2, g3, ⟨r, μ', ad', q1, hQ _ _ q2, q3⟩, g5⟩
end ZCW
set_option maxRecDepth 100000 in
set_option maxHeartbeats 4000000 in
theorem w_undo {l : Launch} {Z : zZ} (hZ : zSt l Z) {μ : zMem} {k mc ms : Nat} (h0 : zK μ 0 = 8 + 8) {Q : Int32 → zMem → Prop} (ct : zCt l Z mX8_undo k mc ms [.ref 0] μ (fun r μx => ∃ x, r = some (.int x) ∧ Q x μx)) : zCtW l Z mL_undo hhL_undo (k + 1) mc ms [.ref 0] μ (fun r μx => ∃ x, r = some (.int x) ∧ Q x μx) := by
  refine zCtW_of hZ mpL_undo (Nat.le_of_ble_eq_true rfl) (L := [some (.ref 0), none]) rfl (fun τ hYW => ?_)
  have hY := hYW.1
  have hT := hY.1
  refine J_aload_n (i := 0) hT dL_undo_0 rfl rfl ?_
  refine J_callV (ci := 8) hY dL_undo_1 mfX8_undo miX8_undo msX8_undo kL_58 ⟨by decide, rfl⟩ h0 ct rfl (Nat.lt_succ_self _) rfl rfl (Nat.le_of_ble_eq_true rfl) (Nat.le_of_eq (Nat.zero_add _)) (Nat.le_of_eq (Nat.zero_add _)) (fun r1 μ1 hq => ?_)
  obtain ⟨x, rfl, hq⟩ := hq
  show zJ _ _ _ _ (.int x :: _) _ _ _
  exact J_iret hT dL_undo_4 rfl rfl (⟨x, rfl, hq⟩) (Nat.le_of_eq (Nat.zero_add _)) (Nat.le_of_eq (Nat.zero_add _))

set_option maxRecDepth 100000 in
set_option maxHeartbeats 4000000 in
theorem w_value {l : Launch} {Z : zZ} (hZ : zSt l Z) {μ : zMem} {k mc ms : Nat} {a : Int32} (h0 : zK μ 0 = 8 + 8) {Q : Int32 → zMem → Prop} (ct : zCt l Z mX8_value k mc ms [.ref 0, .int a] μ (fun r μx => ∃ x, r = some (.int x) ∧ Q x μx)) : zCtW l Z mL_value hhL_value (k + 1) mc ms [.ref 0, .int a] μ (fun r μx => ∃ x, r = some (.int x) ∧ Q x μx) := by
  refine zCtW_of hZ mpL_value (Nat.le_of_ble_eq_true rfl) (L := [some (.ref 0), some (.int a), none]) rfl (fun τ hYW => ?_)
  have hY := hYW.1
  have hT := hY.1
  refine J_aload_n (i := 0) hT dL_value_0 rfl rfl ?_
  refine J_iload_n (i := 1) hT dL_value_1 rfl rfl ?_
  refine J_callV (ci := 8) hY dL_value_2 mfX8_value miX8_value msX8_value kL_62 ⟨by decide, rfl⟩ h0 ct rfl (Nat.lt_succ_self _) rfl rfl (Nat.le_of_ble_eq_true rfl) (Nat.le_of_eq (Nat.zero_add _)) (Nat.le_of_eq (Nat.zero_add _)) (fun r1 μ1 hq => ?_)
  obtain ⟨x, rfl, hq⟩ := hq
  show zJ _ _ _ _ (.int x :: _) _ _ _
  exact J_iret hT dL_value_5 rfl rfl (⟨x, rfl, hq⟩) (Nat.le_of_eq (Nat.zero_add _)) (Nat.le_of_eq (Nat.zero_add _))

set_option maxRecDepth 100000 in
set_option maxHeartbeats 4000000 in
theorem w_anew {l : Launch} {Z : zZ} (hZ : zSt l Z) {μ : zMem} {k mc ms : Nat} {a : Int32} (h0 : zK μ 0 = 8 + 8) {Q : Int32 → zMem → Prop} (ct : zCt l Z mX8_valueAnew k mc ms [.ref 0, .int a] μ (fun r μx => ∃ x, r = some (.int x) ∧ Q x μx)) : zCtW l Z mL_anew hhL_anew (k + 1) mc ms [.ref 0, .int a] μ (fun r μx => ∃ x, r = some (.int x) ∧ Q x μx) := by
  refine zCtW_of hZ mpL_anew (Nat.le_of_ble_eq_true rfl) (L := [some (.ref 0), some (.int a), none]) rfl (fun τ hYW => ?_)
  have hY := hYW.1
  have hT := hY.1
  refine J_aload_n (i := 0) hT dL_anew_0 rfl rfl ?_
  refine J_iload_n (i := 1) hT dL_anew_1 rfl rfl ?_
  refine J_callV (ci := 8) hY dL_anew_2 mfX8_valueAnew miX8_valueAnew msX8_valueAnew kL_66 ⟨by decide, rfl⟩ h0 ct rfl (Nat.lt_succ_self _) rfl rfl (Nat.le_of_ble_eq_true rfl) (Nat.le_of_eq (Nat.zero_add _)) (Nat.le_of_eq (Nat.zero_add _)) (fun r1 μ1 hq => ?_)
  obtain ⟨x, rfl, hq⟩ := hq
  show zJ _ _ _ _ (.int x :: _) _ _ _
  exact J_iret hT dL_anew_5 rfl rfl (⟨x, rfl, hq⟩) (Nat.le_of_eq (Nat.zero_add _)) (Nat.le_of_eq (Nat.zero_add _))

set_option maxRecDepth 100000 in
set_option maxHeartbeats 4000000 in
theorem w_trial {l : Launch} {Z : zZ} (hZ : zSt l Z) {μ : zMem} {k mc ms : Nat} {a : Int32} (h0 : zK μ 0 = 8 + 8) {Q : Int32 → zMem → Prop} (ct : zCt l Z mX8_trial k mc ms [.ref 0, .int a] μ (fun r μx => ∃ x, r = some (.int x) ∧ Q x μx)) : zCtW l Z mL_trial hhL_trial (k + 1) mc ms [.ref 0, .int a] μ (fun r μx => ∃ x, r = some (.int x) ∧ Q x μx) := by
  refine zCtW_of hZ mpL_trial (Nat.le_of_ble_eq_true rfl) (L := [some (.ref 0), some (.int a), none]) rfl (fun τ hYW => ?_)
  have hY := hYW.1
  have hT := hY.1
  refine J_aload_n (i := 0) hT dL_trial_0 rfl rfl ?_
  refine J_iload_n (i := 1) hT dL_trial_1 rfl rfl ?_
  refine J_callV (ci := 8) hY dL_trial_2 mfX8_trial miX8_trial msX8_trial kL_91 ⟨by decide, rfl⟩ h0 ct rfl (Nat.lt_succ_self _) rfl rfl (Nat.le_of_ble_eq_true rfl) (Nat.le_of_eq (Nat.zero_add _)) (Nat.le_of_eq (Nat.zero_add _)) (fun r1 μ1 hq => ?_)
  obtain ⟨x, rfl, hq⟩ := hq
  show zJ _ _ _ _ (.int x :: _) _ _ _
  exact J_iret hT dL_trial_5 rfl rfl (⟨x, rfl, hq⟩) (Nat.le_of_eq (Nat.zero_add _)) (Nat.le_of_eq (Nat.zero_add _))

set_option maxRecDepth 100000 in
set_option maxHeartbeats 4000000 in
theorem w_type {l : Launch} {Z : zZ} (hZ : zSt l Z) {μ : zMem} {k mc ms : Nat} {a : Int32} (h0 : zK μ 0 = 8 + 8) {Q : Int32 → zMem → Prop} (ct : zCt l Z mX8_type k mc ms [.ref 0, .int (a.toUInt32 % 65536).toInt32] μ (fun r μx => ∃ x, r = some (.int x) ∧ Q x μx)) : zCtW l Z mL_type hhL_type (k + 1) mc ms [.ref 0, .int a] μ (fun r μx => ∃ x, r = some (.int x) ∧ Q x μx) := by
  refine zCtW_of hZ mpL_type (Nat.le_of_ble_eq_true rfl) (L := [some (.ref 0), some (.int a), none]) rfl (fun τ hYW => ?_)
  have hY := hYW.1
  have hT := hY.1
  refine J_aload_n (i := 0) hT dL_type_0 rfl rfl ?_
  refine J_iload_n (i := 1) hT dL_type_1 rfl rfl ?_
  refine J_i2c hT dL_type_2 ?_
  refine J_callV (ci := 8) hY dL_type_3 mfX8_type miX8_type msX8_type kL_9 ⟨by decide, rfl⟩ h0 ct rfl (Nat.lt_succ_self _) rfl rfl (Nat.le_of_ble_eq_true rfl) (Nat.le_of_eq (Nat.zero_add _)) (Nat.le_of_eq (Nat.zero_add _)) (fun r1 μ1 hq => ?_)
  obtain ⟨x, rfl, hq⟩ := hq
  show zJ _ _ _ _ (.int x :: _) _ _ _
  exact J_iret hT dL_type_6 rfl rfl (⟨x, rfl, hq⟩) (Nat.le_of_eq (Nat.zero_add _)) (Nat.le_of_eq (Nat.zero_add _))

set_option maxRecDepth 100000 in
set_option maxHeartbeats 4000000 in
theorem w_formula {l : Launch} {Z : zZ} (hZ : zSt l Z) {μ : zMem} {k mc ms : Nat} {a : Int32} (h0 : zK μ 0 = 8 + 8) {Q : Int32 → zMem → Prop} (ct : zCt l Z mX8_formula k mc ms [.ref 0, .int a] μ (fun r μx => ∃ x, r = some (.int x) ∧ Q x μx)) : zCtW l Z mL_formula hhL_formula (k + 1) mc ms [.ref 0, .int a] μ (fun r μx => ∃ x, r = some (.int x) ∧ Q x μx) := by
  refine zCtW_of hZ mpL_formula (Nat.le_of_ble_eq_true rfl) (L := [some (.ref 0), some (.int a), none]) rfl (fun τ hYW => ?_)
  have hY := hYW.1
  have hT := hY.1
  refine J_aload_n (i := 0) hT dL_formula_0 rfl rfl ?_
  refine J_iload_n (i := 1) hT dL_formula_1 rfl rfl ?_
  refine J_callV (ci := 8) hY dL_formula_2 mfX8_formula miX8_formula msX8_formula kL_19 ⟨by decide, rfl⟩ h0 ct rfl (Nat.lt_succ_self _) rfl rfl (Nat.le_of_ble_eq_true rfl) (Nat.le_of_eq (Nat.zero_add _)) (Nat.le_of_eq (Nat.zero_add _)) (fun r1 μ1 hq => ?_)
  obtain ⟨x, rfl, hq⟩ := hq
  show zJ _ _ _ _ (.int x :: _) _ _ _
  exact J_iret hT dL_formula_5 rfl rfl (⟨x, rfl, hq⟩) (Nat.le_of_eq (Nat.zero_add _)) (Nat.le_of_eq (Nat.zero_add _))

set_option maxRecDepth 100000 in
set_option maxHeartbeats 4000000 in
theorem w_formula_iob {l : Launch} {Z : zZ} (hZ : zSt l Z) {μ : zMem} {k mc ms : Nat} {a : Int32} (h0 : zK μ 0 = 8 + 8) (hN : zNs Z) {Q : zMem → Prop} (ct : zCtX l Z mX8_formula k mc ms [.ref 0, .int a] μ "java/lang/IndexOutOfBoundsException" Q) : zCtW l Z mL_formula hhL_formula (k + 1) mc ms [.ref 0, .int a] μ (fun r μx => r = some (.int (-101)) ∧ Q μx) := by
  refine zCtW_of hZ mpL_formula (Nat.le_of_ble_eq_true rfl) (L := [some (.ref 0), some (.int a), none]) rfl (fun τ hYW => ?_)
  have hY := hYW.1
  have hT := hY.1
  refine J_aload_n (i := 0) hT dL_formula_0 rfl rfl ?_
  refine J_iload_n (i := 1) hT dL_formula_1 rfl rfl ?_
  refine J_callVC (ci := 8) (i := 2) (hpc := 6) (nx := 7) hYW dL_formula_2 mfX8_formula miX8_formula msX8_formula ⟨by decide, rfl⟩ h0 ct rfl (Nat.lt_succ_self _) rfl rfl (Nat.le_of_ble_eq_true rfl) (Nat.le_of_eq (Nat.zero_add _)) (Nat.le_of_eq (Nat.zero_add _)) mlL_19 [] [(0, 5, 10, 15), (0, 5, 14, 17)] 23 0 5 rfl (fun _ h => nomatch h) (by decide) (by decide) kcL_23 cs_iob (Or.inl ⟨_, dL_formula_6, rfl, rfl⟩) (Nat.le_of_ble_eq_true rfl) (fun μ1 hq => ?_)
  refine J_bipush (v := -101) hT dL_formula_7 rfl ?_
  exact J_iret hT dL_formula_9 rfl rfl (⟨rfl, hq⟩) (Nat.le_of_eq (Nat.zero_add _)) (Nat.le_of_eq (Nat.zero_add _))

set_option maxRecDepth 100000 in
set_option maxHeartbeats 4000000 in
theorem w_formula_iae {l : Launch} {Z : zZ} (hZ : zSt l Z) {μ : zMem} {k mc ms : Nat} {a : Int32} (h0 : zK μ 0 = 8 + 8) (hN : zNs Z) {Q : zMem → Prop} (ct : zCtX l Z mX8_formula k mc ms [.ref 0, .int a] μ "java/lang/IllegalArgumentException" Q) : zCtW l Z mL_formula hhL_formula (k + 1) mc ms [.ref 0, .int a] μ (fun r μx => r = some (.int (-102)) ∧ Q μx) := by
  refine zCtW_of hZ mpL_formula (Nat.le_of_ble_eq_true rfl) (L := [some (.ref 0), some (.int a), none]) rfl (fun τ hYW => ?_)
  have hY := hYW.1
  have hT := hY.1
  refine J_aload_n (i := 0) hT dL_formula_0 rfl rfl ?_
  refine J_iload_n (i := 1) hT dL_formula_1 rfl rfl ?_
  refine J_callVC (ci := 8) (i := 2) (hpc := 10) (nx := 11) hYW dL_formula_2 mfX8_formula miX8_formula msX8_formula ⟨by decide, rfl⟩ h0 ct rfl (Nat.lt_succ_self _) rfl rfl (Nat.le_of_ble_eq_true rfl) (Nat.le_of_eq (Nat.zero_add _)) (Nat.le_of_eq (Nat.zero_add _)) mlL_19 [(0, 5, 6, 23)] [(0, 5, 14, 17)] 15 0 5 rfl (fun z hz => by rcases List.mem_singleton.mp hz with rfl; exact ⟨by decide, _, kcL_23, hN.1⟩) (by decide) (by decide) kcL_15 cs_iae (Or.inl ⟨_, dL_formula_10, rfl, rfl⟩) (Nat.le_of_ble_eq_true rfl) (fun μ1 hq => ?_)
  refine J_bipush (v := -102) hT dL_formula_11 rfl ?_
  exact J_iret hT dL_formula_13 rfl rfl (⟨rfl, hq⟩) (Nat.le_of_eq (Nat.zero_add _)) (Nat.le_of_eq (Nat.zero_add _))

set_option maxRecDepth 100000 in
set_option maxHeartbeats 4000000 in
theorem w_formula_ise {l : Launch} {Z : zZ} (hZ : zSt l Z) {μ : zMem} {k mc ms : Nat} {a : Int32} (h0 : zK μ 0 = 8 + 8) (hN : zNs Z) {Q : zMem → Prop} (ct : zCtX l Z mX8_formula k mc ms [.ref 0, .int a] μ "java/lang/IllegalStateException" Q) : zCtW l Z mL_formula hhL_formula (k + 1) mc ms [.ref 0, .int a] μ (fun r μx => r = some (.int (-103)) ∧ Q μx) := by
  refine zCtW_of hZ mpL_formula (Nat.le_of_ble_eq_true rfl) (L := [some (.ref 0), some (.int a), none]) rfl (fun τ hYW => ?_)
  have hY := hYW.1
  have hT := hY.1
  refine J_aload_n (i := 0) hT dL_formula_0 rfl rfl ?_
  refine J_iload_n (i := 1) hT dL_formula_1 rfl rfl ?_
  refine J_callVC (ci := 8) (i := 2) (hpc := 14) (nx := 15) hYW dL_formula_2 mfX8_formula miX8_formula msX8_formula ⟨by decide, rfl⟩ h0 ct rfl (Nat.lt_succ_self _) rfl rfl (Nat.le_of_ble_eq_true rfl) (Nat.le_of_eq (Nat.zero_add _)) (Nat.le_of_eq (Nat.zero_add _)) mlL_19 [(0, 5, 6, 23), (0, 5, 10, 15)] [] 17 0 5 rfl (fun z hz => by
    rcases List.mem_cons.mp hz with rfl | hz
    · exact ⟨by decide, _, kcL_23, hN.2.1⟩
    · rcases List.mem_singleton.mp hz with rfl; exact ⟨by decide, _, kcL_15, hN.2.2⟩) (by decide) (by decide) kcL_17 cs_ise (Or.inl ⟨_, dL_formula_14, rfl, rfl⟩) (Nat.le_of_ble_eq_true rfl) (fun μ1 hq => ?_)
  refine J_bipush (v := -103) hT dL_formula_15 rfl ?_
  exact J_iret hT dL_formula_17 rfl rfl (⟨rfl, hq⟩) (Nat.le_of_eq (Nat.zero_add _)) (Nat.le_of_eq (Nat.zero_add _))

set_option maxRecDepth 100000 in
set_option maxHeartbeats 4000000 in
theorem w_worth {l : Launch} {Z : zZ} (hZ : zSt l Z) {μ : zMem} {k mc ms : Nat} {a : Int32} (h0 : zK μ 0 = 8 + 8) {Q : Int32 → zMem → Prop} (ct : zCt l Z mX8_worth k mc ms [.ref 0, .int a] μ (fun r μx => ∃ x, r = some (.int x) ∧ Q x μx)) : zCtW l Z mL_worth hhL_worth (k + 1) mc ms [.ref 0, .int a] μ (fun r μx => ∃ x, r = some (.int x) ∧ Q x μx) := by
  refine zCtW_of hZ mpL_worth (Nat.le_of_ble_eq_true rfl) (L := [some (.ref 0), some (.int a), none]) rfl (fun τ hYW => ?_)
  have hY := hYW.1
  have hT := hY.1
  refine J_aload_n (i := 0) hT dL_worth_0 rfl rfl ?_
  refine J_iload_n (i := 1) hT dL_worth_1 rfl rfl ?_
  refine J_callV (ci := 8) hY dL_worth_2 mfX8_worth miX8_worth msX8_worth kL_69 ⟨by decide, rfl⟩ h0 ct rfl (Nat.lt_succ_self _) rfl rfl (Nat.le_of_ble_eq_true rfl) (Nat.le_of_eq (Nat.zero_add _)) (Nat.le_of_eq (Nat.zero_add _)) (fun r1 μ1 hq => ?_)
  obtain ⟨x, rfl, hq⟩ := hq
  show zJ _ _ _ _ (.int x :: _) _ _ _
  exact J_iret hT dL_worth_5 rfl rfl (⟨x, rfl, hq⟩) (Nat.le_of_eq (Nat.zero_add _)) (Nat.le_of_eq (Nat.zero_add _))

set_option maxRecDepth 100000 in
set_option maxHeartbeats 4000000 in
theorem w_stale {l : Launch} {Z : zZ} (hZ : zSt l Z) {μ : zMem} {k : Nat} {a : Int32} (h0 : zK μ 0 = 8 + 8) {bo : Bool} (ct : zCt l Z mX8_isStale k 0 0 [.ref 0, .int a] μ (fun r μx => r = some (.int (zbi bo)) ∧ μx = μ)) : zCtW l Z mL_stale hhL_stale (k + 1) 0 0 [.ref 0, .int a] μ (fun r μx => r = some (.int (zbi bo)) ∧ μx = μ) := by
  refine zCtW_of hZ mpL_stale (Nat.le_of_ble_eq_true rfl) (L := [some (.ref 0), some (.int a), none]) rfl (fun τ hYW => ?_)
  have hY := hYW.1
  have hT := hY.1
  cases bo with
  | true =>
    refine J_aload_n (i := 0) hT dL_stale_0 rfl rfl ?_
    refine J_iload_n (i := 1) hT dL_stale_1 rfl rfl ?_
    refine R_callV1 (ci := 8) hY dL_stale_2 mfX8_isStale miX8_isStale msX8_isStale kL_75 ⟨by decide, rfl⟩ h0 ct rfl (Nat.lt_succ_self _) rfl rfl (Nat.le_of_ble_eq_true rfl) (Nat.le_refl _) (Nat.le_refl _) ?_
    refine J_if_eq (tgt := 12) hT dL_stale_5 (by decide) (fun q => absurd q ((by decide))) (fun _ => ?_)
    refine J_iconst (v := 1) hT dL_stale_8 rfl ?_
    refine J_goto (tgt := 13) hT dL_stale_9 (by decide) ?_
    exact J_iret hT dL_stale_13 rfl rfl (⟨rfl, rfl⟩) (Nat.le_refl _) (Nat.le_refl _)
  | false =>
    refine J_aload_n (i := 0) hT dL_stale_0 rfl rfl ?_
    refine J_iload_n (i := 1) hT dL_stale_1 rfl rfl ?_
    refine R_callV1 (ci := 8) hY dL_stale_2 mfX8_isStale miX8_isStale msX8_isStale kL_75 ⟨by decide, rfl⟩ h0 ct rfl (Nat.lt_succ_self _) rfl rfl (Nat.le_of_ble_eq_true rfl) (Nat.le_refl _) (Nat.le_refl _) ?_
    refine J_if_eq (tgt := 12) hT dL_stale_5 (by decide) (fun _ => ?_) (fun q => absurd (rfl) q)
    refine J_iconst (v := 0) hT dL_stale_12 rfl ?_
    exact J_iret hT dL_stale_13 rfl rfl (⟨rfl, rfl⟩) (Nat.le_refl _) (Nat.le_refl _)

set_option maxRecDepth 100000 in
set_option maxHeartbeats 4000000 in
theorem w_depth {l : Launch} {Z : zZ} (hZ : zSt l Z) {μ : zMem} {k mc ms : Nat} {a : Int32} (h0 : zK μ 0 = 8 + 8) {Q : Int32 → zMem → Prop} (ct : zCt l Z mX8_depth k mc ms [.ref 0, .int a] μ (fun r μx => ∃ x, r = some (.int x) ∧ Q x μx)) : zCtW l Z mL_depth hhL_depth (k + 1) mc ms [.ref 0, .int a] μ (fun r μx => ∃ x, r = some (.int x) ∧ Q x μx) := by
  refine zCtW_of hZ mpL_depth (Nat.le_of_ble_eq_true rfl) (L := [some (.ref 0), some (.int a), none]) rfl (fun τ hYW => ?_)
  have hY := hYW.1
  have hT := hY.1
  refine J_aload_n (i := 0) hT dL_depth_0 rfl rfl ?_
  refine J_iload_n (i := 1) hT dL_depth_1 rfl rfl ?_
  refine J_callV (ci := 8) hY dL_depth_2 mfX8_depth miX8_depth msX8_depth kL_72 ⟨by decide, rfl⟩ h0 ct rfl (Nat.lt_succ_self _) rfl rfl (Nat.le_of_ble_eq_true rfl) (Nat.le_of_eq (Nat.zero_add _)) (Nat.le_of_eq (Nat.zero_add _)) (fun r1 μ1 hq => ?_)
  obtain ⟨x, rfl, hq⟩ := hq
  show zJ _ _ _ _ (.int x :: _) _ _ _
  exact J_iret hT dL_depth_5 rfl rfl (⟨x, rfl, hq⟩) (Nat.le_of_eq (Nat.zero_add _)) (Nat.le_of_eq (Nat.zero_add _))

set_option maxRecDepth 100000 in
set_option maxHeartbeats 4000000 in
theorem w_state {l : Launch} {Z : zZ} (hZ : zSt l Z) {μ : zMem} {k mc ms : Nat} {a : Int32} (h0 : zK μ 0 = 8 + 8) {Q : Int32 → zMem → Prop} (ct : zCt l Z mX8_state k mc ms [.ref 0, .int a] μ (fun r μx => ∃ x, r = some (.int x) ∧ Q x μx)) : zCtW l Z mL_state hhL_state (k + 1) mc ms [.ref 0, .int a] μ (fun r μx => ∃ x, r = some (.int x) ∧ Q x μx) := by
  refine zCtW_of hZ mpL_state (Nat.le_of_ble_eq_true rfl) (L := [some (.ref 0), some (.int a), none]) rfl (fun τ hYW => ?_)
  have hY := hYW.1
  have hT := hY.1
  refine J_aload_n (i := 0) hT dL_state_0 rfl rfl ?_
  refine J_iload_n (i := 1) hT dL_state_1 rfl rfl ?_
  refine J_callV (ci := 8) hY dL_state_2 mfX8_state miX8_state msX8_state kL_79 ⟨by decide, rfl⟩ h0 ct rfl (Nat.lt_succ_self _) rfl rfl (Nat.le_of_ble_eq_true rfl) (Nat.le_of_eq (Nat.zero_add _)) (Nat.le_of_eq (Nat.zero_add _)) (fun r1 μ1 hq => ?_)
  obtain ⟨x, rfl, hq⟩ := hq
  show zJ _ _ _ _ (.int x :: _) _ _ _
  exact J_iret hT dL_state_5 rfl rfl (⟨x, rfl, hq⟩) (Nat.le_of_eq (Nat.zero_add _)) (Nat.le_of_eq (Nat.zero_add _))

set_option maxRecDepth 100000 in
set_option maxHeartbeats 4000000 in
theorem w_load {l : Launch} {Z : zZ} (hZ : zSt l Z) {μ : zMem} {k mc ms : Nat} {a : Int32} (h0 : zK μ 0 = 8 + 8) {Q : Int32 → zMem → Prop} (ct : zCt l Z mX8_load k mc ms [.ref 0, .int a] μ (fun r μx => ∃ x, r = some (.int x) ∧ Q x μx)) : zCtW l Z mL_load hhL_load (k + 1) mc ms [.ref 0, .int a] μ (fun r μx => ∃ x, r = some (.int x) ∧ Q x μx) := by
  refine zCtW_of hZ mpL_load (Nat.le_of_ble_eq_true rfl) (L := [some (.ref 0), some (.int a), none]) rfl (fun τ hYW => ?_)
  have hY := hYW.1
  have hT := hY.1
  refine J_aload_n (i := 0) hT dL_load_0 rfl rfl ?_
  refine J_iload_n (i := 1) hT dL_load_1 rfl rfl ?_
  refine J_callV (ci := 8) hY dL_load_2 mfX8_load miX8_load msX8_load kL_82 ⟨by decide, rfl⟩ h0 ct rfl (Nat.lt_succ_self _) rfl rfl (Nat.le_of_ble_eq_true rfl) (Nat.le_of_eq (Nat.zero_add _)) (Nat.le_of_eq (Nat.zero_add _)) (fun r1 μ1 hq => ?_)
  obtain ⟨x, rfl, hq⟩ := hq
  show zJ _ _ _ _ (.int x :: _) _ _ _
  exact J_iret hT dL_load_5 rfl rfl (⟨x, rfl, hq⟩) (Nat.le_of_eq (Nat.zero_add _)) (Nat.le_of_eq (Nat.zero_add _))

set_option maxRecDepth 100000 in
set_option maxHeartbeats 4000000 in
theorem w_told {l : Launch} {Z : zZ} (hZ : zSt l Z) {μ : zMem} {k mc ms : Nat} {a : Int32} (h0 : zK μ 0 = 8 + 8) {Q : Int32 → zMem → Prop} (ct : zCt l Z mX8_told k mc ms [.ref 0, .int a] μ (fun r μx => ∃ x, r = some (.int x) ∧ Q x μx)) : zCtW l Z mL_told hhL_told (k + 1) mc ms [.ref 0, .int a] μ (fun r μx => ∃ x, r = some (.int x) ∧ Q x μx) := by
  refine zCtW_of hZ mpL_told (Nat.le_of_ble_eq_true rfl) (L := [some (.ref 0), some (.int a), none]) rfl (fun τ hYW => ?_)
  have hY := hYW.1
  have hT := hY.1
  refine J_aload_n (i := 0) hT dL_told_0 rfl rfl ?_
  refine J_iload_n (i := 1) hT dL_told_1 rfl rfl ?_
  refine J_callV (ci := 8) hY dL_told_2 mfX8_told miX8_told msX8_told kL_85 ⟨by decide, rfl⟩ h0 ct rfl (Nat.lt_succ_self _) rfl rfl (Nat.le_of_ble_eq_true rfl) (Nat.le_of_eq (Nat.zero_add _)) (Nat.le_of_eq (Nat.zero_add _)) (fun r1 μ1 hq => ?_)
  obtain ⟨x, rfl, hq⟩ := hq
  show zJ _ _ _ _ (.int x :: _) _ _ _
  exact J_iret hT dL_told_5 rfl rfl (⟨x, rfl, hq⟩) (Nat.le_of_eq (Nat.zero_add _)) (Nat.le_of_eq (Nat.zero_add _))

set_option maxRecDepth 100000 in
set_option maxHeartbeats 4000000 in
theorem w_starts {l : Launch} {Z : zZ} (hZ : zSt l Z) {μ : zMem} {k mc ms : Nat} {a : Int32} (h0 : zK μ 0 = 8 + 8) {Q : Int32 → zMem → Prop} (ct : zCt l Z mX8_starts k mc ms [.ref 0, .int a] μ (fun r μx => ∃ x, r = some (.int x) ∧ Q x μx)) : zCtW l Z mL_starts hhL_starts (k + 1) mc ms [.ref 0, .int a] μ (fun r μx => ∃ x, r = some (.int x) ∧ Q x μx) := by
  refine zCtW_of hZ mpL_starts (Nat.le_of_ble_eq_true rfl) (L := [some (.ref 0), some (.int a), none]) rfl (fun τ hYW => ?_)
  have hY := hYW.1
  have hT := hY.1
  refine J_aload_n (i := 0) hT dL_starts_0 rfl rfl ?_
  refine J_iload_n (i := 1) hT dL_starts_1 rfl rfl ?_
  refine J_callV (ci := 8) hY dL_starts_2 mfX8_starts miX8_starts msX8_starts kL_88 ⟨by decide, rfl⟩ h0 ct rfl (Nat.lt_succ_self _) rfl rfl (Nat.le_of_ble_eq_true rfl) (Nat.le_of_eq (Nat.zero_add _)) (Nat.le_of_eq (Nat.zero_add _)) (fun r1 μ1 hq => ?_)
  obtain ⟨x, rfl, hq⟩ := hq
  show zJ _ _ _ _ (.int x :: _) _ _ _
  exact J_iret hT dL_starts_5 rfl rfl (⟨x, rfl, hq⟩) (Nat.le_of_eq (Nat.zero_add _)) (Nat.le_of_eq (Nat.zero_add _))

set_option maxRecDepth 100000 in
set_option maxHeartbeats 4000000 in
theorem w_loop {l : Launch} {Z : zZ} (hZ : zSt l Z) {μ : zMem} {k : Nat} {a : Int32} (h0 : zK μ 0 = 8 + 8) {bo : Bool} (ct : zCt l Z mX8_isLoop k 0 0 [.ref 0, .int a] μ (fun r μx => r = some (.int (zbi bo)) ∧ μx = μ)) : zCtW l Z mL_loop hhL_loop (k + 1) 0 0 [.ref 0, .int a] μ (fun r μx => r = some (.int (zbi bo)) ∧ μx = μ) := by
  refine zCtW_of hZ mpL_loop (Nat.le_of_ble_eq_true rfl) (L := [some (.ref 0), some (.int a), none]) rfl (fun τ hYW => ?_)
  have hY := hYW.1
  have hT := hY.1
  cases bo with
  | true =>
    refine J_aload_n (i := 0) hT dL_loop_0 rfl rfl ?_
    refine J_iload_n (i := 1) hT dL_loop_1 rfl rfl ?_
    refine R_callV1 (ci := 8) hY dL_loop_2 mfX8_isLoop miX8_isLoop msX8_isLoop kL_94 ⟨by decide, rfl⟩ h0 ct rfl (Nat.lt_succ_self _) rfl rfl (Nat.le_of_ble_eq_true rfl) (Nat.le_refl _) (Nat.le_refl _) ?_
    refine J_if_eq (tgt := 12) hT dL_loop_5 (by decide) (fun q => absurd q ((by decide))) (fun _ => ?_)
    refine J_iconst (v := 1) hT dL_loop_8 rfl ?_
    refine J_goto (tgt := 13) hT dL_loop_9 (by decide) ?_
    exact J_iret hT dL_loop_13 rfl rfl (⟨rfl, rfl⟩) (Nat.le_refl _) (Nat.le_refl _)
  | false =>
    refine J_aload_n (i := 0) hT dL_loop_0 rfl rfl ?_
    refine J_iload_n (i := 1) hT dL_loop_1 rfl rfl ?_
    refine R_callV1 (ci := 8) hY dL_loop_2 mfX8_isLoop miX8_isLoop msX8_isLoop kL_94 ⟨by decide, rfl⟩ h0 ct rfl (Nat.lt_succ_self _) rfl rfl (Nat.le_of_ble_eq_true rfl) (Nat.le_refl _) (Nat.le_refl _) ?_
    refine J_if_eq (tgt := 12) hT dL_loop_5 (by decide) (fun _ => ?_) (fun q => absurd (rfl) q)
    refine J_iconst (v := 0) hT dL_loop_12 rfl ?_
    exact J_iret hT dL_loop_13 rfl rfl (⟨rfl, rfl⟩) (Nat.le_refl _) (Nat.le_refl _)

set_option maxRecDepth 100000 in
set_option maxHeartbeats 4000000 in
theorem w_hold {l : Launch} {Z : zZ} (hZ : zSt l Z) {μ : zMem} {k mc ms : Nat} {a b : Int32} (h0 : zK μ 0 = 8 + 8) {Q : Int32 → zMem → Prop} (ct : zCt l Z mX8_hold k mc ms [.ref 0, .int a, .int b] μ (fun r μx => ∃ x, r = some (.int x) ∧ Q x μx)) : zCtW l Z mL_hold hhL_hold (k + 1) mc ms [.ref 0, .int a, .int b] μ (fun r μx => ∃ x, r = some (.int x) ∧ Q x μx) := by
  refine zCtW_of hZ mpL_hold (Nat.le_of_ble_eq_true rfl) (L := [some (.ref 0), some (.int a), some (.int b), none]) rfl (fun τ hYW => ?_)
  have hY := hYW.1
  have hT := hY.1
  refine J_aload_n (i := 0) hT dL_hold_0 rfl rfl ?_
  refine J_iload_n (i := 1) hT dL_hold_1 rfl rfl ?_
  refine J_iload_n (i := 2) hT dL_hold_2 rfl rfl ?_
  refine J_callV (ci := 8) hY dL_hold_3 mfX8_hold miX8_hold msX8_hold kL_25 ⟨by decide, rfl⟩ h0 ct rfl (Nat.lt_succ_self _) rfl rfl (Nat.le_of_ble_eq_true rfl) (Nat.le_of_eq (Nat.zero_add _)) (Nat.le_of_eq (Nat.zero_add _)) (fun r1 μ1 hq => ?_)
  obtain ⟨x, rfl, hq⟩ := hq
  show zJ _ _ _ _ (.int x :: _) _ _ _
  exact J_iret hT dL_hold_6 rfl rfl (⟨x, rfl, hq⟩) (Nat.le_of_eq (Nat.zero_add _)) (Nat.le_of_eq (Nat.zero_add _))

set_option maxRecDepth 100000 in
set_option maxHeartbeats 4000000 in
theorem w_hold_ise {l : Launch} {Z : zZ} (hZ : zSt l Z) {μ : zMem} {k mc ms : Nat} {a b : Int32} (h0 : zK μ 0 = 8 + 8) (hN : zNs Z) {Q : zMem → Prop} (ct : zCtX l Z mX8_hold k mc ms [.ref 0, .int a, .int b] μ "java/lang/IllegalStateException" Q) : zCtW l Z mL_hold hhL_hold (k + 1) mc ms [.ref 0, .int a, .int b] μ (fun r μx => r = some (.int (-103)) ∧ Q μx) := by
  refine zCtW_of hZ mpL_hold (Nat.le_of_ble_eq_true rfl) (L := [some (.ref 0), some (.int a), some (.int b), none]) rfl (fun τ hYW => ?_)
  have hY := hYW.1
  have hT := hY.1
  refine J_aload_n (i := 0) hT dL_hold_0 rfl rfl ?_
  refine J_iload_n (i := 1) hT dL_hold_1 rfl rfl ?_
  refine J_iload_n (i := 2) hT dL_hold_2 rfl rfl ?_
  refine J_callVC (ci := 8) (i := 3) (hpc := 15) (nx := 16) hYW dL_hold_3 mfX8_hold miX8_hold msX8_hold ⟨by decide, rfl⟩ h0 ct rfl (Nat.lt_succ_self _) rfl rfl (Nat.le_of_ble_eq_true rfl) (Nat.le_of_eq (Nat.zero_add _)) (Nat.le_of_eq (Nat.zero_add _)) mlL_25 [(0, 6, 7, 23), (0, 6, 11, 15)] [] 17 0 6 rfl (fun z hz => by
    rcases List.mem_cons.mp hz with rfl | hz
    · exact ⟨by decide, _, kcL_23, hN.2.1⟩
    · rcases List.mem_singleton.mp hz with rfl; exact ⟨by decide, _, kcL_15, hN.2.2⟩) (by decide) (by decide) kcL_17 cs_ise (Or.inl ⟨_, dL_hold_15, rfl, rfl⟩) (Nat.le_of_ble_eq_true rfl) (fun μ1 hq => ?_)
  refine J_bipush (v := -103) hT dL_hold_16 rfl ?_
  exact J_iret hT dL_hold_18 rfl rfl (⟨rfl, hq⟩) (Nat.le_of_eq (Nat.zero_add _)) (Nat.le_of_eq (Nat.zero_add _))

set_option maxRecDepth 100000 in
set_option maxHeartbeats 4000000 in
theorem w_release {l : Launch} {Z : zZ} (hZ : zSt l Z) {μ : zMem} {k mc ms : Nat} {a : Int32} (h0 : zK μ 0 = 8 + 8) {Q : Int32 → zMem → Prop} (ct : zCt l Z mX8_release k mc ms [.ref 0, .int a] μ (fun r μx => ∃ x, r = some (.int x) ∧ Q x μx)) : zCtW l Z mL_release hhL_release (k + 1) mc ms [.ref 0, .int a] μ (fun r μx => ∃ x, r = some (.int x) ∧ Q x μx) := by
  refine zCtW_of hZ mpL_release (Nat.le_of_ble_eq_true rfl) (L := [some (.ref 0), some (.int a), none]) rfl (fun τ hYW => ?_)
  have hY := hYW.1
  have hT := hY.1
  refine J_aload_n (i := 0) hT dL_release_0 rfl rfl ?_
  refine J_iload_n (i := 1) hT dL_release_1 rfl rfl ?_
  refine J_callV (ci := 8) hY dL_release_2 mfX8_release miX8_release msX8_release kL_29 ⟨by decide, rfl⟩ h0 ct rfl (Nat.lt_succ_self _) rfl rfl (Nat.le_of_ble_eq_true rfl) (Nat.le_of_eq (Nat.zero_add _)) (Nat.le_of_eq (Nat.zero_add _)) (fun r1 μ1 hq => ?_)
  obtain ⟨x, rfl, hq⟩ := hq
  show zJ _ _ _ _ (.int x :: _) _ _ _
  exact J_iret hT dL_release_5 rfl rfl (⟨x, rfl, hq⟩) (Nat.le_of_eq (Nat.zero_add _)) (Nat.le_of_eq (Nat.zero_add _))

set_option maxRecDepth 100000 in
set_option maxHeartbeats 4000000 in
theorem w_release_ise {l : Launch} {Z : zZ} (hZ : zSt l Z) {μ : zMem} {k mc ms : Nat} {a : Int32} (h0 : zK μ 0 = 8 + 8) (hN : zNs Z) {Q : zMem → Prop} (ct : zCtX l Z mX8_release k mc ms [.ref 0, .int a] μ "java/lang/IllegalStateException" Q) : zCtW l Z mL_release hhL_release (k + 1) mc ms [.ref 0, .int a] μ (fun r μx => r = some (.int (-103)) ∧ Q μx) := by
  refine zCtW_of hZ mpL_release (Nat.le_of_ble_eq_true rfl) (L := [some (.ref 0), some (.int a), none]) rfl (fun τ hYW => ?_)
  have hY := hYW.1
  have hT := hY.1
  refine J_aload_n (i := 0) hT dL_release_0 rfl rfl ?_
  refine J_iload_n (i := 1) hT dL_release_1 rfl rfl ?_
  refine J_callVC (ci := 8) (i := 2) (hpc := 10) (nx := 11) hYW dL_release_2 mfX8_release miX8_release msX8_release ⟨by decide, rfl⟩ h0 ct rfl (Nat.lt_succ_self _) rfl rfl (Nat.le_of_ble_eq_true rfl) (Nat.le_of_eq (Nat.zero_add _)) (Nat.le_of_eq (Nat.zero_add _)) mlL_29 [(0, 5, 6, 23)] [] 17 0 5 rfl (fun z hz => by rcases List.mem_singleton.mp hz with rfl; exact ⟨by decide, _, kcL_23, hN.2.1⟩) (by decide) (by decide) kcL_17 cs_ise (Or.inl ⟨_, dL_release_10, rfl, rfl⟩) (Nat.le_of_ble_eq_true rfl) (fun μ1 hq => ?_)
  refine J_bipush (v := -103) hT dL_release_11 rfl ?_
  exact J_iret hT dL_release_13 rfl rfl (⟨rfl, hq⟩) (Nat.le_of_eq (Nat.zero_add _)) (Nat.le_of_eq (Nat.zero_add _))

set_option maxRecDepth 100000 in
set_option maxHeartbeats 4000000 in
theorem w_read {l : Launch} {Z : zZ} (hZ : zSt l Z) {μ : zMem} {k mc ms : Nat} {a b : Int32} (h0 : zK μ 0 = 8 + 8) {Q : Int32 → zMem → Prop} (ct : zCt l Z mX8_read k mc ms [.ref 0, .int a, .int b] μ (fun r μx => ∃ x, r = some (.int x) ∧ Q x μx)) : zCtW l Z mL_read hhL_read (k + 1) mc ms [.ref 0, .int a, .int b] μ (fun r μx => ∃ x, r = some (.int x) ∧ Q x μx) := by
  refine zCtW_of hZ mpL_read (Nat.le_of_ble_eq_true rfl) (L := [some (.ref 0), some (.int a), some (.int b), none]) rfl (fun τ hYW => ?_)
  have hY := hYW.1
  have hT := hY.1
  refine J_aload_n (i := 0) hT dL_read_0 rfl rfl ?_
  refine J_iload_n (i := 1) hT dL_read_1 rfl rfl ?_
  refine J_iload_n (i := 2) hT dL_read_2 rfl rfl ?_
  refine J_callV (ci := 8) hY dL_read_3 mfX8_read miX8_read msX8_read kL_32 ⟨by decide, rfl⟩ h0 ct rfl (Nat.lt_succ_self _) rfl rfl (Nat.le_of_ble_eq_true rfl) (Nat.le_of_eq (Nat.zero_add _)) (Nat.le_of_eq (Nat.zero_add _)) (fun r1 μ1 hq => ?_)
  obtain ⟨x, rfl, hq⟩ := hq
  show zJ _ _ _ _ (.int x :: _) _ _ _
  exact J_iret hT dL_read_6 rfl rfl (⟨x, rfl, hq⟩) (Nat.le_of_eq (Nat.zero_add _)) (Nat.le_of_eq (Nat.zero_add _))

set_option maxRecDepth 100000 in
set_option maxHeartbeats 4000000 in
theorem w_read_ise {l : Launch} {Z : zZ} (hZ : zSt l Z) {μ : zMem} {k mc ms : Nat} {a b : Int32} (h0 : zK μ 0 = 8 + 8) (hN : zNs Z) {Q : zMem → Prop} (ct : zCtX l Z mX8_read k mc ms [.ref 0, .int a, .int b] μ "java/lang/IllegalStateException" Q) : zCtW l Z mL_read hhL_read (k + 1) mc ms [.ref 0, .int a, .int b] μ (fun r μx => r = some (.int (-103)) ∧ Q μx) := by
  refine zCtW_of hZ mpL_read (Nat.le_of_ble_eq_true rfl) (L := [some (.ref 0), some (.int a), some (.int b), none]) rfl (fun τ hYW => ?_)
  have hY := hYW.1
  have hT := hY.1
  refine J_aload_n (i := 0) hT dL_read_0 rfl rfl ?_
  refine J_iload_n (i := 1) hT dL_read_1 rfl rfl ?_
  refine J_iload_n (i := 2) hT dL_read_2 rfl rfl ?_
  refine J_callVC (ci := 8) (i := 3) (hpc := 15) (nx := 16) hYW dL_read_3 mfX8_read miX8_read msX8_read ⟨by decide, rfl⟩ h0 ct rfl (Nat.lt_succ_self _) rfl rfl (Nat.le_of_ble_eq_true rfl) (Nat.le_of_eq (Nat.zero_add _)) (Nat.le_of_eq (Nat.zero_add _)) mlL_32 [(0, 6, 7, 23), (0, 6, 11, 15)] [] 17 0 6 rfl (fun z hz => by
    rcases List.mem_cons.mp hz with rfl | hz
    · exact ⟨by decide, _, kcL_23, hN.2.1⟩
    · rcases List.mem_singleton.mp hz with rfl; exact ⟨by decide, _, kcL_15, hN.2.2⟩) (by decide) (by decide) kcL_17 cs_ise (Or.inl ⟨_, dL_read_15, rfl, rfl⟩) (Nat.le_of_ble_eq_true rfl) (fun μ1 hq => ?_)
  refine J_bipush (v := -103) hT dL_read_16 rfl ?_
  exact J_iret hT dL_read_18 rfl rfl (⟨rfl, hq⟩) (Nat.le_of_eq (Nat.zero_add _)) (Nat.le_of_eq (Nat.zero_add _))

set_option maxRecDepth 100000 in
set_option maxHeartbeats 4000000 in
theorem w_control {l : Launch} {Z : zZ} (hZ : zSt l Z) {μ : zMem} {k mc ms : Nat} {a b : Int32} (h0 : zK μ 0 = 8 + 8) {Q : Int32 → zMem → Prop} (ct : zCt l Z mX8_control k mc ms [.ref 0, .int a, .int b] μ (fun r μx => ∃ x, r = some (.int x) ∧ Q x μx)) : zCtW l Z mL_control hhL_control (k + 1) mc ms [.ref 0, .int a, .int b] μ (fun r μx => ∃ x, r = some (.int x) ∧ Q x μx) := by
  refine zCtW_of hZ mpL_control (Nat.le_of_ble_eq_true rfl) (L := [some (.ref 0), some (.int a), some (.int b), none]) rfl (fun τ hYW => ?_)
  have hY := hYW.1
  have hT := hY.1
  refine J_aload_n (i := 0) hT dL_control_0 rfl rfl ?_
  refine J_iload_n (i := 1) hT dL_control_1 rfl rfl ?_
  refine J_iload_n (i := 2) hT dL_control_2 rfl rfl ?_
  refine J_callV (ci := 8) hY dL_control_3 mfX8_control miX8_control msX8_control kL_35 ⟨by decide, rfl⟩ h0 ct rfl (Nat.lt_succ_self _) rfl rfl (Nat.le_of_ble_eq_true rfl) (Nat.le_of_eq (Nat.zero_add _)) (Nat.le_of_eq (Nat.zero_add _)) (fun r1 μ1 hq => ?_)
  obtain ⟨x, rfl, hq⟩ := hq
  show zJ _ _ _ _ (.int x :: _) _ _ _
  exact J_iret hT dL_control_6 rfl rfl (⟨x, rfl, hq⟩) (Nat.le_of_eq (Nat.zero_add _)) (Nat.le_of_eq (Nat.zero_add _))

set_option maxRecDepth 100000 in
set_option maxHeartbeats 4000000 in
theorem w_control_ise {l : Launch} {Z : zZ} (hZ : zSt l Z) {μ : zMem} {k mc ms : Nat} {a b : Int32} (h0 : zK μ 0 = 8 + 8) (hN : zNs Z) {Q : zMem → Prop} (ct : zCtX l Z mX8_control k mc ms [.ref 0, .int a, .int b] μ "java/lang/IllegalStateException" Q) : zCtW l Z mL_control hhL_control (k + 1) mc ms [.ref 0, .int a, .int b] μ (fun r μx => r = some (.int (-103)) ∧ Q μx) := by
  refine zCtW_of hZ mpL_control (Nat.le_of_ble_eq_true rfl) (L := [some (.ref 0), some (.int a), some (.int b), none]) rfl (fun τ hYW => ?_)
  have hY := hYW.1
  have hT := hY.1
  refine J_aload_n (i := 0) hT dL_control_0 rfl rfl ?_
  refine J_iload_n (i := 1) hT dL_control_1 rfl rfl ?_
  refine J_iload_n (i := 2) hT dL_control_2 rfl rfl ?_
  refine J_callVC (ci := 8) (i := 3) (hpc := 11) (nx := 12) hYW dL_control_3 mfX8_control miX8_control msX8_control ⟨by decide, rfl⟩ h0 ct rfl (Nat.lt_succ_self _) rfl rfl (Nat.le_of_ble_eq_true rfl) (Nat.le_of_eq (Nat.zero_add _)) (Nat.le_of_eq (Nat.zero_add _)) mlL_35 [(0, 6, 7, 23)] [] 17 0 6 rfl (fun z hz => by rcases List.mem_singleton.mp hz with rfl; exact ⟨by decide, _, kcL_23, hN.2.1⟩) (by decide) (by decide) kcL_17 cs_ise (Or.inl ⟨_, dL_control_11, rfl, rfl⟩) (Nat.le_of_ble_eq_true rfl) (fun μ1 hq => ?_)
  refine J_bipush (v := -103) hT dL_control_12 rfl ?_
  exact J_iret hT dL_control_14 rfl rfl (⟨rfl, hq⟩) (Nat.le_of_eq (Nat.zero_add _)) (Nat.le_of_eq (Nat.zero_add _))

set_option maxRecDepth 100000 in
set_option maxHeartbeats 4000000 in
theorem w_limit {l : Launch} {Z : zZ} (hZ : zSt l Z) {μ : zMem} {k mc ms : Nat} {a b : Int32} (h0 : zK μ 0 = 8 + 8) {Q : Int32 → zMem → Prop} (ct : zCt l Z mX8_limit k mc ms [.ref 0, .int a, .int b] μ (fun r μx => ∃ x, r = some (.int x) ∧ Q x μx)) : zCtW l Z mL_limit hhL_limit (k + 1) mc ms [.ref 0, .int a, .int b] μ (fun r μx => ∃ x, r = some (.int x) ∧ Q x μx) := by
  refine zCtW_of hZ mpL_limit (Nat.le_of_ble_eq_true rfl) (L := [some (.ref 0), some (.int a), some (.int b), none]) rfl (fun τ hYW => ?_)
  have hY := hYW.1
  have hT := hY.1
  refine J_aload_n (i := 0) hT dL_limit_0 rfl rfl ?_
  refine J_iload_n (i := 1) hT dL_limit_1 rfl rfl ?_
  refine J_iload_n (i := 2) hT dL_limit_2 rfl rfl ?_
  refine J_callV (ci := 8) hY dL_limit_3 mfX8_limit miX8_limit msX8_limit kL_38 ⟨by decide, rfl⟩ h0 ct rfl (Nat.lt_succ_self _) rfl rfl (Nat.le_of_ble_eq_true rfl) (Nat.le_of_eq (Nat.zero_add _)) (Nat.le_of_eq (Nat.zero_add _)) (fun r1 μ1 hq => ?_)
  obtain ⟨x, rfl, hq⟩ := hq
  show zJ _ _ _ _ (.int x :: _) _ _ _
  exact J_iret hT dL_limit_6 rfl rfl (⟨x, rfl, hq⟩) (Nat.le_of_eq (Nat.zero_add _)) (Nat.le_of_eq (Nat.zero_add _))

set_option maxRecDepth 100000 in
set_option maxHeartbeats 4000000 in
theorem w_limit_ise {l : Launch} {Z : zZ} (hZ : zSt l Z) {μ : zMem} {k mc ms : Nat} {a b : Int32} (h0 : zK μ 0 = 8 + 8) (hN : zNs Z) {Q : zMem → Prop} (ct : zCtX l Z mX8_limit k mc ms [.ref 0, .int a, .int b] μ "java/lang/IllegalStateException" Q) : zCtW l Z mL_limit hhL_limit (k + 1) mc ms [.ref 0, .int a, .int b] μ (fun r μx => r = some (.int (-103)) ∧ Q μx) := by
  refine zCtW_of hZ mpL_limit (Nat.le_of_ble_eq_true rfl) (L := [some (.ref 0), some (.int a), some (.int b), none]) rfl (fun τ hYW => ?_)
  have hY := hYW.1
  have hT := hY.1
  refine J_aload_n (i := 0) hT dL_limit_0 rfl rfl ?_
  refine J_iload_n (i := 1) hT dL_limit_1 rfl rfl ?_
  refine J_iload_n (i := 2) hT dL_limit_2 rfl rfl ?_
  refine J_callVC (ci := 8) (i := 3) (hpc := 11) (nx := 12) hYW dL_limit_3 mfX8_limit miX8_limit msX8_limit ⟨by decide, rfl⟩ h0 ct rfl (Nat.lt_succ_self _) rfl rfl (Nat.le_of_ble_eq_true rfl) (Nat.le_of_eq (Nat.zero_add _)) (Nat.le_of_eq (Nat.zero_add _)) mlL_38 [(0, 6, 7, 23)] [] 17 0 6 rfl (fun z hz => by rcases List.mem_singleton.mp hz with rfl; exact ⟨by decide, _, kcL_23, hN.2.1⟩) (by decide) (by decide) kcL_17 cs_ise (Or.inl ⟨_, dL_limit_11, rfl, rfl⟩) (Nat.le_of_ble_eq_true rfl) (fun μ1 hq => ?_)
  refine J_bipush (v := -103) hT dL_limit_12 rfl ?_
  exact J_iret hT dL_limit_14 rfl rfl (⟨rfl, hq⟩) (Nat.le_of_eq (Nat.zero_add _)) (Nat.le_of_eq (Nat.zero_add _))

set_option maxRecDepth 100000 in
set_option maxHeartbeats 4000000 in
theorem w_demand {l : Launch} {Z : zZ} (hZ : zSt l Z) {μ : zMem} {k mc ms : Nat} {a b e : Int32} (h0 : zK μ 0 = 8 + 8) {Q : Int32 → zMem → Prop} (ct : zCt l Z mX8_demand k mc ms [.ref 0, .int a, .int b, .int e] μ (fun r μx => ∃ x, r = some (.int x) ∧ Q x μx)) : zCtW l Z mL_demand hhL_demand (k + 1) mc ms [.ref 0, .int a, .int b, .int e] μ (fun r μx => ∃ x, r = some (.int x) ∧ Q x μx) := by
  refine zCtW_of hZ mpL_demand (Nat.le_of_ble_eq_true rfl) (L := [some (.ref 0), some (.int a), some (.int b), some (.int e), none]) rfl (fun τ hYW => ?_)
  have hY := hYW.1
  have hT := hY.1
  refine J_aload_n (i := 0) hT dL_demand_0 rfl rfl ?_
  refine J_iload_n (i := 1) hT dL_demand_1 rfl rfl ?_
  refine J_iload_n (i := 2) hT dL_demand_2 rfl rfl ?_
  refine J_iload_n (i := 3) hT dL_demand_3 rfl rfl ?_
  refine J_callV (ci := 8) hY dL_demand_4 mfX8_demand miX8_demand msX8_demand kL_41 ⟨by decide, rfl⟩ h0 ct rfl (Nat.lt_succ_self _) rfl rfl (Nat.le_of_ble_eq_true rfl) (Nat.le_of_eq (Nat.zero_add _)) (Nat.le_of_eq (Nat.zero_add _)) (fun r1 μ1 hq => ?_)
  obtain ⟨x, rfl, hq⟩ := hq
  show zJ _ _ _ _ (.int x :: _) _ _ _
  exact J_iret hT dL_demand_7 rfl rfl (⟨x, rfl, hq⟩) (Nat.le_of_eq (Nat.zero_add _)) (Nat.le_of_eq (Nat.zero_add _))

set_option maxRecDepth 100000 in
set_option maxHeartbeats 4000000 in
theorem w_demand_ise {l : Launch} {Z : zZ} (hZ : zSt l Z) {μ : zMem} {k mc ms : Nat} {a b e : Int32} (h0 : zK μ 0 = 8 + 8) (hN : zNs Z) {Q : zMem → Prop} (ct : zCtX l Z mX8_demand k mc ms [.ref 0, .int a, .int b, .int e] μ "java/lang/IllegalStateException" Q) : zCtW l Z mL_demand hhL_demand (k + 1) mc ms [.ref 0, .int a, .int b, .int e] μ (fun r μx => r = some (.int (-103)) ∧ Q μx) := by
  refine zCtW_of hZ mpL_demand (Nat.le_of_ble_eq_true rfl) (L := [some (.ref 0), some (.int a), some (.int b), some (.int e), none]) rfl (fun τ hYW => ?_)
  have hY := hYW.1
  have hT := hY.1
  refine J_aload_n (i := 0) hT dL_demand_0 rfl rfl ?_
  refine J_iload_n (i := 1) hT dL_demand_1 rfl rfl ?_
  refine J_iload_n (i := 2) hT dL_demand_2 rfl rfl ?_
  refine J_iload_n (i := 3) hT dL_demand_3 rfl rfl ?_
  refine J_callVC (ci := 8) (i := 4) (hpc := 18) (nx := 20) hYW dL_demand_4 mfX8_demand miX8_demand msX8_demand ⟨by decide, rfl⟩ h0 ct rfl (Nat.lt_succ_self _) rfl rfl (Nat.le_of_ble_eq_true rfl) (Nat.le_of_eq (Nat.zero_add _)) (Nat.le_of_eq (Nat.zero_add _)) mlL_41 [(0, 7, 8, 23), (0, 7, 13, 15)] [] 17 0 7 rfl (fun z hz => by
    rcases List.mem_cons.mp hz with rfl | hz
    · exact ⟨by decide, _, kcL_23, hN.2.1⟩
    · rcases List.mem_singleton.mp hz with rfl; exact ⟨by decide, _, kcL_15, hN.2.2⟩) (by decide) (by decide) kcL_17 cs_ise (Or.inr ⟨dL_demand_18, rfl⟩) (Nat.le_of_ble_eq_true rfl) (fun μ1 hq => ?_)
  refine J_bipush (v := -103) hT dL_demand_20 rfl ?_
  exact J_iret hT dL_demand_22 rfl rfl (⟨rfl, hq⟩) (Nat.le_of_eq (Nat.zero_add _)) (Nat.le_of_eq (Nat.zero_add _))

set_option maxRecDepth 100000 in
set_option maxHeartbeats 4000000 in
theorem w_need {l : Launch} {Z : zZ} (hZ : zSt l Z) {μ : zMem} {k mc ms : Nat} {a b e : Int32} (h0 : zK μ 0 = 8 + 8) {Q : Int32 → zMem → Prop} (ct : zCt l Z mX8_need k mc ms [.ref 0, .int a, .int b, .int e] μ (fun r μx => ∃ x, r = some (.int x) ∧ Q x μx)) : zCtW l Z mL_need hhL_need (k + 1) mc ms [.ref 0, .int a, .int b, .int e] μ (fun r μx => ∃ x, r = some (.int x) ∧ Q x μx) := by
  refine zCtW_of hZ mpL_need (Nat.le_of_ble_eq_true rfl) (L := [some (.ref 0), some (.int a), some (.int b), some (.int e), none]) rfl (fun τ hYW => ?_)
  have hY := hYW.1
  have hT := hY.1
  refine J_aload_n (i := 0) hT dL_need_0 rfl rfl ?_
  refine J_iload_n (i := 1) hT dL_need_1 rfl rfl ?_
  refine J_iload_n (i := 2) hT dL_need_2 rfl rfl ?_
  refine J_iload_n (i := 3) hT dL_need_3 rfl rfl ?_
  refine J_callV (ci := 8) hY dL_need_4 mfX8_need miX8_need msX8_need kL_45 ⟨by decide, rfl⟩ h0 ct rfl (Nat.lt_succ_self _) rfl rfl (Nat.le_of_ble_eq_true rfl) (Nat.le_of_eq (Nat.zero_add _)) (Nat.le_of_eq (Nat.zero_add _)) (fun r1 μ1 hq => ?_)
  obtain ⟨x, rfl, hq⟩ := hq
  show zJ _ _ _ _ (.int x :: _) _ _ _
  exact J_iret hT dL_need_7 rfl rfl (⟨x, rfl, hq⟩) (Nat.le_of_eq (Nat.zero_add _)) (Nat.le_of_eq (Nat.zero_add _))

set_option maxRecDepth 100000 in
set_option maxHeartbeats 4000000 in
theorem w_need_ise {l : Launch} {Z : zZ} (hZ : zSt l Z) {μ : zMem} {k mc ms : Nat} {a b e : Int32} (h0 : zK μ 0 = 8 + 8) (hN : zNs Z) {Q : zMem → Prop} (ct : zCtX l Z mX8_need k mc ms [.ref 0, .int a, .int b, .int e] μ "java/lang/IllegalStateException" Q) : zCtW l Z mL_need hhL_need (k + 1) mc ms [.ref 0, .int a, .int b, .int e] μ (fun r μx => r = some (.int (-103)) ∧ Q μx) := by
  refine zCtW_of hZ mpL_need (Nat.le_of_ble_eq_true rfl) (L := [some (.ref 0), some (.int a), some (.int b), some (.int e), none]) rfl (fun τ hYW => ?_)
  have hY := hYW.1
  have hT := hY.1
  refine J_aload_n (i := 0) hT dL_need_0 rfl rfl ?_
  refine J_iload_n (i := 1) hT dL_need_1 rfl rfl ?_
  refine J_iload_n (i := 2) hT dL_need_2 rfl rfl ?_
  refine J_iload_n (i := 3) hT dL_need_3 rfl rfl ?_
  refine J_callVC (ci := 8) (i := 4) (hpc := 18) (nx := 20) hYW dL_need_4 mfX8_need miX8_need msX8_need ⟨by decide, rfl⟩ h0 ct rfl (Nat.lt_succ_self _) rfl rfl (Nat.le_of_ble_eq_true rfl) (Nat.le_of_eq (Nat.zero_add _)) (Nat.le_of_eq (Nat.zero_add _)) mlL_45 [(0, 7, 8, 23), (0, 7, 13, 15)] [] 17 0 7 rfl (fun z hz => by
    rcases List.mem_cons.mp hz with rfl | hz
    · exact ⟨by decide, _, kcL_23, hN.2.1⟩
    · rcases List.mem_singleton.mp hz with rfl; exact ⟨by decide, _, kcL_15, hN.2.2⟩) (by decide) (by decide) kcL_17 cs_ise (Or.inr ⟨dL_need_18, rfl⟩) (Nat.le_of_ble_eq_true rfl) (fun μ1 hq => ?_)
  refine J_bipush (v := -103) hT dL_need_20 rfl ?_
  exact J_iret hT dL_need_22 rfl rfl (⟨rfl, hq⟩) (Nat.le_of_eq (Nat.zero_add _)) (Nat.le_of_eq (Nat.zero_add _))

set_option maxRecDepth 100000 in
set_option maxHeartbeats 4000000 in
theorem w_lie {l : Launch} {Z : zZ} (hZ : zSt l Z) {μ : zMem} {k mc ms : Nat} {a b : Int32} (h0 : zK μ 0 = 8 + 8) {Q : Int32 → zMem → Prop} (ct : zCt l Z mX8_lie k mc ms [.ref 0, .int a, .int b] μ (fun r μx => ∃ x, r = some (.int x) ∧ Q x μx)) : zCtW l Z mL_lie hhL_lie (k + 1) mc ms [.ref 0, .int a, .int b] μ (fun r μx => ∃ x, r = some (.int x) ∧ Q x μx) := by
  refine zCtW_of hZ mpL_lie (Nat.le_of_ble_eq_true rfl) (L := [some (.ref 0), some (.int a), some (.int b), none]) rfl (fun τ hYW => ?_)
  have hY := hYW.1
  have hT := hY.1
  refine J_aload_n (i := 0) hT dL_lie_0 rfl rfl ?_
  refine J_iload_n (i := 1) hT dL_lie_1 rfl rfl ?_
  refine J_iload_n (i := 2) hT dL_lie_2 rfl rfl ?_
  refine J_callV (ci := 8) hY dL_lie_3 mfX8_lie miX8_lie msX8_lie kL_49 ⟨by decide, rfl⟩ h0 ct rfl (Nat.lt_succ_self _) rfl rfl (Nat.le_of_ble_eq_true rfl) (Nat.le_of_eq (Nat.zero_add _)) (Nat.le_of_eq (Nat.zero_add _)) (fun r1 μ1 hq => ?_)
  obtain ⟨x, rfl, hq⟩ := hq
  show zJ _ _ _ _ (.int x :: _) _ _ _
  exact J_iret hT dL_lie_6 rfl rfl (⟨x, rfl, hq⟩) (Nat.le_of_eq (Nat.zero_add _)) (Nat.le_of_eq (Nat.zero_add _))

set_option maxRecDepth 100000 in
set_option maxHeartbeats 4000000 in
theorem w_lie_ise {l : Launch} {Z : zZ} (hZ : zSt l Z) {μ : zMem} {k mc ms : Nat} {a b : Int32} (h0 : zK μ 0 = 8 + 8) (hN : zNs Z) {Q : zMem → Prop} (ct : zCtX l Z mX8_lie k mc ms [.ref 0, .int a, .int b] μ "java/lang/IllegalStateException" Q) : zCtW l Z mL_lie hhL_lie (k + 1) mc ms [.ref 0, .int a, .int b] μ (fun r μx => r = some (.int (-103)) ∧ Q μx) := by
  refine zCtW_of hZ mpL_lie (Nat.le_of_ble_eq_true rfl) (L := [some (.ref 0), some (.int a), some (.int b), none]) rfl (fun τ hYW => ?_)
  have hY := hYW.1
  have hT := hY.1
  refine J_aload_n (i := 0) hT dL_lie_0 rfl rfl ?_
  refine J_iload_n (i := 1) hT dL_lie_1 rfl rfl ?_
  refine J_iload_n (i := 2) hT dL_lie_2 rfl rfl ?_
  refine J_callVC (ci := 8) (i := 3) (hpc := 15) (nx := 16) hYW dL_lie_3 mfX8_lie miX8_lie msX8_lie ⟨by decide, rfl⟩ h0 ct rfl (Nat.lt_succ_self _) rfl rfl (Nat.le_of_ble_eq_true rfl) (Nat.le_of_eq (Nat.zero_add _)) (Nat.le_of_eq (Nat.zero_add _)) mlL_49 [(0, 6, 7, 23), (0, 6, 11, 15)] [] 17 0 6 rfl (fun z hz => by
    rcases List.mem_cons.mp hz with rfl | hz
    · exact ⟨by decide, _, kcL_23, hN.2.1⟩
    · rcases List.mem_singleton.mp hz with rfl; exact ⟨by decide, _, kcL_15, hN.2.2⟩) (by decide) (by decide) kcL_17 cs_ise (Or.inl ⟨_, dL_lie_15, rfl, rfl⟩) (Nat.le_of_ble_eq_true rfl) (fun μ1 hq => ?_)
  refine J_bipush (v := -103) hT dL_lie_16 rfl ?_
  exact J_iret hT dL_lie_18 rfl rfl (⟨rfl, hq⟩) (Nat.le_of_eq (Nat.zero_add _)) (Nat.le_of_eq (Nat.zero_add _))

set_option maxRecDepth 100000 in
set_option maxHeartbeats 4000000 in
theorem w_mend {l : Launch} {Z : zZ} (hZ : zSt l Z) {μ : zMem} {k mc ms : Nat} {a : Int32} (h0 : zK μ 0 = 8 + 8) {Q : Int32 → zMem → Prop} (ct : zCt l Z mX8_mend k mc ms [.ref 0, .int a] μ (fun r μx => ∃ x, r = some (.int x) ∧ Q x μx)) : zCtW l Z mL_mend hhL_mend (k + 1) mc ms [.ref 0, .int a] μ (fun r μx => ∃ x, r = some (.int x) ∧ Q x μx) := by
  refine zCtW_of hZ mpL_mend (Nat.le_of_ble_eq_true rfl) (L := [some (.ref 0), some (.int a), none]) rfl (fun τ hYW => ?_)
  have hY := hYW.1
  have hT := hY.1
  refine J_aload_n (i := 0) hT dL_mend_0 rfl rfl ?_
  refine J_iload_n (i := 1) hT dL_mend_1 rfl rfl ?_
  refine J_callV (ci := 8) hY dL_mend_2 mfX8_mend miX8_mend msX8_mend kL_52 ⟨by decide, rfl⟩ h0 ct rfl (Nat.lt_succ_self _) rfl rfl (Nat.le_of_ble_eq_true rfl) (Nat.le_of_eq (Nat.zero_add _)) (Nat.le_of_eq (Nat.zero_add _)) (fun r1 μ1 hq => ?_)
  obtain ⟨x, rfl, hq⟩ := hq
  show zJ _ _ _ _ (.int x :: _) _ _ _
  exact J_iret hT dL_mend_5 rfl rfl (⟨x, rfl, hq⟩) (Nat.le_of_eq (Nat.zero_add _)) (Nat.le_of_eq (Nat.zero_add _))

set_option maxRecDepth 100000 in
set_option maxHeartbeats 4000000 in
theorem w_mend_ise {l : Launch} {Z : zZ} (hZ : zSt l Z) {μ : zMem} {k mc ms : Nat} {a : Int32} (h0 : zK μ 0 = 8 + 8) (hN : zNs Z) {Q : zMem → Prop} (ct : zCtX l Z mX8_mend k mc ms [.ref 0, .int a] μ "java/lang/IllegalStateException" Q) : zCtW l Z mL_mend hhL_mend (k + 1) mc ms [.ref 0, .int a] μ (fun r μx => r = some (.int (-103)) ∧ Q μx) := by
  refine zCtW_of hZ mpL_mend (Nat.le_of_ble_eq_true rfl) (L := [some (.ref 0), some (.int a), none]) rfl (fun τ hYW => ?_)
  have hY := hYW.1
  have hT := hY.1
  refine J_aload_n (i := 0) hT dL_mend_0 rfl rfl ?_
  refine J_iload_n (i := 1) hT dL_mend_1 rfl rfl ?_
  refine J_callVC (ci := 8) (i := 2) (hpc := 10) (nx := 11) hYW dL_mend_2 mfX8_mend miX8_mend msX8_mend ⟨by decide, rfl⟩ h0 ct rfl (Nat.lt_succ_self _) rfl rfl (Nat.le_of_ble_eq_true rfl) (Nat.le_of_eq (Nat.zero_add _)) (Nat.le_of_eq (Nat.zero_add _)) mlL_52 [(0, 5, 6, 23)] [] 17 0 5 rfl (fun z hz => by rcases List.mem_singleton.mp hz with rfl; exact ⟨by decide, _, kcL_23, hN.2.1⟩) (by decide) (by decide) kcL_17 cs_ise (Or.inl ⟨_, dL_mend_10, rfl, rfl⟩) (Nat.le_of_ble_eq_true rfl) (fun μ1 hq => ?_)
  refine J_bipush (v := -103) hT dL_mend_11 rfl ?_
  exact J_iret hT dL_mend_13 rfl rfl (⟨rfl, hq⟩) (Nat.le_of_eq (Nat.zero_add _)) (Nat.le_of_eq (Nat.zero_add _))

set_option maxRecDepth 100000 in
set_option maxHeartbeats 4000000 in
theorem w_tick {l : Launch} {Z : zZ} (hZ : zSt l Z) {μ : zMem} {k mc ms : Nat} {a : Int32} (h0 : zK μ 0 = 8 + 8) {Q : Int32 → zMem → Prop} (ct : zCt l Z mX8_tick k mc ms [.ref 0, .int a] μ (fun r μx => ∃ x, r = some (.int x) ∧ Q x μx)) : zCtW l Z mL_tick hhL_tick (k + 1) mc ms [.ref 0, .int a] μ (fun r μx => ∃ x, r = some (.int x) ∧ Q x μx) := by
  refine zCtW_of hZ mpL_tick (Nat.le_of_ble_eq_true rfl) (L := [some (.ref 0), some (.int a), none]) rfl (fun τ hYW => ?_)
  have hY := hYW.1
  have hT := hY.1
  refine J_aload_n (i := 0) hT dL_tick_0 rfl rfl ?_
  refine J_iload_n (i := 1) hT dL_tick_1 rfl rfl ?_
  refine J_callV (ci := 8) hY dL_tick_2 mfX8_tick miX8_tick msX8_tick kL_55 ⟨by decide, rfl⟩ h0 ct rfl (Nat.lt_succ_self _) rfl rfl (Nat.le_of_ble_eq_true rfl) (Nat.le_of_eq (Nat.zero_add _)) (Nat.le_of_eq (Nat.zero_add _)) (fun r1 μ1 hq => ?_)
  obtain ⟨x, rfl, hq⟩ := hq
  show zJ _ _ _ _ (.int x :: _) _ _ _
  exact J_iret hT dL_tick_5 rfl rfl (⟨x, rfl, hq⟩) (Nat.le_of_eq (Nat.zero_add _)) (Nat.le_of_eq (Nat.zero_add _))

set_option maxRecDepth 100000 in
set_option maxHeartbeats 4000000 in
theorem w_tick_ise {l : Launch} {Z : zZ} (hZ : zSt l Z) {μ : zMem} {k mc ms : Nat} {a : Int32} (h0 : zK μ 0 = 8 + 8) (hN : zNs Z) {Q : zMem → Prop} (ct : zCtX l Z mX8_tick k mc ms [.ref 0, .int a] μ "java/lang/IllegalStateException" Q) : zCtW l Z mL_tick hhL_tick (k + 1) mc ms [.ref 0, .int a] μ (fun r μx => r = some (.int (-103)) ∧ Q μx) := by
  refine zCtW_of hZ mpL_tick (Nat.le_of_ble_eq_true rfl) (L := [some (.ref 0), some (.int a), none]) rfl (fun τ hYW => ?_)
  have hY := hYW.1
  have hT := hY.1
  refine J_aload_n (i := 0) hT dL_tick_0 rfl rfl ?_
  refine J_iload_n (i := 1) hT dL_tick_1 rfl rfl ?_
  refine J_callVC (ci := 8) (i := 2) (hpc := 10) (nx := 11) hYW dL_tick_2 mfX8_tick miX8_tick msX8_tick ⟨by decide, rfl⟩ h0 ct rfl (Nat.lt_succ_self _) rfl rfl (Nat.le_of_ble_eq_true rfl) (Nat.le_of_eq (Nat.zero_add _)) (Nat.le_of_eq (Nat.zero_add _)) mlL_55 [(0, 5, 6, 15)] [] 17 0 5 rfl (fun z hz => by rcases List.mem_singleton.mp hz with rfl; exact ⟨by decide, _, kcL_15, hN.2.2⟩) (by decide) (by decide) kcL_17 cs_ise (Or.inl ⟨_, dL_tick_10, rfl, rfl⟩) (Nat.le_of_ble_eq_true rfl) (fun μ1 hq => ?_)
  refine J_bipush (v := -103) hT dL_tick_11 rfl ?_
  exact J_iret hT dL_tick_13 rfl rfl (⟨rfl, hq⟩) (Nat.le_of_eq (Nat.zero_add _)) (Nat.le_of_eq (Nat.zero_add _))

