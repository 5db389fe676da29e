/-! ===== methods: code, words, links ===== -/
abbrev mX8_init : zM := (yX8_init, cX8_init, 1, none)
set_option maxRecDepth 20000 in
theorem mfX8_init : zMf mX8_init 0 := ⟨ztb_in (zc1 (List.mem_of_getElem? (i := 28) rfl)) rfl, ztb_in (zc1 (List.mem_of_getElem? (i := 1) rfl)) rfl, ⟨by decide +kernel, by decide +kernel, by decide +kernel⟩, by decide⟩
theorem mpX8_init : plainName mX8_init.1.cls = true := by decide +kernel
set_option maxRecDepth 20000 in
theorem miX8_init : Cond.instanceMethod mX8_init.1 ∈ ztb := ztb_in (zc1 (List.mem_of_getElem? (i := 27) rfl)) rfl
abbrev mX7_init : zM := (yX7_init, cX7_init, 1, none)
set_option maxRecDepth 20000 in
theorem mfX7_init : zMf mX7_init 0 := ⟨ztb_in (zc1 (List.mem_of_getElem? (i := 36) rfl)) rfl, ztb_in (zc1 (List.mem_of_getElem? (i := 2) rfl)) rfl, ⟨by decide +kernel, by decide +kernel, by decide +kernel⟩, by decide⟩
theorem mpX7_init : plainName mX7_init.1.cls = true := by decide +kernel
set_option maxRecDepth 20000 in
theorem miX7_init : Cond.instanceMethod mX7_init.1 ∈ ztb := ztb_in (zc1 (List.mem_of_getElem? (i := 35) rfl)) rfl
abbrev mX2_init : zM := (yX2_init, cX2_init, 2, none)
set_option maxRecDepth 20000 in
theorem mfX2_init : zMf mX2_init 1 := ⟨ztb_in (zc1 (List.mem_of_getElem? (i := 52) rfl)) rfl, ztb_in (zc1 (List.mem_of_getElem? (i := 3) rfl)) rfl, ⟨by decide +kernel, by decide +kernel, by decide +kernel⟩, by decide⟩
theorem mpX2_init : plainName mX2_init.1.cls = true := by decide +kernel
set_option maxRecDepth 20000 in
theorem miX2_init : Cond.instanceMethod mX2_init.1 ∈ ztb := ztb_in (zc1 (List.mem_of_getElem? (i := 51) rfl)) rfl
abbrev mX6_init : zM := (yX6_init, cX6_init, 3, none)
set_option maxRecDepth 20000 in
theorem mfX6_init : zMf mX6_init 0 := ⟨ztb_in (zc1 (List.mem_of_getElem? (i := 78) rfl)) rfl, ztb_in (zc1 (List.mem_of_getElem? (i := 4) rfl)) rfl, ⟨by decide +kernel, by decide +kernel, by decide +kernel⟩, by decide⟩
theorem mpX6_init : plainName mX6_init.1.cls = true := by decide +kernel
set_option maxRecDepth 20000 in
theorem miX6_init : Cond.instanceMethod mX6_init.1 ∈ ztb := ztb_in (zc1 (List.mem_of_getElem? (i := 77) rfl)) rfl
abbrev mX1_init : zM := (yX1_init, cX1_init, 3, none)
set_option maxRecDepth 20000 in
theorem mfX1_init : zMf mX1_init 2 := ⟨ztb_in (zc1 (List.mem_of_getElem? (i := 84) rfl)) rfl, ztb_in (zc1 (List.mem_of_getElem? (i := 5) rfl)) rfl, ⟨by decide +kernel, by decide +kernel, by decide +kernel⟩, by decide⟩
theorem mpX1_init : plainName mX1_init.1.cls = true := by decide +kernel
set_option maxRecDepth 20000 in
theorem miX1_init : Cond.instanceMethod mX1_init.1 ∈ ztb := ztb_in (zc1 (List.mem_of_getElem? (i := 83) rfl)) rfl
abbrev mX0_init : zM := (yX0_init, cX0_init, 3, none)
set_option maxRecDepth 20000 in
theorem mfX0_init : zMf mX0_init 2 := ⟨ztb_in (zc1 (List.mem_of_getElem? (i := 105) rfl)) rfl, ztb_in (zc1 (List.mem_of_getElem? (i := 6) rfl)) rfl, ⟨by decide +kernel, by decide +kernel, by decide +kernel⟩, by decide⟩
theorem mpX0_init : plainName mX0_init.1.cls = true := by decide +kernel
set_option maxRecDepth 20000 in
theorem miX0_init : Cond.instanceMethod mX0_init.1 ∈ ztb := ztb_in (zc1 (List.mem_of_getElem? (i := 104) rfl)) rfl
abbrev mX3_init : zM := (yX3_init, cX3_init, 1, none)
set_option maxRecDepth 20000 in
theorem mfX3_init : zMf mX3_init 0 := ⟨ztb_in (zc1 (List.mem_of_getElem? (i := 135) rfl)) rfl, ztb_in (zc1 (List.mem_of_getElem? (i := 7) rfl)) rfl, ⟨by decide +kernel, by decide +kernel, by decide +kernel⟩, by decide⟩
theorem mpX3_init : plainName mX3_init.1.cls = true := by decide +kernel
set_option maxRecDepth 20000 in
theorem miX3_init : Cond.instanceMethod mX3_init.1 ∈ ztb := ztb_in (zc1 (List.mem_of_getElem? (i := 134) rfl)) rfl
abbrev mX4_init : zM := (yX4_init, cX4_init, 2, none)
set_option maxRecDepth 20000 in
theorem mfX4_init : zMf mX4_init 1 := ⟨ztb_in (zc1 (List.mem_of_getElem? (i := 149) rfl)) rfl, ztb_in (zc1 (List.mem_of_getElem? (i := 8) rfl)) rfl, ⟨by decide +kernel, by decide +kernel, by decide +kernel⟩, by decide⟩
theorem mpX4_init : plainName mX4_init.1.cls = true := by decide +kernel
set_option maxRecDepth 20000 in
theorem miX4_init : Cond.instanceMethod mX4_init.1 ∈ ztb := ztb_in (zc1 (List.mem_of_getElem? (i := 148) rfl)) rfl
abbrev mX5_init : zM := (yX5_init, cX5_init, 7, none)
set_option maxRecDepth 20000 in
theorem mfX5_init : zMf mX5_init 6 := ⟨ztb_in (zc2 (List.mem_of_getElem? (i := 6) rfl)) rfl, ztb_in (zc1 (List.mem_of_getElem? (i := 9) rfl)) rfl, ⟨by decide +kernel, by decide +kernel, by decide +kernel⟩, by decide⟩
theorem mpX5_init : plainName mX5_init.1.cls = true := by decide +kernel
set_option maxRecDepth 20000 in
theorem miX5_init : Cond.instanceMethod mX5_init.1 ∈ ztb := ztb_in (zc2 (List.mem_of_getElem? (i := 5) rfl)) rfl
abbrev mX8_steps : zM := (yX8_steps, cX8_steps, 1, (some FieldType.int))
set_option maxRecDepth 20000 in
theorem mfX8_steps : zMf mX8_steps 0 := ⟨ztb_in (zc2 (List.mem_of_getElem? (i := 59) rfl)) rfl, ztb_in (zc1 (List.mem_of_getElem? (i := 1) rfl)) rfl, ⟨by decide +kernel, by decide +kernel, by decide +kernel⟩, by decide⟩
theorem mpX8_steps : plainName mX8_steps.1.cls = true := by decide +kernel
set_option maxRecDepth 20000 in
theorem miX8_steps : Cond.instanceMethod mX8_steps.1 ∈ ztb := ztb_in (zc2 (List.mem_of_getElem? (i := 57) rfl)) rfl
set_option maxRecDepth 20000 in
theorem msX8_steps : Cond.selects mX8_steps.1.cls mX8_steps.1 mX8_steps.1 ∈ ztb := ztb_in (zc2 (List.mem_of_getElem? (i := 58) rfl)) rfl
abbrev mL_cell : zM := (yL_cell, cL_cell, 2, (some FieldType.int))
set_option maxRecDepth 20000 in
theorem mfL_cell : zMf mL_cell 2 := ⟨ztb_in (zc2 (List.mem_of_getElem? (i := 62) rfl)) rfl, ztb_in (zc1 (List.mem_of_getElem? (i := 0) rfl)) rfl, ⟨by decide +kernel, by decide +kernel, by decide +kernel⟩, by decide⟩
theorem mpL_cell : plainName mL_cell.1.cls = true := by decide +kernel
set_option maxRecDepth 20000 in
theorem mtL_cell : Cond.static mL_cell.1 ∈ ztb := ztb_in (zc2 (List.mem_of_getElem? (i := 61) rfl)) rfl
abbrev mX8_undo : zM := (yX8_undo, cX8_undo, 1, (some FieldType.int))
set_option maxRecDepth 20000 in
theorem mfX8_undo : zMf mX8_undo 0 := ⟨ztb_in (zc2 (List.mem_of_getElem? (i := 72) rfl)) rfl, ztb_in (zc1 (List.mem_of_getElem? (i := 1) rfl)) rfl, ⟨by decide +kernel, by decide +kernel, by decide +kernel⟩, by decide⟩
theorem mpX8_undo : plainName mX8_undo.1.cls = true := by decide +kernel
set_option maxRecDepth 20000 in
theorem miX8_undo : Cond.instanceMethod mX8_undo.1 ∈ ztb := ztb_in (zc2 (List.mem_of_getElem? (i := 70) rfl)) rfl
set_option maxRecDepth 20000 in
theorem msX8_undo : Cond.selects mX8_undo.1.cls mX8_undo.1 mX8_undo.1 ∈ ztb := ztb_in (zc2 (List.mem_of_getElem? (i := 71) rfl)) rfl
abbrev mX8_tellAnew : zM := (yX8_tellAnew, cX8_tellAnew, 4, none)
set_option maxRecDepth 20000 in
theorem mfX8_tellAnew : zMf mX8_tellAnew 1 := ⟨ztb_in (zc2 (List.mem_of_getElem? (i := 144) rfl)) rfl, ztb_in (zc1 (List.mem_of_getElem? (i := 1) rfl)) rfl, ⟨by decide +kernel, by decide +kernel, by decide +kernel⟩, by decide⟩
theorem mpX8_tellAnew : plainName mX8_tellAnew.1.cls = true := by decide +kernel
set_option maxRecDepth 20000 in
theorem miX8_tellAnew : Cond.instanceMethod mX8_tellAnew.1 ∈ ztb := ztb_in (zc2 (List.mem_of_getElem? (i := 143) rfl)) rfl
set_option maxRecDepth 20000 in
theorem msX8_tellAnew : Cond.selects mX8_tellAnew.1.cls mX8_tellAnew.1 mX8_tellAnew.1 ∈ ztb := ztb_in (zsel (List.mem_of_getElem? (i := 1) rfl)) rfl
abbrev mX6_clear : zM := (yX6_clear, cX6_clear, 5, none)
set_option maxRecDepth 20000 in
theorem mfX6_clear : zMf mX6_clear 0 := ⟨ztb_in (zc2 (List.mem_of_getElem? (i := 148) rfl)) rfl, ztb_in (zc1 (List.mem_of_getElem? (i := 4) rfl)) rfl, ⟨by decide +kernel, by decide +kernel, by decide +kernel⟩, by decide⟩
theorem mpX6_clear : plainName mX6_clear.1.cls = true := by decide +kernel
set_option maxRecDepth 20000 in
theorem miX6_clear : Cond.instanceMethod mX6_clear.1 ∈ ztb := ztb_in (zc2 (List.mem_of_getElem? (i := 146) rfl)) rfl
set_option maxRecDepth 20000 in
theorem msX6_clear : Cond.selects mX6_clear.1.cls mX6_clear.1 mX6_clear.1 ∈ ztb := ztb_in (zc2 (List.mem_of_getElem? (i := 147) rfl)) rfl
abbrev mX4_clear : zM := (yX4_clear, cX4_clear, 1, none)
set_option maxRecDepth 20000 in
theorem mfX4_clear : zMf mX4_clear 0 := ⟨ztb_in (zc2 (List.mem_of_getElem? (i := 152) rfl)) rfl, ztb_in (zc1 (List.mem_of_getElem? (i := 8) rfl)) rfl, ⟨by decide +kernel, by decide +kernel, by decide +kernel⟩, by decide⟩
theorem mpX4_clear : plainName mX4_clear.1.cls = true := by decide +kernel
set_option maxRecDepth 20000 in
theorem miX4_clear : Cond.instanceMethod mX4_clear.1 ∈ ztb := ztb_in (zc2 (List.mem_of_getElem? (i := 150) rfl)) rfl
set_option maxRecDepth 20000 in
theorem msX4_clear : Cond.selects mX4_clear.1.cls mX4_clear.1 mX4_clear.1 ∈ ztb := ztb_in (zc2 (List.mem_of_getElem? (i := 151) rfl)) rfl
abbrev mX6_arrange : zM := (yX6_arrange, cX6_arrange, 10, none)
set_option maxRecDepth 20000 in
theorem mfX6_arrange : zMf mX6_arrange 0 := ⟨ztb_in (zc2 (List.mem_of_getElem? (i := 156) rfl)) rfl, ztb_in (zc1 (List.mem_of_getElem? (i := 4) rfl)) rfl, ⟨by decide +kernel, by decide +kernel, by decide +kernel⟩, by decide⟩
theorem mpX6_arrange : plainName mX6_arrange.1.cls = true := by decide +kernel
set_option maxRecDepth 20000 in
theorem miX6_arrange : Cond.instanceMethod mX6_arrange.1 ∈ ztb := ztb_in (zc2 (List.mem_of_getElem? (i := 155) rfl)) rfl
set_option maxRecDepth 20000 in
theorem msX6_arrange : Cond.selects mX6_arrange.1.cls mX6_arrange.1 mX6_arrange.1 ∈ ztb := ztb_in (zsel (List.mem_of_getElem? (i := 2) rfl)) rfl
abbrev mX8_has : zM := (yX8_has, cX8_has, 2, (some FieldType.boolean))
set_option maxRecDepth 20000 in
theorem mfX8_has : zMf mX8_has 2 := ⟨ztb_in (zc2 (List.mem_of_getElem? (i := 159) rfl)) rfl, ztb_in (zc1 (List.mem_of_getElem? (i := 1) rfl)) rfl, ⟨by decide +kernel, by decide +kernel, by decide +kernel⟩, by decide⟩
theorem mpX8_has : plainName mX8_has.1.cls = true := by decide +kernel
set_option maxRecDepth 20000 in
theorem mtX8_has : Cond.static mX8_has.1 ∈ ztb := ztb_in (zc2 (List.mem_of_getElem? (i := 158) rfl)) rfl
abbrev mX8_bit : zM := (yX8_bit, cX8_bit, 1, (some FieldType.int))
set_option maxRecDepth 20000 in
theorem mfX8_bit : zMf mX8_bit 1 := ⟨ztb_in (zc2 (List.mem_of_getElem? (i := 162) rfl)) rfl, ztb_in (zc1 (List.mem_of_getElem? (i := 1) rfl)) rfl, ⟨by decide +kernel, by decide +kernel, by decide +kernel⟩, by decide⟩
theorem mpX8_bit : plainName mX8_bit.1.cls = true := by decide +kernel
set_option maxRecDepth 20000 in
theorem mtX8_bit : Cond.static mX8_bit.1 ∈ ztb := ztb_in (zc2 (List.mem_of_getElem? (i := 161) rfl)) rfl
abbrev mX6_tell : zM := (yX6_tell, cX6_tell, 4, (some FieldType.int))
set_option maxRecDepth 20000 in
theorem mfX6_tell : zMf mX6_tell 1 := ⟨ztb_in (zc2 (List.mem_of_getElem? (i := 166) rfl)) rfl, ztb_in (zc1 (List.mem_of_getElem? (i := 4) rfl)) rfl, ⟨by decide +kernel, by decide +kernel, by decide +kernel⟩, by decide⟩
theorem mpX6_tell : plainName mX6_tell.1.cls = true := by decide +kernel
set_option maxRecDepth 20000 in
theorem miX6_tell : Cond.instanceMethod mX6_tell.1 ∈ ztb := ztb_in (zc2 (List.mem_of_getElem? (i := 164) rfl)) rfl
set_option maxRecDepth 20000 in
theorem msX6_tell : Cond.selects mX6_tell.1.cls mX6_tell.1 mX6_tell.1 ∈ ztb := ztb_in (zc2 (List.mem_of_getElem? (i := 165) rfl)) rfl
abbrev mX6_change : zM := (yX6_change, cX6_change, 2, none)
set_option maxRecDepth 20000 in
theorem mfX6_change : zMf mX6_change 1 := ⟨ztb_in (zc2 (List.mem_of_getElem? (i := 170) rfl)) rfl, ztb_in (zc1 (List.mem_of_getElem? (i := 4) rfl)) rfl, ⟨by decide +kernel, by decide +kernel, by decide +kernel⟩, by decide⟩
theorem mpX6_change : plainName mX6_change.1.cls = true := by decide +kernel
set_option maxRecDepth 20000 in
theorem miX6_change : Cond.instanceMethod mX6_change.1 ∈ ztb := ztb_in (zc2 (List.mem_of_getElem? (i := 169) rfl)) rfl
set_option maxRecDepth 20000 in
theorem msX6_change : Cond.selects mX6_change.1.cls mX6_change.1 mX6_change.1 ∈ ztb := ztb_in (zsel (List.mem_of_getElem? (i := 3) rfl)) rfl
abbrev mX6_changeReading : zM := (yX6_changeReading, cX6_changeReading, 3, none)
set_option maxRecDepth 20000 in
theorem mfX6_changeReading : zMf mX6_changeReading 1 := ⟨ztb_in (zc2 (List.mem_of_getElem? (i := 174) rfl)) rfl, ztb_in (zc1 (List.mem_of_getElem? (i := 4) rfl)) rfl, ⟨by decide +kernel, by decide +kernel, by decide +kernel⟩, by decide⟩
theorem mpX6_changeReading : plainName mX6_changeReading.1.cls = true := by decide +kernel
set_option maxRecDepth 20000 in
theorem miX6_changeReading : Cond.instanceMethod mX6_changeReading.1 ∈ ztb := ztb_in (zc2 (List.mem_of_getElem? (i := 173) rfl)) rfl
set_option maxRecDepth 20000 in
theorem msX6_changeReading : Cond.selects mX6_changeReading.1.cls mX6_changeReading.1 mX6_changeReading.1 ∈ ztb := ztb_in (zsel (List.mem_of_getElem? (i := 4) rfl)) rfl
abbrev mX6_soilReaders : zM := (yX6_soilReaders, cX6_soilReaders, 6, none)
set_option maxRecDepth 20000 in
theorem mfX6_soilReaders : zMf mX6_soilReaders 1 := ⟨ztb_in (zc2 (List.mem_of_getElem? (i := 178) rfl)) rfl, ztb_in (zc1 (List.mem_of_getElem? (i := 4) rfl)) rfl, ⟨by decide +kernel, by decide +kernel, by decide +kernel⟩, by decide⟩
theorem mpX6_soilReaders : plainName mX6_soilReaders.1.cls = true := by decide +kernel
set_option maxRecDepth 20000 in
theorem miX6_soilReaders : Cond.instanceMethod mX6_soilReaders.1 ∈ ztb := ztb_in (zc2 (List.mem_of_getElem? (i := 177) rfl)) rfl
set_option maxRecDepth 20000 in
theorem msX6_soilReaders : Cond.selects mX6_soilReaders.1.cls mX6_soilReaders.1 mX6_soilReaders.1 ∈ ztb := ztb_in (zsel (List.mem_of_getElem? (i := 5) rfl)) rfl
abbrev mX6_changeCell : zM := (yX6_changeCell, cX6_changeCell, 3, none)
set_option maxRecDepth 20000 in
theorem mfX6_changeCell : zMf mX6_changeCell 1 := ⟨ztb_in (zc2 (List.mem_of_getElem? (i := 182) rfl)) rfl, ztb_in (zc1 (List.mem_of_getElem? (i := 4) rfl)) rfl, ⟨by decide +kernel, by decide +kernel, by decide +kernel⟩, by decide⟩
theorem mpX6_changeCell : plainName mX6_changeCell.1.cls = true := by decide +kernel
set_option maxRecDepth 20000 in
theorem miX6_changeCell : Cond.instanceMethod mX6_changeCell.1 ∈ ztb := ztb_in (zc2 (List.mem_of_getElem? (i := 181) rfl)) rfl
set_option maxRecDepth 20000 in
theorem msX6_changeCell : Cond.selects mX6_changeCell.1.cls mX6_changeCell.1 mX6_changeCell.1 ∈ ztb := ztb_in (zsel (List.mem_of_getElem? (i := 6) rfl)) rfl
abbrev mX6_setValue : zM := (yX6_setValue, cX6_setValue, 3, none)
set_option maxRecDepth 20000 in
theorem mfX6_setValue : zMf mX6_setValue 2 := ⟨ztb_in (zc2 (List.mem_of_getElem? (i := 186) rfl)) rfl, ztb_in (zc1 (List.mem_of_getElem? (i := 4) rfl)) rfl, ⟨by decide +kernel, by decide +kernel, by decide +kernel⟩, by decide⟩
theorem mpX6_setValue : plainName mX6_setValue.1.cls = true := by decide +kernel
set_option maxRecDepth 20000 in
theorem miX6_setValue : Cond.instanceMethod mX6_setValue.1 ∈ ztb := ztb_in (zc2 (List.mem_of_getElem? (i := 185) rfl)) rfl
set_option maxRecDepth 20000 in
theorem msX6_setValue : Cond.selects mX6_setValue.1.cls mX6_setValue.1 mX6_setValue.1 ∈ ztb := ztb_in (zsel (List.mem_of_getElem? (i := 7) rfl)) rfl
abbrev mX6_changeService : zM := (yX6_changeService, cX6_changeService, 4, none)
set_option maxRecDepth 20000 in
theorem mfX6_changeService : zMf mX6_changeService 1 := ⟨ztb_in (zc2 (List.mem_of_getElem? (i := 190) rfl)) rfl, ztb_in (zc1 (List.mem_of_getElem? (i := 4) rfl)) rfl, ⟨by decide +kernel, by decide +kernel, by decide +kernel⟩, by decide⟩
theorem mpX6_changeService : plainName mX6_changeService.1.cls = true := by decide +kernel
set_option maxRecDepth 20000 in
theorem miX6_changeService : Cond.instanceMethod mX6_changeService.1 ∈ ztb := ztb_in (zc2 (List.mem_of_getElem? (i := 189) rfl)) rfl
set_option maxRecDepth 20000 in
theorem msX6_changeService : Cond.selects mX6_changeService.1.cls mX6_changeService.1 mX6_changeService.1 ∈ ztb := ztb_in (zsel (List.mem_of_getElem? (i := 8) rfl)) rfl
abbrev mX6_settle : zM := (yX6_settle, cX6_settle, 4, (some FieldType.int))
set_option maxRecDepth 20000 in
theorem mfX6_settle : zMf mX6_settle 0 := ⟨ztb_in (zc2 (List.mem_of_getElem? (i := 194) rfl)) rfl, ztb_in (zc1 (List.mem_of_getElem? (i := 4) rfl)) rfl, ⟨by decide +kernel, by decide +kernel, by decide +kernel⟩, by decide⟩
theorem mpX6_settle : plainName mX6_settle.1.cls = true := by decide +kernel
set_option maxRecDepth 20000 in
theorem miX6_settle : Cond.instanceMethod mX6_settle.1 ∈ ztb := ztb_in (zc2 (List.mem_of_getElem? (i := 192) rfl)) rfl
set_option maxRecDepth 20000 in
theorem msX6_settle : Cond.selects mX6_settle.1.cls mX6_settle.1 mX6_settle.1 ∈ ztb := ztb_in (zc2 (List.mem_of_getElem? (i := 193) rfl)) rfl
abbrev mX6_forgetChanges : zM := (yX6_forgetChanges, cX6_forgetChanges, 5, none)
set_option maxRecDepth 20000 in
theorem mfX6_forgetChanges : zMf mX6_forgetChanges 0 := ⟨ztb_in (zc2 (List.mem_of_getElem? (i := 198) rfl)) rfl, ztb_in (zc1 (List.mem_of_getElem? (i := 4) rfl)) rfl, ⟨by decide +kernel, by decide +kernel, by decide +kernel⟩, by decide⟩
theorem mpX6_forgetChanges : plainName mX6_forgetChanges.1.cls = true := by decide +kernel
set_option maxRecDepth 20000 in
theorem miX6_forgetChanges : Cond.instanceMethod mX6_forgetChanges.1 ∈ ztb := ztb_in (zc2 (List.mem_of_getElem? (i := 197) rfl)) rfl
set_option maxRecDepth 20000 in
theorem msX6_forgetChanges : Cond.selects mX6_forgetChanges.1.cls mX6_forgetChanges.1 mX6_forgetChanges.1 ∈ ztb := ztb_in (zsel (List.mem_of_getElem? (i := 9) rfl)) rfl
abbrev mX6_workOutDirtyCells : zM := (yX6_workOutDirtyCells, cX6_workOutDirtyCells, 5, none)
set_option maxRecDepth 20000 in
theorem mfX6_workOutDirtyCells : zMf mX6_workOutDirtyCells 0 := ⟨ztb_in (zc2 (List.mem_of_getElem? (i := 202) rfl)) rfl, ztb_in (zc1 (List.mem_of_getElem? (i := 4) rfl)) rfl, ⟨by decide +kernel, by decide +kernel, by decide +kernel⟩, by decide⟩
theorem mpX6_workOutDirtyCells : plainName mX6_workOutDirtyCells.1.cls = true := by decide +kernel
set_option maxRecDepth 20000 in
theorem miX6_workOutDirtyCells : Cond.instanceMethod mX6_workOutDirtyCells.1 ∈ ztb := ztb_in (zc2 (List.mem_of_getElem? (i := 201) rfl)) rfl
set_option maxRecDepth 20000 in
theorem msX6_workOutDirtyCells : Cond.selects mX6_workOutDirtyCells.1.cls mX6_workOutDirtyCells.1 mX6_workOutDirtyCells.1 ∈ ztb := ztb_in (zsel (List.mem_of_getElem? (i := 10) rfl)) rfl
abbrev mX6_valueOf : zM := (yX6_valueOf, cX6_valueOf, 11, (some FieldType.int))
set_option maxRecDepth 20000 in
theorem mfX6_valueOf : zMf mX6_valueOf 1 := ⟨ztb_in (zc2 (List.mem_of_getElem? (i := 206) rfl)) rfl, ztb_in (zc1 (List.mem_of_getElem? (i := 4) rfl)) rfl, ⟨by decide +kernel, by decide +kernel, by decide +kernel⟩, by decide⟩
theorem mpX6_valueOf : plainName mX6_valueOf.1.cls = true := by decide +kernel
set_option maxRecDepth 20000 in
theorem miX6_valueOf : Cond.instanceMethod mX6_valueOf.1 ∈ ztb := ztb_in (zc2 (List.mem_of_getElem? (i := 204) rfl)) rfl
set_option maxRecDepth 20000 in
theorem msX6_valueOf : Cond.selects mX6_valueOf.1.cls mX6_valueOf.1 mX6_valueOf.1 ∈ ztb := ztb_in (zc2 (List.mem_of_getElem? (i := 205) rfl)) rfl
abbrev mX6_valueNamed : zM := (yX6_valueNamed, cX6_valueNamed, 3, (some FieldType.int))
set_option maxRecDepth 20000 in
theorem mfX6_valueNamed : zMf mX6_valueNamed 2 := ⟨ztb_in (zc2 (List.mem_of_getElem? (i := 212) rfl)) rfl, ztb_in (zc1 (List.mem_of_getElem? (i := 4) rfl)) rfl, ⟨by decide +kernel, by decide +kernel, by decide +kernel⟩, by decide⟩
theorem mpX6_valueNamed : plainName mX6_valueNamed.1.cls = true := by decide +kernel
set_option maxRecDepth 20000 in
theorem miX6_valueNamed : Cond.instanceMethod mX6_valueNamed.1 ∈ ztb := ztb_in (zc2 (List.mem_of_getElem? (i := 211) rfl)) rfl
set_option maxRecDepth 20000 in
theorem msX6_valueNamed : Cond.selects mX6_valueNamed.1.cls mX6_valueNamed.1 mX6_valueNamed.1 ∈ ztb := ztb_in (zsel (List.mem_of_getElem? (i := 11) rfl)) rfl
abbrev mX6_cellValue : zM := (yX6_cellValue, cX6_cellValue, 3, (some FieldType.int))
set_option maxRecDepth 20000 in
theorem mfX6_cellValue : zMf mX6_cellValue 2 := ⟨ztb_in (zc2 (List.mem_of_getElem? (i := 216) rfl)) rfl, ztb_in (zc1 (List.mem_of_getElem? (i := 4) rfl)) rfl, ⟨by decide +kernel, by decide +kernel, by decide +kernel⟩, by decide⟩
theorem mpX6_cellValue : plainName mX6_cellValue.1.cls = true := by decide +kernel
set_option maxRecDepth 20000 in
theorem miX6_cellValue : Cond.instanceMethod mX6_cellValue.1 ∈ ztb := ztb_in (zc2 (List.mem_of_getElem? (i := 215) rfl)) rfl
set_option maxRecDepth 20000 in
theorem msX6_cellValue : Cond.selects mX6_cellValue.1.cls mX6_cellValue.1 mX6_cellValue.1 ∈ ztb := ztb_in (zsel (List.mem_of_getElem? (i := 12) rfl)) rfl
abbrev mX6_combine : zM := (yX6_combine, cX6_combine, 4, (some FieldType.long))
set_option maxRecDepth 20000 in
theorem mfX6_combine : zMf mX6_combine 4 := ⟨ztb_in (zc2 (List.mem_of_getElem? (i := 219) rfl)) rfl, ztb_in (zc1 (List.mem_of_getElem? (i := 4) rfl)) rfl, ⟨by decide +kernel, by decide +kernel, by decide +kernel⟩, by decide⟩
theorem mpX6_combine : plainName mX6_combine.1.cls = true := by decide +kernel
set_option maxRecDepth 20000 in
theorem mtX6_combine : Cond.static mX6_combine.1 ∈ ztb := ztb_in (zc2 (List.mem_of_getElem? (i := 218) rfl)) rfl
abbrev mX8_within : zM := (yX8_within, cX8_within, 2, (some FieldType.int))
set_option maxRecDepth 20000 in
theorem mfX8_within : zMf mX8_within 1 := ⟨ztb_in (zc2 (List.mem_of_getElem? (i := 228) rfl)) rfl, ztb_in (zc1 (List.mem_of_getElem? (i := 1) rfl)) rfl, ⟨by decide +kernel, by decide +kernel, by decide +kernel⟩, by decide⟩
theorem mpX8_within : plainName mX8_within.1.cls = true := by decide +kernel
set_option maxRecDepth 20000 in
theorem mtX8_within : Cond.static mX8_within.1 ∈ ztb := ztb_in (zc2 (List.mem_of_getElem? (i := 227) rfl)) rfl
abbrev mX6_lookAtServices : zM := (yX6_lookAtServices, cX6_lookAtServices, 10, (some FieldType.boolean))
set_option maxRecDepth 20000 in
theorem mfX6_lookAtServices : zMf mX6_lookAtServices 1 := ⟨ztb_in (zc3 (List.mem_of_getElem? (i := 0) rfl)) rfl, ztb_in (zc1 (List.mem_of_getElem? (i := 4) rfl)) rfl, ⟨by decide +kernel, by decide +kernel, by decide +kernel⟩, by decide⟩
theorem mpX6_lookAtServices : plainName mX6_lookAtServices.1.cls = true := by decide +kernel
set_option maxRecDepth 20000 in
theorem miX6_lookAtServices : Cond.instanceMethod mX6_lookAtServices.1 ∈ ztb := ztb_in (zc2 (List.mem_of_getElem? (i := 239) rfl)) rfl
set_option maxRecDepth 20000 in
theorem msX6_lookAtServices : Cond.selects mX6_lookAtServices.1.cls mX6_lookAtServices.1 mX6_lookAtServices.1 ∈ ztb := ztb_in (zsel (List.mem_of_getElem? (i := 13) rfl)) rfl
abbrev mX6_nextState : zM := (yX6_nextState, cX6_nextState, 2, (some FieldType.int))
set_option maxRecDepth 20000 in
theorem mfX6_nextState : zMf mX6_nextState 1 := ⟨ztb_in (zc3 (List.mem_of_getElem? (i := 4) rfl)) rfl, ztb_in (zc1 (List.mem_of_getElem? (i := 4) rfl)) rfl, ⟨by decide +kernel, by decide +kernel, by decide +kernel⟩, by decide⟩
theorem mpX6_nextState : plainName mX6_nextState.1.cls = true := by decide +kernel
set_option maxRecDepth 20000 in
theorem miX6_nextState : Cond.instanceMethod mX6_nextState.1 ∈ ztb := ztb_in (zc3 (List.mem_of_getElem? (i := 3) rfl)) rfl
set_option maxRecDepth 20000 in
theorem msX6_nextState : Cond.selects mX6_nextState.1.cls mX6_nextState.1 mX6_nextState.1 ∈ ztb := ztb_in (zsel (List.mem_of_getElem? (i := 14) rfl)) rfl
abbrev mX6_isWanted : zM := (yX6_isWanted, cX6_isWanted, 6, (some FieldType.boolean))
set_option maxRecDepth 20000 in
theorem mfX6_isWanted : zMf mX6_isWanted 1 := ⟨ztb_in (zc3 (List.mem_of_getElem? (i := 8) rfl)) rfl, ztb_in (zc1 (List.mem_of_getElem? (i := 4) rfl)) rfl, ⟨by decide +kernel, by decide +kernel, by decide +kernel⟩, by decide⟩
theorem mpX6_isWanted : plainName mX6_isWanted.1.cls = true := by decide +kernel
set_option maxRecDepth 20000 in
theorem miX6_isWanted : Cond.instanceMethod mX6_isWanted.1 ∈ ztb := ztb_in (zc3 (List.mem_of_getElem? (i := 7) rfl)) rfl
set_option maxRecDepth 20000 in
theorem msX6_isWanted : Cond.selects mX6_isWanted.1.cls mX6_isWanted.1 mX6_isWanted.1 ∈ ztb := ztb_in (zsel (List.mem_of_getElem? (i := 15) rfl)) rfl
abbrev mX6_findStale : zM := (yX6_findStale, cX6_findStale, 6, (some FieldType.int))
set_option maxRecDepth 20000 in
theorem mfX6_findStale : zMf mX6_findStale 0 := ⟨ztb_in (zc3 (List.mem_of_getElem? (i := 12) rfl)) rfl, ztb_in (zc1 (List.mem_of_getElem? (i := 4) rfl)) rfl, ⟨by decide +kernel, by decide +kernel, by decide +kernel⟩, by decide⟩
theorem mpX6_findStale : plainName mX6_findStale.1.cls = true := by decide +kernel
set_option maxRecDepth 20000 in
theorem miX6_findStale : Cond.instanceMethod mX6_findStale.1 ∈ ztb := ztb_in (zc3 (List.mem_of_getElem? (i := 10) rfl)) rfl
set_option maxRecDepth 20000 in
theorem msX6_findStale : Cond.selects mX6_findStale.1.cls mX6_findStale.1 mX6_findStale.1 ∈ ztb := ztb_in (zc3 (List.mem_of_getElem? (i := 11) rfl)) rfl
abbrev mX3_isFresh : zM := (yX3_isFresh, cX3_isFresh, 2, (some FieldType.boolean))
set_option maxRecDepth 20000 in
theorem mfX3_isFresh : zMf mX3_isFresh 1 := ⟨ztb_in (zc3 (List.mem_of_getElem? (i := 16) rfl)) rfl, ztb_in (zc1 (List.mem_of_getElem? (i := 7) rfl)) rfl, ⟨by decide +kernel, by decide +kernel, by decide +kernel⟩, by decide⟩
theorem mpX3_isFresh : plainName mX3_isFresh.1.cls = true := by decide +kernel
set_option maxRecDepth 20000 in
theorem miX3_isFresh : Cond.instanceMethod mX3_isFresh.1 ∈ ztb := ztb_in (zc3 (List.mem_of_getElem? (i := 14) rfl)) rfl
set_option maxRecDepth 20000 in
theorem msX3_isFresh : Cond.selects mX3_isFresh.1.cls mX3_isFresh.1 mX3_isFresh.1 ∈ ztb := ztb_in (zc3 (List.mem_of_getElem? (i := 15) rfl)) rfl
abbrev mX4_isDue : zM := (yX4_isDue, cX4_isDue, 2, (some FieldType.boolean))
set_option maxRecDepth 20000 in
theorem mfX4_isDue : zMf mX4_isDue 1 := ⟨ztb_in (zc3 (List.mem_of_getElem? (i := 20) rfl)) rfl, ztb_in (zc1 (List.mem_of_getElem? (i := 8) rfl)) rfl, ⟨by decide +kernel, by decide +kernel, by decide +kernel⟩, by decide⟩
theorem mpX4_isDue : plainName mX4_isDue.1.cls = true := by decide +kernel
set_option maxRecDepth 20000 in
theorem miX4_isDue : Cond.instanceMethod mX4_isDue.1 ∈ ztb := ztb_in (zc3 (List.mem_of_getElem? (i := 18) rfl)) rfl
set_option maxRecDepth 20000 in
theorem msX4_isDue : Cond.selects mX4_isDue.1.cls mX4_isDue.1 mX4_isDue.1 ∈ ztb := ztb_in (zc3 (List.mem_of_getElem? (i := 19) rfl)) rfl
abbrev mX6_loadRunning : zM := (yX6_loadRunning, cX6_loadRunning, 3, (some FieldType.int))
set_option maxRecDepth 20000 in
theorem mfX6_loadRunning : zMf mX6_loadRunning 1 := ⟨ztb_in (zc3 (List.mem_of_getElem? (i := 24) rfl)) rfl, ztb_in (zc1 (List.mem_of_getElem? (i := 4) rfl)) rfl, ⟨by decide +kernel, by decide +kernel, by decide +kernel⟩, by decide⟩
theorem mpX6_loadRunning : plainName mX6_loadRunning.1.cls = true := by decide +kernel
set_option maxRecDepth 20000 in
theorem miX6_loadRunning : Cond.instanceMethod mX6_loadRunning.1 ∈ ztb := ztb_in (zc3 (List.mem_of_getElem? (i := 23) rfl)) rfl
set_option maxRecDepth 20000 in
theorem msX6_loadRunning : Cond.selects mX6_loadRunning.1.cls mX6_loadRunning.1 mX6_loadRunning.1 ∈ ztb := ztb_in (zsel (List.mem_of_getElem? (i := 16) rfl)) rfl
abbrev mX4_enter : zM := (yX4_enter, cX4_enter, 3, none)
set_option maxRecDepth 20000 in
theorem mfX4_enter : zMf mX4_enter 2 := ⟨ztb_in (zc3 (List.mem_of_getElem? (i := 28) rfl)) rfl, ztb_in (zc1 (List.mem_of_getElem? (i := 8) rfl)) rfl, ⟨by decide +kernel, by decide +kernel, by decide +kernel⟩, by decide⟩
theorem mpX4_enter : plainName mX4_enter.1.cls = true := by decide +kernel
set_option maxRecDepth 20000 in
theorem miX4_enter : Cond.instanceMethod mX4_enter.1 ∈ ztb := ztb_in (zc3 (List.mem_of_getElem? (i := 26) rfl)) rfl
set_option maxRecDepth 20000 in
theorem msX4_enter : Cond.selects mX4_enter.1.cls mX4_enter.1 mX4_enter.1 ∈ ztb := ztb_in (zc3 (List.mem_of_getElem? (i := 27) rfl)) rfl
abbrev mX6_setTold : zM := (yX6_setTold, cX6_setTold, 3, none)
set_option maxRecDepth 20000 in
theorem mfX6_setTold : zMf mX6_setTold 2 := ⟨ztb_in (zc3 (List.mem_of_getElem? (i := 32) rfl)) rfl, ztb_in (zc1 (List.mem_of_getElem? (i := 4) rfl)) rfl, ⟨by decide +kernel, by decide +kernel, by decide +kernel⟩, by decide⟩
theorem mpX6_setTold : plainName mX6_setTold.1.cls = true := by decide +kernel
set_option maxRecDepth 20000 in
theorem miX6_setTold : Cond.instanceMethod mX6_setTold.1 ∈ ztb := ztb_in (zc3 (List.mem_of_getElem? (i := 31) rfl)) rfl
set_option maxRecDepth 20000 in
theorem msX6_setTold : Cond.selects mX6_setTold.1.cls mX6_setTold.1 mX6_setTold.1 ∈ ztb := ztb_in (zsel (List.mem_of_getElem? (i := 17) rfl)) rfl
abbrev mX6_cutLowestOfLateChanges : zM := (yX6_cutLowestOfLateChanges, cX6_cutLowestOfLateChanges, 5, none)
set_option maxRecDepth 20000 in
theorem mfX6_cutLowestOfLateChanges : zMf mX6_cutLowestOfLateChanges 0 := ⟨ztb_in (zc3 (List.mem_of_getElem? (i := 36) rfl)) rfl, ztb_in (zc1 (List.mem_of_getElem? (i := 4) rfl)) rfl, ⟨by decide +kernel, by decide +kernel, by decide +kernel⟩, by decide⟩
theorem mpX6_cutLowestOfLateChanges : plainName mX6_cutLowestOfLateChanges.1.cls = true := by decide +kernel
set_option maxRecDepth 20000 in
theorem miX6_cutLowestOfLateChanges : Cond.instanceMethod mX6_cutLowestOfLateChanges.1 ∈ ztb := ztb_in (zc3 (List.mem_of_getElem? (i := 35) rfl)) rfl
set_option maxRecDepth 20000 in
theorem msX6_cutLowestOfLateChanges : Cond.selects mX6_cutLowestOfLateChanges.1.cls mX6_cutLowestOfLateChanges.1 mX6_cutLowestOfLateChanges.1 ∈ ztb := ztb_in (zsel (List.mem_of_getElem? (i := 18) rfl)) rfl
abbrev mX6_isStartDue : zM := (yX6_isStartDue, cX6_isStartDue, 5, (some FieldType.boolean))
set_option maxRecDepth 20000 in
theorem mfX6_isStartDue : zMf mX6_isStartDue 0 := ⟨ztb_in (zc3 (List.mem_of_getElem? (i := 40) rfl)) rfl, ztb_in (zc1 (List.mem_of_getElem? (i := 4) rfl)) rfl, ⟨by decide +kernel, by decide +kernel, by decide +kernel⟩, by decide⟩
theorem mpX6_isStartDue : plainName mX6_isStartDue.1.cls = true := by decide +kernel
set_option maxRecDepth 20000 in
theorem miX6_isStartDue : Cond.instanceMethod mX6_isStartDue.1 ∈ ztb := ztb_in (zc3 (List.mem_of_getElem? (i := 39) rfl)) rfl
set_option maxRecDepth 20000 in
theorem msX6_isStartDue : Cond.selects mX6_isStartDue.1.cls mX6_isStartDue.1 mX6_isStartDue.1 ∈ ztb := ztb_in (zsel (List.mem_of_getElem? (i := 19) rfl)) rfl
abbrev mX8_value : zM := (yX8_value, cX8_value, 2, (some FieldType.int))
set_option maxRecDepth 20000 in
theorem mfX8_value : zMf mX8_value 1 := ⟨ztb_in (zc3 (List.mem_of_getElem? (i := 48) rfl)) rfl, ztb_in (zc1 (List.mem_of_getElem? (i := 1) rfl)) rfl, ⟨by decide +kernel, by decide +kernel, by decide +kernel⟩, by decide⟩
theorem mpX8_value : plainName mX8_value.1.cls = true := by decide +kernel
set_option maxRecDepth 20000 in
theorem miX8_value : Cond.instanceMethod mX8_value.1 ∈ ztb := ztb_in (zc3 (List.mem_of_getElem? (i := 46) rfl)) rfl
set_option maxRecDepth 20000 in
theorem msX8_value : Cond.selects mX8_value.1.cls mX8_value.1 mX8_value.1 ∈ ztb := ztb_in (zc3 (List.mem_of_getElem? (i := 47) rfl)) rfl
abbrev mX8_checkCell : zM := (yX8_checkCell, cX8_checkCell, 1, none)
set_option maxRecDepth 20000 in
theorem mfX8_checkCell : zMf mX8_checkCell 1 := ⟨ztb_in (zc3 (List.mem_of_getElem? (i := 51) rfl)) rfl, ztb_in (zc1 (List.mem_of_getElem? (i := 1) rfl)) rfl, ⟨by decide +kernel, by decide +kernel, by decide +kernel⟩, by decide⟩
theorem mpX8_checkCell : plainName mX8_checkCell.1.cls = true := by decide +kernel
set_option maxRecDepth 20000 in
theorem mtX8_checkCell : Cond.static mX8_checkCell.1 ∈ ztb := ztb_in (zc3 (List.mem_of_getElem? (i := 50) rfl)) rfl
abbrev mX8_checkPlace : zM := (yX8_checkPlace, cX8_checkPlace, 2, none)
set_option maxRecDepth 20000 in
theorem mfX8_checkPlace : zMf mX8_checkPlace 2 := ⟨ztb_in (zc3 (List.mem_of_getElem? (i := 54) rfl)) rfl, ztb_in (zc1 (List.mem_of_getElem? (i := 1) rfl)) rfl, ⟨by decide +kernel, by decide +kernel, by decide +kernel⟩, by decide⟩
theorem mpX8_checkPlace : plainName mX8_checkPlace.1.cls = true := by decide +kernel
set_option maxRecDepth 20000 in
theorem mtX8_checkPlace : Cond.static mX8_checkPlace.1 ∈ ztb := ztb_in (zc3 (List.mem_of_getElem? (i := 53) rfl)) rfl
abbrev mX8_valueAnew : zM := (yX8_valueAnew, cX8_valueAnew, 2, (some FieldType.int))
set_option maxRecDepth 20000 in
theorem mfX8_valueAnew : zMf mX8_valueAnew 1 := ⟨ztb_in (zc3 (List.mem_of_getElem? (i := 78) rfl)) rfl, ztb_in (zc1 (List.mem_of_getElem? (i := 1) rfl)) rfl, ⟨by decide +kernel, by decide +kernel, by decide +kernel⟩, by decide⟩
theorem mpX8_valueAnew : plainName mX8_valueAnew.1.cls = true := by decide +kernel
set_option maxRecDepth 20000 in
theorem miX8_valueAnew : Cond.instanceMethod mX8_valueAnew.1 ∈ ztb := ztb_in (zc3 (List.mem_of_getElem? (i := 76) rfl)) rfl
set_option maxRecDepth 20000 in
theorem msX8_valueAnew : Cond.selects mX8_valueAnew.1.cls mX8_valueAnew.1 mX8_valueAnew.1 ∈ ztb := ztb_in (zc3 (List.mem_of_getElem? (i := 77) rfl)) rfl
abbrev mX8_trial : zM := (yX8_trial, cX8_trial, 3, (some FieldType.int))
set_option maxRecDepth 20000 in
theorem mfX8_trial : zMf mX8_trial 1 := ⟨ztb_in (zc3 (List.mem_of_getElem? (i := 85) rfl)) rfl, ztb_in (zc1 (List.mem_of_getElem? (i := 1) rfl)) rfl, ⟨by decide +kernel, by decide +kernel, by decide +kernel⟩, by decide⟩
theorem mpX8_trial : plainName mX8_trial.1.cls = true := by decide +kernel
set_option maxRecDepth 20000 in
theorem miX8_trial : Cond.instanceMethod mX8_trial.1 ∈ ztb := ztb_in (zc3 (List.mem_of_getElem? (i := 83) rfl)) rfl
set_option maxRecDepth 20000 in
theorem msX8_trial : Cond.selects mX8_trial.1.cls mX8_trial.1 mX8_trial.1 ∈ ztb := ztb_in (zc3 (List.mem_of_getElem? (i := 84) rfl)) rfl
abbrev mX8_checkService : zM := (yX8_checkService, cX8_checkService, 1, none)
set_option maxRecDepth 20000 in
theorem mfX8_checkService : zMf mX8_checkService 1 := ⟨ztb_in (zc3 (List.mem_of_getElem? (i := 88) rfl)) rfl, ztb_in (zc1 (List.mem_of_getElem? (i := 1) rfl)) rfl, ⟨by decide +kernel, by decide +kernel, by decide +kernel⟩, by decide⟩
theorem mpX8_checkService : plainName mX8_checkService.1.cls = true := by decide +kernel
set_option maxRecDepth 20000 in
theorem mtX8_checkService : Cond.static mX8_checkService.1 ∈ ztb := ztb_in (zc3 (List.mem_of_getElem? (i := 87) rfl)) rfl
abbrev mX6_takeSettings : zM := (yX6_takeSettings, cX6_takeSettings, 6, none)
set_option maxRecDepth 20000 in
theorem mfX6_takeSettings : zMf mX6_takeSettings 2 := ⟨ztb_in (zc3 (List.mem_of_getElem? (i := 93) rfl)) rfl, ztb_in (zc1 (List.mem_of_getElem? (i := 4) rfl)) rfl, ⟨by decide +kernel, by decide +kernel, by decide +kernel⟩, by decide⟩
theorem mpX6_takeSettings : plainName mX6_takeSettings.1.cls = true := by decide +kernel
set_option maxRecDepth 20000 in
theorem miX6_takeSettings : Cond.instanceMethod mX6_takeSettings.1 ∈ ztb := ztb_in (zc3 (List.mem_of_getElem? (i := 91) rfl)) rfl
set_option maxRecDepth 20000 in
theorem msX6_takeSettings : Cond.selects mX6_takeSettings.1.cls mX6_takeSettings.1 mX6_takeSettings.1 ∈ ztb := ztb_in (zc3 (List.mem_of_getElem? (i := 92) rfl)) rfl
abbrev mX4_takeSettings : zM := (yX4_takeSettings, cX4_takeSettings, 2, none)
set_option maxRecDepth 20000 in
theorem mfX4_takeSettings : zMf mX4_takeSettings 1 := ⟨ztb_in (zc3 (List.mem_of_getElem? (i := 98) rfl)) rfl, ztb_in (zc1 (List.mem_of_getElem? (i := 8) rfl)) rfl, ⟨by decide +kernel, by decide +kernel, by decide +kernel⟩, by decide⟩
theorem mpX4_takeSettings : plainName mX4_takeSettings.1.cls = true := by decide +kernel
set_option maxRecDepth 20000 in
theorem miX4_takeSettings : Cond.instanceMethod mX4_takeSettings.1 ∈ ztb := ztb_in (zc3 (List.mem_of_getElem? (i := 96) rfl)) rfl
set_option maxRecDepth 20000 in
theorem msX4_takeSettings : Cond.selects mX4_takeSettings.1.cls mX4_takeSettings.1 mX4_takeSettings.1 ∈ ztb := ztb_in (zc3 (List.mem_of_getElem? (i := 97) rfl)) rfl
abbrev mX8_tellReadingsOfTick : zM := (yX8_tellReadingsOfTick, cX8_tellReadingsOfTick, 4, none)
set_option maxRecDepth 20000 in
theorem mfX8_tellReadingsOfTick : zMf mX8_tellReadingsOfTick 1 := ⟨ztb_in (zc3 (List.mem_of_getElem? (i := 103) rfl)) rfl, ztb_in (zc1 (List.mem_of_getElem? (i := 1) rfl)) rfl, ⟨by decide +kernel, by decide +kernel, by decide +kernel⟩, by decide⟩
theorem mpX8_tellReadingsOfTick : plainName mX8_tellReadingsOfTick.1.cls = true := by decide +kernel
set_option maxRecDepth 20000 in
theorem miX8_tellReadingsOfTick : Cond.instanceMethod mX8_tellReadingsOfTick.1 ∈ ztb := ztb_in (zc3 (List.mem_of_getElem? (i := 102) rfl)) rfl
set_option maxRecDepth 20000 in
theorem msX8_tellReadingsOfTick : Cond.selects mX8_tellReadingsOfTick.1.cls mX8_tellReadingsOfTick.1 mX8_tellReadingsOfTick.1 ∈ ztb := ztb_in (zsel (List.mem_of_getElem? (i := 20) rfl)) rfl
abbrev mL_sign : zM := (yL_sign, cL_sign, 3, (some FieldType.int))
set_option maxRecDepth 20000 in
theorem mfL_sign : zMf mL_sign 1 := ⟨ztb_in (zc3 (List.mem_of_getElem? (i := 106) rfl)) rfl, ztb_in (zc1 (List.mem_of_getElem? (i := 0) rfl)) rfl, ⟨by decide +kernel, by decide +kernel, by decide +kernel⟩, by decide⟩
theorem mpL_sign : plainName mL_sign.1.cls = true := by decide +kernel
set_option maxRecDepth 20000 in
theorem mtL_sign : Cond.static mL_sign.1 ∈ ztb := ztb_in (zc3 (List.mem_of_getElem? (i := 105) rfl)) rfl
abbrev mL_isFault : zM := (yL_isFault, cL_isFault, 5, (some FieldType.boolean))
set_option maxRecDepth 20000 in
theorem mfL_isFault : zMf mL_isFault 3 := ⟨ztb_in (zc3 (List.mem_of_getElem? (i := 109) rfl)) rfl, ztb_in (zc1 (List.mem_of_getElem? (i := 0) rfl)) rfl, ⟨by decide +kernel, by decide +kernel, by decide +kernel⟩, by decide⟩
theorem mpL_isFault : plainName mL_isFault.1.cls = true := by decide +kernel
set_option maxRecDepth 20000 in
theorem mtL_isFault : Cond.static mL_isFault.1 ∈ ztb := ztb_in (zc3 (List.mem_of_getElem? (i := 108) rfl)) rfl
abbrev mL_types : zM := (yL_types, cL_types, 5, (some FieldType.boolean))
set_option maxRecDepth 20000 in
theorem mfL_types : zMf mL_types 3 := ⟨ztb_in (zc3 (List.mem_of_getElem? (i := 112) rfl)) rfl, ztb_in (zc1 (List.mem_of_getElem? (i := 0) rfl)) rfl, ⟨by decide +kernel, by decide +kernel, by decide +kernel⟩, by decide⟩
theorem mpL_types : plainName mL_types.1.cls = true := by decide +kernel
set_option maxRecDepth 20000 in
theorem mtL_types : Cond.static mL_types.1 ∈ ztb := ztb_in (zc3 (List.mem_of_getElem? (i := 111) rfl)) rfl
abbrev mX8_wipe : zM := (yX8_wipe, cX8_wipe, 2, (some FieldType.int))
set_option maxRecDepth 20000 in
theorem mfX8_wipe : zMf mX8_wipe 0 := ⟨ztb_in (zc3 (List.mem_of_getElem? (i := 116) rfl)) rfl, ztb_in (zc1 (List.mem_of_getElem? (i := 1) rfl)) rfl, ⟨by decide +kernel, by decide +kernel, by decide +kernel⟩, by decide⟩
theorem mpX8_wipe : plainName mX8_wipe.1.cls = true := by decide +kernel
set_option maxRecDepth 20000 in
theorem miX8_wipe : Cond.instanceMethod mX8_wipe.1 ∈ ztb := ztb_in (zc3 (List.mem_of_getElem? (i := 114) rfl)) rfl
set_option maxRecDepth 20000 in
theorem msX8_wipe : Cond.selects mX8_wipe.1.cls mX8_wipe.1 mX8_wipe.1 ∈ ztb := ztb_in (zc3 (List.mem_of_getElem? (i := 115) rfl)) rfl
abbrev mX8_type : zM := (yX8_type, cX8_type, 2, (some FieldType.int))
set_option maxRecDepth 20000 in
theorem mfX8_type : zMf mX8_type 1 := ⟨ztb_in (zc3 (List.mem_of_getElem? (i := 124) rfl)) rfl, ztb_in (zc1 (List.mem_of_getElem? (i := 1) rfl)) rfl, ⟨by decide +kernel, by decide +kernel, by decide +kernel⟩, by decide⟩
theorem mpX8_type : plainName mX8_type.1.cls = true := by decide +kernel
set_option maxRecDepth 20000 in
theorem miX8_type : Cond.instanceMethod mX8_type.1 ∈ ztb := ztb_in (zc3 (List.mem_of_getElem? (i := 122) rfl)) rfl
set_option maxRecDepth 20000 in
theorem msX8_type : Cond.selects mX8_type.1.cls mX8_type.1 mX8_type.1 ∈ ztb := ztb_in (zc3 (List.mem_of_getElem? (i := 123) rfl)) rfl
abbrev mX8_isFigure : zM := (yX8_isFigure, cX8_isFigure, 1, (some FieldType.boolean))
set_option maxRecDepth 20000 in
theorem mfX8_isFigure : zMf mX8_isFigure 1 := ⟨ztb_in (zc3 (List.mem_of_getElem? (i := 127) rfl)) rfl, ztb_in (zc1 (List.mem_of_getElem? (i := 1) rfl)) rfl, ⟨by decide +kernel, by decide +kernel, by decide +kernel⟩, by decide⟩
theorem mpX8_isFigure : plainName mX8_isFigure.1.cls = true := by decide +kernel
set_option maxRecDepth 20000 in
theorem mtX8_isFigure : Cond.static mX8_isFigure.1 ∈ ztb := ztb_in (zc3 (List.mem_of_getElem? (i := 126) rfl)) rfl
abbrev mX7_isFull : zM := (yX7_isFull, cX7_isFull, 1, (some FieldType.boolean))
set_option maxRecDepth 20000 in
theorem mfX7_isFull : zMf mX7_isFull 0 := ⟨ztb_in (zc3 (List.mem_of_getElem? (i := 230) rfl)) rfl, ztb_in (zc1 (List.mem_of_getElem? (i := 2) rfl)) rfl, ⟨by decide +kernel, by decide +kernel, by decide +kernel⟩, by decide⟩
theorem mpX7_isFull : plainName mX7_isFull.1.cls = true := by decide +kernel
set_option maxRecDepth 20000 in
theorem miX7_isFull : Cond.instanceMethod mX7_isFull.1 ∈ ztb := ztb_in (zc3 (List.mem_of_getElem? (i := 228) rfl)) rfl
set_option maxRecDepth 20000 in
theorem msX7_isFull : Cond.selects mX7_isFull.1.cls mX7_isFull.1 mX7_isFull.1 ∈ ztb := ztb_in (zc3 (List.mem_of_getElem? (i := 229) rfl)) rfl
abbrev mX7_add : zM := (yX7_add, cX7_add, 2, none)
set_option maxRecDepth 20000 in
theorem mfX7_add : zMf mX7_add 1 := ⟨ztb_in (zc3 (List.mem_of_getElem? (i := 235) rfl)) rfl, ztb_in (zc1 (List.mem_of_getElem? (i := 2) rfl)) rfl, ⟨by decide +kernel, by decide +kernel, by decide +kernel⟩, by decide⟩
theorem mpX7_add : plainName mX7_add.1.cls = true := by decide +kernel
set_option maxRecDepth 20000 in
theorem miX7_add : Cond.instanceMethod mX7_add.1 ∈ ztb := ztb_in (zc3 (List.mem_of_getElem? (i := 233) rfl)) rfl
set_option maxRecDepth 20000 in
theorem msX7_add : Cond.selects mX7_add.1.cls mX7_add.1 mX7_add.1 ∈ ztb := ztb_in (zc3 (List.mem_of_getElem? (i := 234) rfl)) rfl
abbrev mX8_fault : zM := (yX8_fault, cX8_fault, 1, (some FieldType.int))
set_option maxRecDepth 20000 in
theorem mfX8_fault : zMf mX8_fault 0 := ⟨ztb_in (zc3 (List.mem_of_getElem? (i := 239) rfl)) rfl, ztb_in (zc1 (List.mem_of_getElem? (i := 1) rfl)) rfl, ⟨by decide +kernel, by decide +kernel, by decide +kernel⟩, by decide⟩
theorem mpX8_fault : plainName mX8_fault.1.cls = true := by decide +kernel
set_option maxRecDepth 20000 in
theorem miX8_fault : Cond.instanceMethod mX8_fault.1 ∈ ztb := ztb_in (zc3 (List.mem_of_getElem? (i := 237) rfl)) rfl
set_option maxRecDepth 20000 in
theorem msX8_fault : Cond.selects mX8_fault.1.cls mX8_fault.1 mX8_fault.1 ∈ ztb := ztb_in (zc3 (List.mem_of_getElem? (i := 238) rfl)) rfl
abbrev mX2_findFault : zM := (yX2_findFault, cX2_findFault, 1, (some FieldType.int))
set_option maxRecDepth 20000 in
theorem mfX2_findFault : zMf mX2_findFault 0 := ⟨ztb_in (zc4 (List.mem_of_getElem? (i := 3) rfl)) rfl, ztb_in (zc1 (List.mem_of_getElem? (i := 3) rfl)) rfl, ⟨by decide +kernel, by decide +kernel, by decide +kernel⟩, by decide⟩
theorem mpX2_findFault : plainName mX2_findFault.1.cls = true := by decide +kernel
set_option maxRecDepth 20000 in
theorem miX2_findFault : Cond.instanceMethod mX2_findFault.1 ∈ ztb := ztb_in (zc4 (List.mem_of_getElem? (i := 1) rfl)) rfl
set_option maxRecDepth 20000 in
theorem msX2_findFault : Cond.selects mX2_findFault.1.cls mX2_findFault.1 mX2_findFault.1 ∈ ztb := ztb_in (zc4 (List.mem_of_getElem? (i := 2) rfl)) rfl
abbrev mX2_passFormula : zM := (yX2_passFormula, cX2_passFormula, 3, none)
set_option maxRecDepth 20000 in
theorem mfX2_passFormula : zMf mX2_passFormula 1 := ⟨ztb_in (zc4 (List.mem_of_getElem? (i := 7) rfl)) rfl, ztb_in (zc1 (List.mem_of_getElem? (i := 3) rfl)) rfl, ⟨by decide +kernel, by decide +kernel, by decide +kernel⟩, by decide⟩
theorem mpX2_passFormula : plainName mX2_passFormula.1.cls = true := by decide +kernel
set_option maxRecDepth 20000 in
theorem miX2_passFormula : Cond.instanceMethod mX2_passFormula.1 ∈ ztb := ztb_in (zc4 (List.mem_of_getElem? (i := 6) rfl)) rfl
set_option maxRecDepth 20000 in
theorem msX2_passFormula : Cond.selects mX2_passFormula.1.cls mX2_passFormula.1 mX2_passFormula.1 ∈ ztb := ztb_in (zsel (List.mem_of_getElem? (i := 21) rfl)) rfl
abbrev mX2_passSum : zM := (yX2_passSum, cX2_passSum, 4, none)
set_option maxRecDepth 20000 in
theorem mfX2_passSum : zMf mX2_passSum 1 := ⟨ztb_in (zc4 (List.mem_of_getElem? (i := 11) rfl)) rfl, ztb_in (zc1 (List.mem_of_getElem? (i := 3) rfl)) rfl, ⟨by decide +kernel, by decide +kernel, by decide +kernel⟩, by decide⟩
theorem mpX2_passSum : plainName mX2_passSum.1.cls = true := by decide +kernel
set_option maxRecDepth 20000 in
theorem miX2_passSum : Cond.instanceMethod mX2_passSum.1 ∈ ztb := ztb_in (zc4 (List.mem_of_getElem? (i := 10) rfl)) rfl
set_option maxRecDepth 20000 in
theorem msX2_passSum : Cond.selects mX2_passSum.1.cls mX2_passSum.1 mX2_passSum.1 ∈ ztb := ztb_in (zsel (List.mem_of_getElem? (i := 22) rfl)) rfl
abbrev mX2_passProduct : zM := (yX2_passProduct, cX2_passProduct, 3, none)
set_option maxRecDepth 20000 in
theorem mfX2_passProduct : zMf mX2_passProduct 1 := ⟨ztb_in (zc4 (List.mem_of_getElem? (i := 15) rfl)) rfl, ztb_in (zc1 (List.mem_of_getElem? (i := 3) rfl)) rfl, ⟨by decide +kernel, by decide +kernel, by decide +kernel⟩, by decide⟩
theorem mpX2_passProduct : plainName mX2_passProduct.1.cls = true := by decide +kernel
set_option maxRecDepth 20000 in
theorem miX2_passProduct : Cond.instanceMethod mX2_passProduct.1 ∈ ztb := ztb_in (zc4 (List.mem_of_getElem? (i := 14) rfl)) rfl
set_option maxRecDepth 20000 in
theorem msX2_passProduct : Cond.selects mX2_passProduct.1.cls mX2_passProduct.1 mX2_passProduct.1 ∈ ztb := ztb_in (zsel (List.mem_of_getElem? (i := 23) rfl)) rfl
abbrev mX2_passPart : zM := (yX2_passPart, cX2_passPart, 3, none)
set_option maxRecDepth 20000 in
theorem mfX2_passPart : zMf mX2_passPart 1 := ⟨ztb_in (zc4 (List.mem_of_getElem? (i := 19) rfl)) rfl, ztb_in (zc1 (List.mem_of_getElem? (i := 3) rfl)) rfl, ⟨by decide +kernel, by decide +kernel, by decide +kernel⟩, by decide⟩
theorem mpX2_passPart : plainName mX2_passPart.1.cls = true := by decide +kernel
set_option maxRecDepth 20000 in
theorem miX2_passPart : Cond.instanceMethod mX2_passPart.1 ∈ ztb := ztb_in (zc4 (List.mem_of_getElem? (i := 18) rfl)) rfl
set_option maxRecDepth 20000 in
theorem msX2_passPart : Cond.selects mX2_passPart.1.cls mX2_passPart.1 mX2_passPart.1 ∈ ztb := ztb_in (zsel (List.mem_of_getElem? (i := 24) rfl)) rfl
abbrev mX7_letterAt : zM := (yX7_letterAt, cX7_letterAt, 3, (some FieldType.char))
set_option maxRecDepth 20000 in
theorem mfX7_letterAt : zMf mX7_letterAt 1 := ⟨ztb_in (zc4 (List.mem_of_getElem? (i := 23) rfl)) rfl, ztb_in (zc1 (List.mem_of_getElem? (i := 2) rfl)) rfl, ⟨by decide +kernel, by decide +kernel, by decide +kernel⟩, by decide⟩
theorem mpX7_letterAt : plainName mX7_letterAt.1.cls = true := by decide +kernel
set_option maxRecDepth 20000 in
theorem miX7_letterAt : Cond.instanceMethod mX7_letterAt.1 ∈ ztb := ztb_in (zc4 (List.mem_of_getElem? (i := 21) rfl)) rfl
set_option maxRecDepth 20000 in
theorem msX7_letterAt : Cond.selects mX7_letterAt.1.cls mX7_letterAt.1 mX7_letterAt.1 ∈ ztb := ztb_in (zc4 (List.mem_of_getElem? (i := 22) rfl)) rfl
abbrev mX2_passNumber : zM := (yX2_passNumber, cX2_passNumber, 3, none)
set_option maxRecDepth 20000 in
theorem mfX2_passNumber : zMf mX2_passNumber 0 := ⟨ztb_in (zc4 (List.mem_of_getElem? (i := 28) rfl)) rfl, ztb_in (zc1 (List.mem_of_getElem? (i := 3) rfl)) rfl, ⟨by decide +kernel, by decide +kernel, by decide +kernel⟩, by decide⟩
theorem mpX2_passNumber : plainName mX2_passNumber.1.cls = true := by decide +kernel
set_option maxRecDepth 20000 in
theorem miX2_passNumber : Cond.instanceMethod mX2_passNumber.1 ∈ ztb := ztb_in (zc4 (List.mem_of_getElem? (i := 27) rfl)) rfl
set_option maxRecDepth 20000 in
theorem msX2_passNumber : Cond.selects mX2_passNumber.1.cls mX2_passNumber.1 mX2_passNumber.1 ∈ ztb := ztb_in (zsel (List.mem_of_getElem? (i := 25) rfl)) rfl
abbrev mX2_write : zM := (yX2_write, cX2_write, 3, none)
set_option maxRecDepth 20000 in
theorem mfX2_write : zMf mX2_write 2 := ⟨ztb_in (zc4 (List.mem_of_getElem? (i := 32) rfl)) rfl, ztb_in (zc1 (List.mem_of_getElem? (i := 3) rfl)) rfl, ⟨by decide +kernel, by decide +kernel, by decide +kernel⟩, by decide⟩
theorem mpX2_write : plainName mX2_write.1.cls = true := by decide +kernel
set_option maxRecDepth 20000 in
theorem miX2_write : Cond.instanceMethod mX2_write.1 ∈ ztb := ztb_in (zc4 (List.mem_of_getElem? (i := 31) rfl)) rfl
set_option maxRecDepth 20000 in
theorem msX2_write : Cond.selects mX2_write.1.cls mX2_write.1 mX2_write.1 ∈ ztb := ztb_in (zsel (List.mem_of_getElem? (i := 26) rfl)) rfl
abbrev mX2_passBrackets : zM := (yX2_passBrackets, cX2_passBrackets, 4, none)
set_option maxRecDepth 20000 in
theorem mfX2_passBrackets : zMf mX2_passBrackets 2 := ⟨ztb_in (zc4 (List.mem_of_getElem? (i := 36) rfl)) rfl, ztb_in (zc1 (List.mem_of_getElem? (i := 3) rfl)) rfl, ⟨by decide +kernel, by decide +kernel, by decide +kernel⟩, by decide⟩
theorem mpX2_passBrackets : plainName mX2_passBrackets.1.cls = true := by decide +kernel
set_option maxRecDepth 20000 in
theorem miX2_passBrackets : Cond.instanceMethod mX2_passBrackets.1 ∈ ztb := ztb_in (zc4 (List.mem_of_getElem? (i := 35) rfl)) rfl
set_option maxRecDepth 20000 in
theorem msX2_passBrackets : Cond.selects mX2_passBrackets.1.cls mX2_passBrackets.1 mX2_passBrackets.1 ∈ ztb := ztb_in (zsel (List.mem_of_getElem? (i := 27) rfl)) rfl
abbrev mX2_passSign : zM := (yX2_passSign, cX2_passSign, 2, none)
set_option maxRecDepth 20000 in
theorem mfX2_passSign : zMf mX2_passSign 1 := ⟨ztb_in (zc4 (List.mem_of_getElem? (i := 40) rfl)) rfl, ztb_in (zc1 (List.mem_of_getElem? (i := 3) rfl)) rfl, ⟨by decide +kernel, by decide +kernel, by decide +kernel⟩, by decide⟩
theorem mpX2_passSign : plainName mX2_passSign.1.cls = true := by decide +kernel
set_option maxRecDepth 20000 in
theorem miX2_passSign : Cond.instanceMethod mX2_passSign.1 ∈ ztb := ztb_in (zc4 (List.mem_of_getElem? (i := 39) rfl)) rfl
set_option maxRecDepth 20000 in
theorem msX2_passSign : Cond.selects mX2_passSign.1.cls mX2_passSign.1 mX2_passSign.1 ∈ ztb := ztb_in (zsel (List.mem_of_getElem? (i := 28) rfl)) rfl
abbrev mX2_passName : zM := (yX2_passName, cX2_passName, 6, none)
set_option maxRecDepth 20000 in
theorem mfX2_passName : zMf mX2_passName 3 := ⟨ztb_in (zc4 (List.mem_of_getElem? (i := 44) rfl)) rfl, ztb_in (zc1 (List.mem_of_getElem? (i := 3) rfl)) rfl, ⟨by decide +kernel, by decide +kernel, by decide +kernel⟩, by decide⟩
theorem mpX2_passName : plainName mX2_passName.1.cls = true := by decide +kernel
set_option maxRecDepth 20000 in
theorem miX2_passName : Cond.instanceMethod mX2_passName.1 ∈ ztb := ztb_in (zc4 (List.mem_of_getElem? (i := 43) rfl)) rfl
set_option maxRecDepth 20000 in
theorem msX2_passName : Cond.selects mX2_passName.1.cls mX2_passName.1 mX2_passName.1 ∈ ztb := ztb_in (zsel (List.mem_of_getElem? (i := 29) rfl)) rfl
abbrev mX2_figureAt : zM := (yX2_figureAt, cX2_figureAt, 3, (some FieldType.int))
set_option maxRecDepth 20000 in
theorem mfX2_figureAt : zMf mX2_figureAt 1 := ⟨ztb_in (zc4 (List.mem_of_getElem? (i := 48) rfl)) rfl, ztb_in (zc1 (List.mem_of_getElem? (i := 3) rfl)) rfl, ⟨by decide +kernel, by decide +kernel, by decide +kernel⟩, by decide⟩
theorem mpX2_figureAt : plainName mX2_figureAt.1.cls = true := by decide +kernel
set_option maxRecDepth 20000 in
theorem miX2_figureAt : Cond.instanceMethod mX2_figureAt.1 ∈ ztb := ztb_in (zc4 (List.mem_of_getElem? (i := 47) rfl)) rfl
set_option maxRecDepth 20000 in
theorem msX2_figureAt : Cond.selects mX2_figureAt.1.cls mX2_figureAt.1 mX2_figureAt.1 ∈ ztb := ztb_in (zsel (List.mem_of_getElem? (i := 30) rfl)) rfl
abbrev mX2_comparisonOf : zM := (yX2_comparisonOf, cX2_comparisonOf, 1, (some FieldType.int))
set_option maxRecDepth 20000 in
theorem mfX2_comparisonOf : zMf mX2_comparisonOf 1 := ⟨ztb_in (zc4 (List.mem_of_getElem? (i := 52) rfl)) rfl, ztb_in (zc1 (List.mem_of_getElem? (i := 3) rfl)) rfl, ⟨by decide +kernel, by decide +kernel, by decide +kernel⟩, by decide⟩
theorem mpX2_comparisonOf : plainName mX2_comparisonOf.1.cls = true := by decide +kernel
set_option maxRecDepth 20000 in
theorem mtX2_comparisonOf : Cond.static mX2_comparisonOf.1 ∈ ztb := ztb_in (zc4 (List.mem_of_getElem? (i := 51) rfl)) rfl
abbrev mX8_formula : zM := (yX8_formula, cX8_formula, 3, (some FieldType.int))
set_option maxRecDepth 20000 in
theorem mfX8_formula : zMf mX8_formula 1 := ⟨ztb_in (zc4 (List.mem_of_getElem? (i := 59) rfl)) rfl, ztb_in (zc1 (List.mem_of_getElem? (i := 1) rfl)) rfl, ⟨by decide +kernel, by decide +kernel, by decide +kernel⟩, by decide⟩
theorem mpX8_formula : plainName mX8_formula.1.cls = true := by decide +kernel
set_option maxRecDepth 20000 in
theorem miX8_formula : Cond.instanceMethod mX8_formula.1 ∈ ztb := ztb_in (zc4 (List.mem_of_getElem? (i := 57) rfl)) rfl
set_option maxRecDepth 20000 in
theorem msX8_formula : Cond.selects mX8_formula.1.cls mX8_formula.1 mX8_formula.1 ∈ ztb := ztb_in (zc4 (List.mem_of_getElem? (i := 58) rfl)) rfl
abbrev mX2_makeFormula : zM := (yX2_makeFormula, cX2_makeFormula, 1, (some (FieldType.object "Daemonsheet$Formula")))
set_option maxRecDepth 20000 in
theorem mfX2_makeFormula : zMf mX2_makeFormula 0 := ⟨ztb_in (zc4 (List.mem_of_getElem? (i := 64) rfl)) rfl, ztb_in (zc1 (List.mem_of_getElem? (i := 3) rfl)) rfl, ⟨by decide +kernel, by decide +kernel, by decide +kernel⟩, by decide⟩
theorem mpX2_makeFormula : plainName mX2_makeFormula.1.cls = true := by decide +kernel
set_option maxRecDepth 20000 in
theorem miX2_makeFormula : Cond.instanceMethod mX2_makeFormula.1 ∈ ztb := ztb_in (zc4 (List.mem_of_getElem? (i := 62) rfl)) rfl
set_option maxRecDepth 20000 in
theorem msX2_makeFormula : Cond.selects mX2_makeFormula.1.cls mX2_makeFormula.1 mX2_makeFormula.1 ∈ ztb := ztb_in (zc4 (List.mem_of_getElem? (i := 63) rfl)) rfl
abbrev mX6_withAllRead : zM := (yX6_withAllRead, cX6_withAllRead, 4, (some FieldType.int))
set_option maxRecDepth 20000 in
theorem mfX6_withAllRead : zMf mX6_withAllRead 1 := ⟨ztb_in (zc4 (List.mem_of_getElem? (i := 85) rfl)) rfl, ztb_in (zc1 (List.mem_of_getElem? (i := 4) rfl)) rfl, ⟨by decide +kernel, by decide +kernel, by decide +kernel⟩, by decide⟩
theorem mpX6_withAllRead : plainName mX6_withAllRead.1.cls = true := by decide +kernel
set_option maxRecDepth 20000 in
theorem miX6_withAllRead : Cond.instanceMethod mX6_withAllRead.1 ∈ ztb := ztb_in (zc4 (List.mem_of_getElem? (i := 83) rfl)) rfl
set_option maxRecDepth 20000 in
theorem msX6_withAllRead : Cond.selects mX6_withAllRead.1.cls mX6_withAllRead.1 mX6_withAllRead.1 ∈ ztb := ztb_in (zc4 (List.mem_of_getElem? (i := 84) rfl)) rfl
abbrev mX8_keep : zM := (yX8_keep, cX8_keep, 7, (some FieldType.int))
set_option maxRecDepth 20000 in
theorem mfX8_keep : zMf mX8_keep 5 := ⟨ztb_in (zc4 (List.mem_of_getElem? (i := 91) rfl)) rfl, ztb_in (zc1 (List.mem_of_getElem? (i := 1) rfl)) rfl, ⟨by decide +kernel, by decide +kernel, by decide +kernel⟩, by decide⟩
theorem mpX8_keep : plainName mX8_keep.1.cls = true := by decide +kernel
set_option maxRecDepth 20000 in
theorem miX8_keep : Cond.instanceMethod mX8_keep.1 ∈ ztb := ztb_in (zc4 (List.mem_of_getElem? (i := 90) rfl)) rfl
set_option maxRecDepth 20000 in
theorem msX8_keep : Cond.selects mX8_keep.1.cls mX8_keep.1 mX8_keep.1 ∈ ztb := ztb_in (zsel (List.mem_of_getElem? (i := 31) rfl)) rfl
abbrev mL_fits : zM := (yL_fits, cL_fits, 5, (some FieldType.boolean))
set_option maxRecDepth 20000 in
theorem mfL_fits : zMf mL_fits 2 := ⟨ztb_in (zc4 (List.mem_of_getElem? (i := 95) rfl)) rfl, ztb_in (zc1 (List.mem_of_getElem? (i := 0) rfl)) rfl, ⟨by decide +kernel, by decide +kernel, by decide +kernel⟩, by decide⟩
theorem mpL_fits : plainName mL_fits.1.cls = true := by decide +kernel
set_option maxRecDepth 20000 in
theorem mtL_fits : Cond.static mL_fits.1 ∈ ztb := ztb_in (zc4 (List.mem_of_getElem? (i := 94) rfl)) rfl
abbrev mX8_worth : zM := (yX8_worth, cX8_worth, 2, (some FieldType.int))
set_option maxRecDepth 20000 in
theorem mfX8_worth : zMf mX8_worth 1 := ⟨ztb_in (zc4 (List.mem_of_getElem? (i := 102) rfl)) rfl, ztb_in (zc1 (List.mem_of_getElem? (i := 1) rfl)) rfl, ⟨by decide +kernel, by decide +kernel, by decide +kernel⟩, by decide⟩
theorem mpX8_worth : plainName mX8_worth.1.cls = true := by decide +kernel
set_option maxRecDepth 20000 in
theorem miX8_worth : Cond.instanceMethod mX8_worth.1 ∈ ztb := ztb_in (zc4 (List.mem_of_getElem? (i := 100) rfl)) rfl
set_option maxRecDepth 20000 in
theorem msX8_worth : Cond.selects mX8_worth.1.cls mX8_worth.1 mX8_worth.1 ∈ ztb := ztb_in (zc4 (List.mem_of_getElem? (i := 101) rfl)) rfl
abbrev mX8_isStale : zM := (yX8_isStale, cX8_isStale, 2, (some FieldType.boolean))
set_option maxRecDepth 20000 in
theorem mfX8_isStale : zMf mX8_isStale 1 := ⟨ztb_in (zc4 (List.mem_of_getElem? (i := 110) rfl)) rfl, ztb_in (zc1 (List.mem_of_getElem? (i := 1) rfl)) rfl, ⟨by decide +kernel, by decide +kernel, by decide +kernel⟩, by decide⟩
theorem mpX8_isStale : plainName mX8_isStale.1.cls = true := by decide +kernel
set_option maxRecDepth 20000 in
theorem miX8_isStale : Cond.instanceMethod mX8_isStale.1 ∈ ztb := ztb_in (zc4 (List.mem_of_getElem? (i := 108) rfl)) rfl
set_option maxRecDepth 20000 in
theorem msX8_isStale : Cond.selects mX8_isStale.1.cls mX8_isStale.1 mX8_isStale.1 ∈ ztb := ztb_in (zc4 (List.mem_of_getElem? (i := 109) rfl)) rfl
abbrev mX8_depth : zM := (yX8_depth, cX8_depth, 2, (some FieldType.int))
set_option maxRecDepth 20000 in
theorem mfX8_depth : zMf mX8_depth 1 := ⟨ztb_in (zc4 (List.mem_of_getElem? (i := 118) rfl)) rfl, ztb_in (zc1 (List.mem_of_getElem? (i := 1) rfl)) rfl, ⟨by decide +kernel, by decide +kernel, by decide +kernel⟩, by decide⟩
theorem mpX8_depth : plainName mX8_depth.1.cls = true := by decide +kernel
set_option maxRecDepth 20000 in
theorem miX8_depth : Cond.instanceMethod mX8_depth.1 ∈ ztb := ztb_in (zc4 (List.mem_of_getElem? (i := 116) rfl)) rfl
set_option maxRecDepth 20000 in
theorem msX8_depth : Cond.selects mX8_depth.1.cls mX8_depth.1 mX8_depth.1 ∈ ztb := ztb_in (zc4 (List.mem_of_getElem? (i := 117) rfl)) rfl
abbrev mX8_state : zM := (yX8_state, cX8_state, 2, (some FieldType.int))
set_option maxRecDepth 20000 in
theorem mfX8_state : zMf mX8_state 1 := ⟨ztb_in (zc4 (List.mem_of_getElem? (i := 127) rfl)) rfl, ztb_in (zc1 (List.mem_of_getElem? (i := 1) rfl)) rfl, ⟨by decide +kernel, by decide +kernel, by decide +kernel⟩, by decide⟩
theorem mpX8_state : plainName mX8_state.1.cls = true := by decide +kernel
set_option maxRecDepth 20000 in
theorem miX8_state : Cond.instanceMethod mX8_state.1 ∈ ztb := ztb_in (zc4 (List.mem_of_getElem? (i := 125) rfl)) rfl
set_option maxRecDepth 20000 in
theorem msX8_state : Cond.selects mX8_state.1.cls mX8_state.1 mX8_state.1 ∈ ztb := ztb_in (zc4 (List.mem_of_getElem? (i := 126) rfl)) rfl
abbrev mX8_load : zM := (yX8_load, cX8_load, 2, (some FieldType.int))
set_option maxRecDepth 20000 in
theorem mfX8_load : zMf mX8_load 1 := ⟨ztb_in (zc4 (List.mem_of_getElem? (i := 134) rfl)) rfl, ztb_in (zc1 (List.mem_of_getElem? (i := 1) rfl)) rfl, ⟨by decide +kernel, by decide +kernel, by decide +kernel⟩, by decide⟩
theorem mpX8_load : plainName mX8_load.1.cls = true := by decide +kernel
set_option maxRecDepth 20000 in
theorem miX8_load : Cond.instanceMethod mX8_load.1 ∈ ztb := ztb_in (zc4 (List.mem_of_getElem? (i := 132) rfl)) rfl
set_option maxRecDepth 20000 in
theorem msX8_load : Cond.selects mX8_load.1.cls mX8_load.1 mX8_load.1 ∈ ztb := ztb_in (zc4 (List.mem_of_getElem? (i := 133) rfl)) rfl
abbrev mX8_told : zM := (yX8_told, cX8_told, 2, (some FieldType.int))
set_option maxRecDepth 20000 in
theorem mfX8_told : zMf mX8_told 1 := ⟨ztb_in (zc4 (List.mem_of_getElem? (i := 141) rfl)) rfl, ztb_in (zc1 (List.mem_of_getElem? (i := 1) rfl)) rfl, ⟨by decide +kernel, by decide +kernel, by decide +kernel⟩, by decide⟩
theorem mpX8_told : plainName mX8_told.1.cls = true := by decide +kernel
set_option maxRecDepth 20000 in
theorem miX8_told : Cond.instanceMethod mX8_told.1 ∈ ztb := ztb_in (zc4 (List.mem_of_getElem? (i := 139) rfl)) rfl
set_option maxRecDepth 20000 in
theorem msX8_told : Cond.selects mX8_told.1.cls mX8_told.1 mX8_told.1 ∈ ztb := ztb_in (zc4 (List.mem_of_getElem? (i := 140) rfl)) rfl
abbrev mX8_starts : zM := (yX8_starts, cX8_starts, 2, (some FieldType.int))
set_option maxRecDepth 20000 in
theorem mfX8_starts : zMf mX8_starts 1 := ⟨ztb_in (zc4 (List.mem_of_getElem? (i := 148) rfl)) rfl, ztb_in (zc1 (List.mem_of_getElem? (i := 1) rfl)) rfl, ⟨by decide +kernel, by decide +kernel, by decide +kernel⟩, by decide⟩
theorem mpX8_starts : plainName mX8_starts.1.cls = true := by decide +kernel
set_option maxRecDepth 20000 in
theorem miX8_starts : Cond.instanceMethod mX8_starts.1 ∈ ztb := ztb_in (zc4 (List.mem_of_getElem? (i := 146) rfl)) rfl
set_option maxRecDepth 20000 in
theorem msX8_starts : Cond.selects mX8_starts.1.cls mX8_starts.1 mX8_starts.1 ∈ ztb := ztb_in (zc4 (List.mem_of_getElem? (i := 147) rfl)) rfl
abbrev mL_sees : zM := (yL_sees, cL_sees, 3, none)
set_option maxRecDepth 20000 in
theorem mfL_sees : zMf mL_sees 2 := ⟨ztb_in (zc4 (List.mem_of_getElem? (i := 151) rfl)) rfl, ztb_in (zc1 (List.mem_of_getElem? (i := 0) rfl)) rfl, ⟨by decide +kernel, by decide +kernel, by decide +kernel⟩, by decide⟩
theorem mpL_sees : plainName mL_sees.1.cls = true := by decide +kernel
set_option maxRecDepth 20000 in
theorem mtL_sees : Cond.static mL_sees.1 ∈ ztb := ztb_in (zc4 (List.mem_of_getElem? (i := 150) rfl)) rfl
abbrev mX8_isLoop : zM := (yX8_isLoop, cX8_isLoop, 2, (some FieldType.boolean))
set_option maxRecDepth 20000 in
theorem mfX8_isLoop : zMf mX8_isLoop 1 := ⟨ztb_in (zc4 (List.mem_of_getElem? (i := 158) rfl)) rfl, ztb_in (zc1 (List.mem_of_getElem? (i := 1) rfl)) rfl, ⟨by decide +kernel, by decide +kernel, by decide +kernel⟩, by decide⟩
theorem mpX8_isLoop : plainName mX8_isLoop.1.cls = true := by decide +kernel
set_option maxRecDepth 20000 in
theorem miX8_isLoop : Cond.instanceMethod mX8_isLoop.1 ∈ ztb := ztb_in (zc4 (List.mem_of_getElem? (i := 156) rfl)) rfl
set_option maxRecDepth 20000 in
theorem msX8_isLoop : Cond.selects mX8_isLoop.1.cls mX8_isLoop.1 mX8_isLoop.1 ∈ ztb := ztb_in (zc4 (List.mem_of_getElem? (i := 157) rfl)) rfl
abbrev mX6_hangsOnItself : zM := (yX6_hangsOnItself, cX6_hangsOnItself, 9, (some FieldType.boolean))
set_option maxRecDepth 20000 in
theorem mfX6_hangsOnItself : zMf mX6_hangsOnItself 1 := ⟨ztb_in (zc4 (List.mem_of_getElem? (i := 162) rfl)) rfl, ztb_in (zc1 (List.mem_of_getElem? (i := 4) rfl)) rfl, ⟨by decide +kernel, by decide +kernel, by decide +kernel⟩, by decide⟩
theorem mpX6_hangsOnItself : plainName mX6_hangsOnItself.1.cls = true := by decide +kernel
set_option maxRecDepth 20000 in
theorem miX6_hangsOnItself : Cond.instanceMethod mX6_hangsOnItself.1 ∈ ztb := ztb_in (zc4 (List.mem_of_getElem? (i := 160) rfl)) rfl
set_option maxRecDepth 20000 in
theorem msX6_hangsOnItself : Cond.selects mX6_hangsOnItself.1.cls mX6_hangsOnItself.1 mX6_hangsOnItself.1 ∈ ztb := ztb_in (zc4 (List.mem_of_getElem? (i := 161) rfl)) rfl
abbrev mX6_servicesUnder : zM := (yX6_servicesUnder, cX6_servicesUnder, 3, (some FieldType.int))
set_option maxRecDepth 20000 in
theorem mfX6_servicesUnder : zMf mX6_servicesUnder 1 := ⟨ztb_in (zc4 (List.mem_of_getElem? (i := 166) rfl)) rfl, ztb_in (zc1 (List.mem_of_getElem? (i := 4) rfl)) rfl, ⟨by decide +kernel, by decide +kernel, by decide +kernel⟩, by decide⟩
theorem mpX6_servicesUnder : plainName mX6_servicesUnder.1.cls = true := by decide +kernel
set_option maxRecDepth 20000 in
theorem miX6_servicesUnder : Cond.instanceMethod mX6_servicesUnder.1 ∈ ztb := ztb_in (zc4 (List.mem_of_getElem? (i := 165) rfl)) rfl
set_option maxRecDepth 20000 in
theorem msX6_servicesUnder : Cond.selects mX6_servicesUnder.1.cls mX6_servicesUnder.1 mX6_servicesUnder.1 ∈ ztb := ztb_in (zsel (List.mem_of_getElem? (i := 32) rfl)) rfl
abbrev mX8_now : zM := (yX8_now, cX8_now, 1, (some FieldType.int))
set_option maxRecDepth 20000 in
theorem mfX8_now : zMf mX8_now 0 := ⟨ztb_in (zc4 (List.mem_of_getElem? (i := 171) rfl)) rfl, ztb_in (zc1 (List.mem_of_getElem? (i := 1) rfl)) rfl, ⟨by decide +kernel, by decide +kernel, by decide +kernel⟩, by decide⟩
theorem mpX8_now : plainName mX8_now.1.cls = true := by decide +kernel
set_option maxRecDepth 20000 in
theorem miX8_now : Cond.instanceMethod mX8_now.1 ∈ ztb := ztb_in (zc4 (List.mem_of_getElem? (i := 169) rfl)) rfl
set_option maxRecDepth 20000 in
theorem msX8_now : Cond.selects mX8_now.1.cls mX8_now.1 mX8_now.1 ∈ ztb := ztb_in (zc4 (List.mem_of_getElem? (i := 170) rfl)) rfl
abbrev mX8_work : zM := (yX8_work, cX8_work, 1, (some FieldType.int))
set_option maxRecDepth 20000 in
theorem mfX8_work : zMf mX8_work 0 := ⟨ztb_in (zc4 (List.mem_of_getElem? (i := 175) rfl)) rfl, ztb_in (zc1 (List.mem_of_getElem? (i := 1) rfl)) rfl, ⟨by decide +kernel, by decide +kernel, by decide +kernel⟩, by decide⟩
theorem mpX8_work : plainName mX8_work.1.cls = true := by decide +kernel
set_option maxRecDepth 20000 in
theorem miX8_work : Cond.instanceMethod mX8_work.1 ∈ ztb := ztb_in (zc4 (List.mem_of_getElem? (i := 173) rfl)) rfl
set_option maxRecDepth 20000 in
theorem msX8_work : Cond.selects mX8_work.1.cls mX8_work.1 mX8_work.1 ∈ ztb := ztb_in (zc4 (List.mem_of_getElem? (i := 174) rfl)) rfl
abbrev mL_areAlike : zM := (yL_areAlike, cL_areAlike, 4, (some FieldType.boolean))
set_option maxRecDepth 20000 in
theorem mfL_areAlike : zMf mL_areAlike 2 := ⟨ztb_in (zc4 (List.mem_of_getElem? (i := 178) rfl)) rfl, ztb_in (zc1 (List.mem_of_getElem? (i := 0) rfl)) rfl, ⟨by decide +kernel, by decide +kernel, by decide +kernel⟩, by decide⟩
theorem mpL_areAlike : plainName mL_areAlike.1.cls = true := by decide +kernel
set_option maxRecDepth 20000 in
theorem mtL_areAlike : Cond.static mL_areAlike.1 ∈ ztb := ztb_in (zc4 (List.mem_of_getElem? (i := 177) rfl)) rfl
abbrev mL_does : zM := (yL_does, cL_does, 6, (some FieldType.int))
set_option maxRecDepth 20000 in
theorem mfL_does : zMf mL_does 2 := ⟨ztb_in (zc4 (List.mem_of_getElem? (i := 181) rfl)) rfl, ztb_in (zc1 (List.mem_of_getElem? (i := 0) rfl)) rfl, ⟨by decide +kernel, by decide +kernel, by decide +kernel⟩, by decide⟩
theorem mpL_does : plainName mL_does.1.cls = true := by decide +kernel
set_option maxRecDepth 20000 in
theorem mtL_does : Cond.static mL_does.1 ∈ ztb := ztb_in (zc4 (List.mem_of_getElem? (i := 180) rfl)) rfl
abbrev mL_says : zM := (yL_says, cL_says, 6, (some FieldType.boolean))
set_option maxRecDepth 20000 in
theorem mfL_says : zMf mL_says 2 := ⟨ztb_in (zc4 (List.mem_of_getElem? (i := 184) rfl)) rfl, ztb_in (zc1 (List.mem_of_getElem? (i := 0) rfl)) rfl, ⟨by decide +kernel, by decide +kernel, by decide +kernel⟩, by decide⟩
theorem mpL_says : plainName mL_says.1.cls = true := by decide +kernel
set_option maxRecDepth 20000 in
theorem mtL_says : Cond.static mL_says.1 ∈ ztb := ztb_in (zc4 (List.mem_of_getElem? (i := 183) rfl)) rfl
abbrev mX8_hold : zM := (yX8_hold, cX8_hold, 3, (some FieldType.int))
set_option maxRecDepth 20000 in
theorem mfX8_hold : zMf mX8_hold 2 := ⟨ztb_in (zc4 (List.mem_of_getElem? (i := 191) rfl)) rfl, ztb_in (zc1 (List.mem_of_getElem? (i := 1) rfl)) rfl, ⟨by decide +kernel, by decide +kernel, by decide +kernel⟩, by decide⟩
theorem mpX8_hold : plainName mX8_hold.1.cls = true := by decide +kernel
set_option maxRecDepth 20000 in
theorem miX8_hold : Cond.instanceMethod mX8_hold.1 ∈ ztb := ztb_in (zc4 (List.mem_of_getElem? (i := 189) rfl)) rfl
set_option maxRecDepth 20000 in
theorem msX8_hold : Cond.selects mX8_hold.1.cls mX8_hold.1 mX8_hold.1 ∈ ztb := ztb_in (zc4 (List.mem_of_getElem? (i := 190) rfl)) rfl
abbrev mX8_checkNumber : zM := (yX8_checkNumber, cX8_checkNumber, 3, none)
set_option maxRecDepth 20000 in
theorem mfX8_checkNumber : zMf mX8_checkNumber 3 := ⟨ztb_in (zc4 (List.mem_of_getElem? (i := 194) rfl)) rfl, ztb_in (zc1 (List.mem_of_getElem? (i := 1) rfl)) rfl, ⟨by decide +kernel, by decide +kernel, by decide +kernel⟩, by decide⟩
theorem mpX8_checkNumber : plainName mX8_checkNumber.1.cls = true := by decide +kernel
set_option maxRecDepth 20000 in
theorem mtX8_checkNumber : Cond.static mX8_checkNumber.1 ∈ ztb := ztb_in (zc4 (List.mem_of_getElem? (i := 193) rfl)) rfl
abbrev mX8_release : zM := (yX8_release, cX8_release, 2, (some FieldType.int))
set_option maxRecDepth 20000 in
theorem mfX8_release : zMf mX8_release 1 := ⟨ztb_in (zc4 (List.mem_of_getElem? (i := 202) rfl)) rfl, ztb_in (zc1 (List.mem_of_getElem? (i := 1) rfl)) rfl, ⟨by decide +kernel, by decide +kernel, by decide +kernel⟩, by decide⟩
theorem mpX8_release : plainName mX8_release.1.cls = true := by decide +kernel
set_option maxRecDepth 20000 in
theorem miX8_release : Cond.instanceMethod mX8_release.1 ∈ ztb := ztb_in (zc4 (List.mem_of_getElem? (i := 200) rfl)) rfl
set_option maxRecDepth 20000 in
theorem msX8_release : Cond.selects mX8_release.1.cls mX8_release.1 mX8_release.1 ∈ ztb := ztb_in (zc4 (List.mem_of_getElem? (i := 201) rfl)) rfl
abbrev mX8_read : zM := (yX8_read, cX8_read, 3, (some FieldType.int))
set_option maxRecDepth 20000 in
theorem mfX8_read : zMf mX8_read 2 := ⟨ztb_in (zc4 (List.mem_of_getElem? (i := 210) rfl)) rfl, ztb_in (zc1 (List.mem_of_getElem? (i := 1) rfl)) rfl, ⟨by decide +kernel, by decide +kernel, by decide +kernel⟩, by decide⟩
theorem mpX8_read : plainName mX8_read.1.cls = true := by decide +kernel
set_option maxRecDepth 20000 in
theorem miX8_read : Cond.instanceMethod mX8_read.1 ∈ ztb := ztb_in (zc4 (List.mem_of_getElem? (i := 208) rfl)) rfl
set_option maxRecDepth 20000 in
theorem msX8_read : Cond.selects mX8_read.1.cls mX8_read.1 mX8_read.1 ∈ ztb := ztb_in (zc4 (List.mem_of_getElem? (i := 209) rfl)) rfl
abbrev mX8_control : zM := (yX8_control, cX8_control, 3, (some FieldType.int))
set_option maxRecDepth 20000 in
theorem mfX8_control : zMf mX8_control 2 := ⟨ztb_in (zc4 (List.mem_of_getElem? (i := 217) rfl)) rfl, ztb_in (zc1 (List.mem_of_getElem? (i := 1) rfl)) rfl, ⟨by decide +kernel, by decide +kernel, by decide +kernel⟩, by decide⟩
theorem mpX8_control : plainName mX8_control.1.cls = true := by decide +kernel
set_option maxRecDepth 20000 in
theorem miX8_control : Cond.instanceMethod mX8_control.1 ∈ ztb := ztb_in (zc4 (List.mem_of_getElem? (i := 215) rfl)) rfl
set_option maxRecDepth 20000 in
theorem msX8_control : Cond.selects mX8_control.1.cls mX8_control.1 mX8_control.1 ∈ ztb := ztb_in (zc4 (List.mem_of_getElem? (i := 216) rfl)) rfl
abbrev mX8_checkCellOrNone : zM := (yX8_checkCellOrNone, cX8_checkCellOrNone, 1, none)
set_option maxRecDepth 20000 in
theorem mfX8_checkCellOrNone : zMf mX8_checkCellOrNone 1 := ⟨ztb_in (zc4 (List.mem_of_getElem? (i := 220) rfl)) rfl, ztb_in (zc1 (List.mem_of_getElem? (i := 1) rfl)) rfl, ⟨by decide +kernel, by decide +kernel, by decide +kernel⟩, by decide⟩
theorem mpX8_checkCellOrNone : plainName mX8_checkCellOrNone.1.cls = true := by decide +kernel
set_option maxRecDepth 20000 in
theorem mtX8_checkCellOrNone : Cond.static mX8_checkCellOrNone.1 ∈ ztb := ztb_in (zc4 (List.mem_of_getElem? (i := 219) rfl)) rfl
abbrev mX8_limit : zM := (yX8_limit, cX8_limit, 3, (some FieldType.int))
set_option maxRecDepth 20000 in
theorem mfX8_limit : zMf mX8_limit 2 := ⟨ztb_in (zc4 (List.mem_of_getElem? (i := 227) rfl)) rfl, ztb_in (zc1 (List.mem_of_getElem? (i := 1) rfl)) rfl, ⟨by decide +kernel, by decide +kernel, by decide +kernel⟩, by decide⟩
theorem mpX8_limit : plainName mX8_limit.1.cls = true := by decide +kernel
set_option maxRecDepth 20000 in
theorem miX8_limit : Cond.instanceMethod mX8_limit.1 ∈ ztb := ztb_in (zc4 (List.mem_of_getElem? (i := 225) rfl)) rfl
set_option maxRecDepth 20000 in
theorem msX8_limit : Cond.selects mX8_limit.1.cls mX8_limit.1 mX8_limit.1 ∈ ztb := ztb_in (zc4 (List.mem_of_getElem? (i := 226) rfl)) rfl
abbrev mX8_demand : zM := (yX8_demand, cX8_demand, 4, (some FieldType.int))
set_option maxRecDepth 20000 in
theorem mfX8_demand : zMf mX8_demand 3 := ⟨ztb_in (zc4 (List.mem_of_getElem? (i := 234) rfl)) rfl, ztb_in (zc1 (List.mem_of_getElem? (i := 1) rfl)) rfl, ⟨by decide +kernel, by decide +kernel, by decide +kernel⟩, by decide⟩
theorem mpX8_demand : plainName mX8_demand.1.cls = true := by decide +kernel
set_option maxRecDepth 20000 in
theorem miX8_demand : Cond.instanceMethod mX8_demand.1 ∈ ztb := ztb_in (zc4 (List.mem_of_getElem? (i := 232) rfl)) rfl
set_option maxRecDepth 20000 in
theorem msX8_demand : Cond.selects mX8_demand.1.cls mX8_demand.1 mX8_demand.1 ∈ ztb := ztb_in (zc4 (List.mem_of_getElem? (i := 233) rfl)) rfl
abbrev mX8_need : zM := (yX8_need, cX8_need, 4, (some FieldType.int))
set_option maxRecDepth 20000 in
theorem mfX8_need : zMf mX8_need 3 := ⟨ztb_in (zc5 (List.mem_of_getElem? (i := 1) rfl)) rfl, ztb_in (zc1 (List.mem_of_getElem? (i := 1) rfl)) rfl, ⟨by decide +kernel, by decide +kernel, by decide +kernel⟩, by decide⟩
theorem mpX8_need : plainName mX8_need.1.cls = true := by decide +kernel
set_option maxRecDepth 20000 in
theorem miX8_need : Cond.instanceMethod mX8_need.1 ∈ ztb := ztb_in (zc4 (List.mem_of_getElem? (i := 239) rfl)) rfl
set_option maxRecDepth 20000 in
theorem msX8_need : Cond.selects mX8_need.1.cls mX8_need.1 mX8_need.1 ∈ ztb := ztb_in (zc5 (List.mem_of_getElem? (i := 0) rfl)) rfl
abbrev mX8_lie : zM := (yX8_lie, cX8_lie, 3, (some FieldType.int))
set_option maxRecDepth 20000 in
theorem mfX8_lie : zMf mX8_lie 2 := ⟨ztb_in (zc5 (List.mem_of_getElem? (i := 9) rfl)) rfl, ztb_in (zc1 (List.mem_of_getElem? (i := 1) rfl)) rfl, ⟨by decide +kernel, by decide +kernel, by decide +kernel⟩, by decide⟩
theorem mpX8_lie : plainName mX8_lie.1.cls = true := by decide +kernel
set_option maxRecDepth 20000 in
theorem miX8_lie : Cond.instanceMethod mX8_lie.1 ∈ ztb := ztb_in (zc5 (List.mem_of_getElem? (i := 7) rfl)) rfl
set_option maxRecDepth 20000 in
theorem msX8_lie : Cond.selects mX8_lie.1.cls mX8_lie.1 mX8_lie.1 ∈ ztb := ztb_in (zc5 (List.mem_of_getElem? (i := 8) rfl)) rfl
abbrev mX8_mend : zM := (yX8_mend, cX8_mend, 2, (some FieldType.int))
set_option maxRecDepth 20000 in
theorem mfX8_mend : zMf mX8_mend 1 := ⟨ztb_in (zc5 (List.mem_of_getElem? (i := 16) rfl)) rfl, ztb_in (zc1 (List.mem_of_getElem? (i := 1) rfl)) rfl, ⟨by decide +kernel, by decide +kernel, by decide +kernel⟩, by decide⟩
theorem mpX8_mend : plainName mX8_mend.1.cls = true := by decide +kernel
set_option maxRecDepth 20000 in
theorem miX8_mend : Cond.instanceMethod mX8_mend.1 ∈ ztb := ztb_in (zc5 (List.mem_of_getElem? (i := 14) rfl)) rfl
set_option maxRecDepth 20000 in
theorem msX8_mend : Cond.selects mX8_mend.1.cls mX8_mend.1 mX8_mend.1 ∈ ztb := ztb_in (zc5 (List.mem_of_getElem? (i := 15) rfl)) rfl
abbrev mX8_tick : zM := (yX8_tick, cX8_tick, 2, (some FieldType.int))
set_option maxRecDepth 20000 in
theorem mfX8_tick : zMf mX8_tick 1 := ⟨ztb_in (zc5 (List.mem_of_getElem? (i := 24) rfl)) rfl, ztb_in (zc1 (List.mem_of_getElem? (i := 1) rfl)) rfl, ⟨by decide +kernel, by decide +kernel, by decide +kernel⟩, by decide⟩
theorem mpX8_tick : plainName mX8_tick.1.cls = true := by decide +kernel
set_option maxRecDepth 20000 in
theorem miX8_tick : Cond.instanceMethod mX8_tick.1 ∈ ztb := ztb_in (zc5 (List.mem_of_getElem? (i := 22) rfl)) rfl
set_option maxRecDepth 20000 in
theorem msX8_tick : Cond.selects mX8_tick.1.cls mX8_tick.1 mX8_tick.1 ∈ ztb := ztb_in (zc5 (List.mem_of_getElem? (i := 23) rfl)) rfl
set_option maxRecDepth 20000 in
theorem kL_172 : Cond.methodLink RL 172 mX8_init.1 ∈ ztb ∨ ∃ host, Cond.methodLinkNest RL 172 mX8_init.1 host ∈ lw_tbl := Or.inl (ztb_in (zc1 (List.mem_of_getElem? (i := 26) rfl)) rfl)
set_option maxRecDepth 20000 in
theorem kX8_3 : Cond.methodLink RX8 3 Lib.objectInit ∈ ztb := ztb_in (zc1 (List.mem_of_getElem? (i := 29) rfl)) rfl
set_option maxRecDepth 20000 in
theorem kX8_11 : Cond.methodLink RX8 11 mX7_init.1 ∈ ztb ∨ ∃ host, Cond.methodLinkNest RX8 11 mX7_init.1 host ∈ lw_tbl := Or.inr ⟨"Daemonsheet", (zc1 (List.mem_of_getElem? (i := 34) rfl))⟩
set_option maxRecDepth 20000 in
theorem kX7_3 : Cond.methodLink RX7 3 Lib.objectInit ∈ ztb := ztb_in (zc1 (List.mem_of_getElem? (i := 37) rfl)) rfl
set_option maxRecDepth 20000 in
theorem kX8_18 : Cond.methodLink RX8 18 mX2_init.1 ∈ ztb ∨ ∃ host, Cond.methodLinkNest RX8 18 mX2_init.1 host ∈ lw_tbl := Or.inl (ztb_in (zc1 (List.mem_of_getElem? (i := 50) rfl)) rfl)
set_option maxRecDepth 20000 in
theorem kX2_3 : Cond.methodLink RX2 3 Lib.objectInit ∈ ztb := ztb_in (zc1 (List.mem_of_getElem? (i := 53) rfl)) rfl
set_option maxRecDepth 20000 in
theorem kX8_27 : Cond.methodLink RX8 27 mX6_init.1 ∈ ztb ∨ ∃ host, Cond.methodLinkNest RX8 27 mX6_init.1 host ∈ lw_tbl := Or.inl (ztb_in (zc1 (List.mem_of_getElem? (i := 76) rfl)) rfl)
set_option maxRecDepth 20000 in
theorem kX6_3 : Cond.methodLink RX6 3 Lib.objectInit ∈ ztb := ztb_in (zc1 (List.mem_of_getElem? (i := 79) rfl)) rfl
set_option maxRecDepth 20000 in
theorem kX6_11 : Cond.methodLink RX6 11 mX1_init.1 ∈ ztb ∨ ∃ host, Cond.methodLinkNest RX6 11 mX1_init.1 host ∈ lw_tbl := Or.inl (ztb_in (zc1 (List.mem_of_getElem? (i := 82) rfl)) rfl)
set_option maxRecDepth 20000 in
theorem kX1_1 : Cond.methodLink RX1 1 Lib.objectInit ∈ ztb := ztb_in (zc1 (List.mem_of_getElem? (i := 85) rfl)) rfl
set_option maxRecDepth 20000 in
theorem kX6_55 : Cond.methodLink RX6 55 mX0_init.1 ∈ ztb ∨ ∃ host, Cond.methodLinkNest RX6 55 mX0_init.1 host ∈ lw_tbl := Or.inl (ztb_in (zc1 (List.mem_of_getElem? (i := 103) rfl)) rfl)
set_option maxRecDepth 20000 in
theorem kX0_1 : Cond.methodLink RX0 1 Lib.objectInit ∈ ztb := ztb_in (zc1 (List.mem_of_getElem? (i := 106) rfl)) rfl
set_option maxRecDepth 20000 in
theorem kX6_58 : Cond.methodLink RX6 58 mX3_init.1 ∈ ztb ∨ ∃ host, Cond.methodLinkNest RX6 58 mX3_init.1 host ∈ lw_tbl := Or.inr ⟨"Daemonsheet", (zc1 (List.mem_of_getElem? (i := 133) rfl))⟩
set_option maxRecDepth 20000 in
theorem kX3_3 : Cond.methodLink RX3 3 Lib.objectInit ∈ ztb := ztb_in (zc1 (List.mem_of_getElem? (i := 136) rfl)) rfl
set_option maxRecDepth 20000 in
theorem kX6_59 : Cond.methodLink RX6 59 mX4_init.1 ∈ ztb ∨ ∃ host, Cond.methodLinkNest RX6 59 mX4_init.1 host ∈ lw_tbl := Or.inl (ztb_in (zc1 (List.mem_of_getElem? (i := 147) rfl)) rfl)
set_option maxRecDepth 20000 in
theorem kX4_3 : Cond.methodLink RX4 3 Lib.objectInit ∈ ztb := ztb_in (zc1 (List.mem_of_getElem? (i := 150) rfl)) rfl
set_option maxRecDepth 20000 in
theorem kX8_45 : Cond.methodLink RX8 45 mX5_init.1 ∈ ztb ∨ ∃ host, Cond.methodLinkNest RX8 45 mX5_init.1 host ∈ lw_tbl := Or.inl (ztb_in (zc2 (List.mem_of_getElem? (i := 4) rfl)) rfl)
set_option maxRecDepth 20000 in
theorem kX5_1 : Cond.methodLink RX5 1 Lib.objectInit ∈ ztb := ztb_in (zc2 (List.mem_of_getElem? (i := 7) rfl)) rfl
set_option maxRecDepth 20000 in
theorem kL_142 : Cond.methodLink RL 142 mX8_steps.1 ∈ ztb ∨ ∃ host, Cond.methodLinkNest RL 142 mX8_steps.1 host ∈ lw_tbl := Or.inl (ztb_in (zc2 (List.mem_of_getElem? (i := 56) rfl)) rfl)
set_option maxRecDepth 20000 in
theorem kL_176 : Cond.methodLink RL 176 mL_cell.1 ∈ ztb ∨ ∃ host, Cond.methodLinkNest RL 176 mL_cell.1 host ∈ lw_tbl := Or.inl (ztb_in (zc2 (List.mem_of_getElem? (i := 60) rfl)) rfl)
set_option maxRecDepth 20000 in
theorem kL_58 : Cond.methodLink RL 58 mX8_undo.1 ∈ ztb ∨ ∃ host, Cond.methodLinkNest RL 58 mX8_undo.1 host ∈ lw_tbl := Or.inl (ztb_in (zc2 (List.mem_of_getElem? (i := 69) rfl)) rfl)
set_option maxRecDepth 20000 in
theorem kX8_165 : Cond.methodLink RX8 165 mX8_tellAnew.1 ∈ ztb ∨ ∃ host, Cond.methodLinkNest RX8 165 mX8_tellAnew.1 host ∈ lw_tbl := Or.inl (ztb_in (zc2 (List.mem_of_getElem? (i := 141) rfl)) rfl)
set_option maxRecDepth 20000 in
theorem kX8_224 : Cond.methodLink RX8 224 mX6_clear.1 ∈ ztb ∨ ∃ host, Cond.methodLinkNest RX8 224 mX6_clear.1 host ∈ lw_tbl := Or.inl (ztb_in (zc2 (List.mem_of_getElem? (i := 145) rfl)) rfl)
set_option maxRecDepth 20000 in
theorem kX6_76 : Cond.methodLink RX6 76 mX4_clear.1 ∈ ztb ∨ ∃ host, Cond.methodLinkNest RX6 76 mX4_clear.1 host ∈ lw_tbl := Or.inl (ztb_in (zc2 (List.mem_of_getElem? (i := 149) rfl)) rfl)
set_option maxRecDepth 20000 in
theorem kX6_79 : Cond.methodLink RX6 79 mX6_arrange.1 ∈ ztb ∨ ∃ host, Cond.methodLinkNest RX6 79 mX6_arrange.1 host ∈ lw_tbl := Or.inl (ztb_in (zc2 (List.mem_of_getElem? (i := 153) rfl)) rfl)
set_option maxRecDepth 20000 in
theorem kX6_184 : Cond.methodLink RX6 184 mX8_has.1 ∈ ztb ∨ ∃ host, Cond.methodLinkNest RX6 184 mX8_has.1 host ∈ lw_tbl := Or.inr ⟨"Daemonsheet", (zc2 (List.mem_of_getElem? (i := 157) rfl))⟩
set_option maxRecDepth 20000 in
theorem kX6_83 : Cond.methodLink RX6 83 mX8_bit.1 ∈ ztb ∨ ∃ host, Cond.methodLinkNest RX6 83 mX8_bit.1 host ∈ lw_tbl := Or.inr ⟨"Daemonsheet", (zc2 (List.mem_of_getElem? (i := 160) rfl))⟩
set_option maxRecDepth 20000 in
theorem kX8_214 : Cond.methodLink RX8 214 mX6_tell.1 ∈ ztb ∨ ∃ host, Cond.methodLinkNest RX8 214 mX6_tell.1 host ∈ lw_tbl := Or.inl (ztb_in (zc2 (List.mem_of_getElem? (i := 163) rfl)) rfl)
set_option maxRecDepth 20000 in
theorem kX6_96 : Cond.methodLink RX6 96 mX6_change.1 ∈ ztb ∨ ∃ host, Cond.methodLinkNest RX6 96 mX6_change.1 host ∈ lw_tbl := Or.inl (ztb_in (zc2 (List.mem_of_getElem? (i := 167) rfl)) rfl)
set_option maxRecDepth 20000 in
theorem kX6_111 : Cond.methodLink RX6 111 mX6_changeReading.1 ∈ ztb ∨ ∃ host, Cond.methodLinkNest RX6 111 mX6_changeReading.1 host ∈ lw_tbl := Or.inl (ztb_in (zc2 (List.mem_of_getElem? (i := 171) rfl)) rfl)
set_option maxRecDepth 20000 in
theorem kX6_127 : Cond.methodLink RX6 127 mX6_soilReaders.1 ∈ ztb ∨ ∃ host, Cond.methodLinkNest RX6 127 mX6_soilReaders.1 host ∈ lw_tbl := Or.inl (ztb_in (zc2 (List.mem_of_getElem? (i := 175) rfl)) rfl)
set_option maxRecDepth 20000 in
theorem kX6_114 : Cond.methodLink RX6 114 mX6_changeCell.1 ∈ ztb ∨ ∃ host, Cond.methodLinkNest RX6 114 mX6_changeCell.1 host ∈ lw_tbl := Or.inl (ztb_in (zc2 (List.mem_of_getElem? (i := 179) rfl)) rfl)
set_option maxRecDepth 20000 in
theorem kX6_133 : Cond.methodLink RX6 133 mX6_setValue.1 ∈ ztb ∨ ∃ host, Cond.methodLinkNest RX6 133 mX6_setValue.1 host ∈ lw_tbl := Or.inl (ztb_in (zc2 (List.mem_of_getElem? (i := 183) rfl)) rfl)
set_option maxRecDepth 20000 in
theorem kX6_117 : Cond.methodLink RX6 117 mX6_changeService.1 ∈ ztb ∨ ∃ host, Cond.methodLinkNest RX6 117 mX6_changeService.1 host ∈ lw_tbl := Or.inl (ztb_in (zc2 (List.mem_of_getElem? (i := 187) rfl)) rfl)
set_option maxRecDepth 20000 in
theorem kX6_100 : Cond.methodLink RX6 100 mX6_settle.1 ∈ ztb ∨ ∃ host, Cond.methodLinkNest RX6 100 mX6_settle.1 host ∈ lw_tbl := Or.inl (ztb_in (zc2 (List.mem_of_getElem? (i := 191) rfl)) rfl)
set_option maxRecDepth 20000 in
theorem kX6_162 : Cond.methodLink RX6 162 mX6_forgetChanges.1 ∈ ztb ∨ ∃ host, Cond.methodLinkNest RX6 162 mX6_forgetChanges.1 host ∈ lw_tbl := Or.inl (ztb_in (zc2 (List.mem_of_getElem? (i := 195) rfl)) rfl)
set_option maxRecDepth 20000 in
theorem kX6_165 : Cond.methodLink RX6 165 mX6_workOutDirtyCells.1 ∈ ztb ∨ ∃ host, Cond.methodLinkNest RX6 165 mX6_workOutDirtyCells.1 host ∈ lw_tbl := Or.inl (ztb_in (zc2 (List.mem_of_getElem? (i := 199) rfl)) rfl)
set_option maxRecDepth 20000 in
theorem kX6_188 : Cond.methodLink RX6 188 mX6_valueOf.1 ∈ ztb ∨ ∃ host, Cond.methodLinkNest RX6 188 mX6_valueOf.1 host ∈ lw_tbl := Or.inl (ztb_in (zc2 (List.mem_of_getElem? (i := 203) rfl)) rfl)
set_option maxRecDepth 20000 in
theorem kX6_235 : Cond.methodLink RX6 235 mX6_valueNamed.1 ∈ ztb ∨ ∃ host, Cond.methodLinkNest RX6 235 mX6_valueNamed.1 host ∈ lw_tbl := Or.inl (ztb_in (zc2 (List.mem_of_getElem? (i := 209) rfl)) rfl)
set_option maxRecDepth 20000 in
theorem kX6_217 : Cond.methodLink RX6 217 mX6_cellValue.1 ∈ ztb ∨ ∃ host, Cond.methodLinkNest RX6 217 mX6_cellValue.1 host ∈ lw_tbl := Or.inl (ztb_in (zc2 (List.mem_of_getElem? (i := 213) rfl)) rfl)
set_option maxRecDepth 20000 in
theorem kX6_238 : Cond.methodLink RX6 238 mX6_combine.1 ∈ ztb ∨ ∃ host, Cond.methodLinkNest RX6 238 mX6_combine.1 host ∈ lw_tbl := Or.inl (ztb_in (zc2 (List.mem_of_getElem? (i := 217) rfl)) rfl)
set_option maxRecDepth 20000 in
theorem kX6_242 : Cond.methodLink RX6 242 mX8_within.1 ∈ ztb ∨ ∃ host, Cond.methodLinkNest RX6 242 mX8_within.1 host ∈ lw_tbl := Or.inr ⟨"Daemonsheet", (zc2 (List.mem_of_getElem? (i := 226) rfl))⟩
set_option maxRecDepth 20000 in
theorem kX6_168 : Cond.methodLink RX6 168 mX6_lookAtServices.1 ∈ ztb ∨ ∃ host, Cond.methodLinkNest RX6 168 mX6_lookAtServices.1 host ∈ lw_tbl := Or.inl (ztb_in (zc2 (List.mem_of_getElem? (i := 237) rfl)) rfl)
set_option maxRecDepth 20000 in
theorem kX6_199 : Cond.methodLink RX6 199 mX6_nextState.1 ∈ ztb ∨ ∃ host, Cond.methodLinkNest RX6 199 mX6_nextState.1 host ∈ lw_tbl := Or.inl (ztb_in (zc3 (List.mem_of_getElem? (i := 1) rfl)) rfl)
set_option maxRecDepth 20000 in
theorem kX6_210 : Cond.methodLink RX6 210 mX6_isWanted.1 ∈ ztb ∨ ∃ host, Cond.methodLinkNest RX6 210 mX6_isWanted.1 host ∈ lw_tbl := Or.inl (ztb_in (zc3 (List.mem_of_getElem? (i := 5) rfl)) rfl)
set_option maxRecDepth 20000 in
theorem kX6_214 : Cond.methodLink RX6 214 mX6_findStale.1 ∈ ztb ∨ ∃ host, Cond.methodLinkNest RX6 214 mX6_findStale.1 host ∈ lw_tbl := Or.inl (ztb_in (zc3 (List.mem_of_getElem? (i := 9) rfl)) rfl)
set_option maxRecDepth 20000 in
theorem kX6_249 : Cond.methodLink RX6 249 mX3_isFresh.1 ∈ ztb ∨ ∃ host, Cond.methodLinkNest RX6 249 mX3_isFresh.1 host ∈ lw_tbl := Or.inl (ztb_in (zc3 (List.mem_of_getElem? (i := 13) rfl)) rfl)
set_option maxRecDepth 20000 in
theorem kX6_120 : Cond.methodLink RX6 120 mX4_isDue.1 ∈ ztb ∨ ∃ host, Cond.methodLinkNest RX6 120 mX4_isDue.1 host ∈ lw_tbl := Or.inl (ztb_in (zc3 (List.mem_of_getElem? (i := 17) rfl)) rfl)
set_option maxRecDepth 20000 in
theorem kX6_203 : Cond.methodLink RX6 203 mX6_loadRunning.1 ∈ ztb ∨ ∃ host, Cond.methodLinkNest RX6 203 mX6_loadRunning.1 host ∈ lw_tbl := Or.inl (ztb_in (zc3 (List.mem_of_getElem? (i := 21) rfl)) rfl)
set_option maxRecDepth 20000 in
theorem kX6_206 : Cond.methodLink RX6 206 mX4_enter.1 ∈ ztb ∨ ∃ host, Cond.methodLinkNest RX6 206 mX4_enter.1 host ∈ lw_tbl := Or.inl (ztb_in (zc3 (List.mem_of_getElem? (i := 25) rfl)) rfl)
set_option maxRecDepth 20000 in
theorem kX6_180 : Cond.methodLink RX6 180 mX6_setTold.1 ∈ ztb ∨ ∃ host, Cond.methodLinkNest RX6 180 mX6_setTold.1 host ∈ lw_tbl := Or.inl (ztb_in (zc3 (List.mem_of_getElem? (i := 29) rfl)) rfl)
set_option maxRecDepth 20000 in
theorem kX6_171 : Cond.methodLink RX6 171 mX6_cutLowestOfLateChanges.1 ∈ ztb ∨ ∃ host, Cond.methodLinkNest RX6 171 mX6_cutLowestOfLateChanges.1 host ∈ lw_tbl := Or.inl (ztb_in (zc3 (List.mem_of_getElem? (i := 33) rfl)) rfl)
set_option maxRecDepth 20000 in
theorem kX6_107 : Cond.methodLink RX6 107 mX6_isStartDue.1 ∈ ztb ∨ ∃ host, Cond.methodLinkNest RX6 107 mX6_isStartDue.1 host ∈ lw_tbl := Or.inl (ztb_in (zc3 (List.mem_of_getElem? (i := 37) rfl)) rfl)
set_option maxRecDepth 20000 in
theorem kL_62 : Cond.methodLink RL 62 mX8_value.1 ∈ ztb ∨ ∃ host, Cond.methodLinkNest RL 62 mX8_value.1 host ∈ lw_tbl := Or.inl (ztb_in (zc3 (List.mem_of_getElem? (i := 45) rfl)) rfl)
set_option maxRecDepth 20000 in
theorem kX8_91 : Cond.methodLink RX8 91 mX8_checkCell.1 ∈ ztb ∨ ∃ host, Cond.methodLinkNest RX8 91 mX8_checkCell.1 host ∈ lw_tbl := Or.inl (ztb_in (zc3 (List.mem_of_getElem? (i := 49) rfl)) rfl)
set_option maxRecDepth 20000 in
theorem kX8_135 : Cond.methodLink RX8 135 mX8_checkPlace.1 ∈ ztb ∨ ∃ host, Cond.methodLinkNest RX8 135 mX8_checkPlace.1 host ∈ lw_tbl := Or.inl (ztb_in (zc3 (List.mem_of_getElem? (i := 52) rfl)) rfl)
set_option maxRecDepth 20000 in
theorem kL_66 : Cond.methodLink RL 66 mX8_valueAnew.1 ∈ ztb ∨ ∃ host, Cond.methodLinkNest RL 66 mX8_valueAnew.1 host ∈ lw_tbl := Or.inl (ztb_in (zc3 (List.mem_of_getElem? (i := 75) rfl)) rfl)
set_option maxRecDepth 20000 in
theorem kL_91 : Cond.methodLink RL 91 mX8_trial.1 ∈ ztb ∨ ∃ host, Cond.methodLinkNest RL 91 mX8_trial.1 host ∈ lw_tbl := Or.inl (ztb_in (zc3 (List.mem_of_getElem? (i := 82) rfl)) rfl)
set_option maxRecDepth 20000 in
theorem kX8_139 : Cond.methodLink RX8 139 mX8_checkService.1 ∈ ztb ∨ ∃ host, Cond.methodLinkNest RX8 139 mX8_checkService.1 host ∈ lw_tbl := Or.inl (ztb_in (zc3 (List.mem_of_getElem? (i := 86) rfl)) rfl)
set_option maxRecDepth 20000 in
theorem kX8_204 : Cond.methodLink RX8 204 mX6_takeSettings.1 ∈ ztb ∨ ∃ host, Cond.methodLinkNest RX8 204 mX6_takeSettings.1 host ∈ lw_tbl := Or.inl (ztb_in (zc3 (List.mem_of_getElem? (i := 90) rfl)) rfl)
set_option maxRecDepth 20000 in
theorem kX6_82 : Cond.methodLink RX6 82 mX6_clear.1 ∈ ztb ∨ ∃ host, Cond.methodLinkNest RX6 82 mX6_clear.1 host ∈ lw_tbl := Or.inl (ztb_in (zc3 (List.mem_of_getElem? (i := 94) rfl)) rfl)
set_option maxRecDepth 20000 in
theorem kX6_87 : Cond.methodLink RX6 87 mX4_takeSettings.1 ∈ ztb ∨ ∃ host, Cond.methodLinkNest RX6 87 mX4_takeSettings.1 host ∈ lw_tbl := Or.inl (ztb_in (zc3 (List.mem_of_getElem? (i := 95) rfl)) rfl)
set_option maxRecDepth 20000 in
theorem kX8_208 : Cond.methodLink RX8 208 mX6_settle.1 ∈ ztb ∨ ∃ host, Cond.methodLinkNest RX8 208 mX6_settle.1 host ∈ lw_tbl := Or.inl (ztb_in (zc3 (List.mem_of_getElem? (i := 99) rfl)) rfl)
set_option maxRecDepth 20000 in
theorem kX8_211 : Cond.methodLink RX8 211 mX8_tellReadingsOfTick.1 ∈ ztb ∨ ∃ host, Cond.methodLinkNest RX8 211 mX8_tellReadingsOfTick.1 host ∈ lw_tbl := Or.inl (ztb_in (zc3 (List.mem_of_getElem? (i := 100) rfl)) rfl)
set_option maxRecDepth 20000 in
theorem kL_199 : Cond.methodLink RL 199 mL_sign.1 ∈ ztb ∨ ∃ host, Cond.methodLinkNest RL 199 mL_sign.1 host ∈ lw_tbl := Or.inl (ztb_in (zc3 (List.mem_of_getElem? (i := 104) rfl)) rfl)
set_option maxRecDepth 20000 in
theorem kL_202 : Cond.methodLink RL 202 mL_isFault.1 ∈ ztb ∨ ∃ host, Cond.methodLinkNest RL 202 mL_isFault.1 host ∈ lw_tbl := Or.inl (ztb_in (zc3 (List.mem_of_getElem? (i := 107) rfl)) rfl)
set_option maxRecDepth 20000 in
theorem kL_105 : Cond.methodLink RL 105 mL_types.1 ∈ ztb ∨ ∃ host, Cond.methodLinkNest RL 105 mL_types.1 host ∈ lw_tbl := Or.inl (ztb_in (zc3 (List.mem_of_getElem? (i := 110) rfl)) rfl)
set_option maxRecDepth 20000 in
theorem kL_97 : Cond.methodLink RL 97 mX8_wipe.1 ∈ ztb ∨ ∃ host, Cond.methodLinkNest RL 97 mX8_wipe.1 host ∈ lw_tbl := Or.inl (ztb_in (zc3 (List.mem_of_getElem? (i := 113) rfl)) rfl)
set_option maxRecDepth 20000 in
theorem kL_9 : Cond.methodLink RL 9 mX8_type.1 ∈ ztb ∨ ∃ host, Cond.methodLinkNest RL 9 mX8_type.1 host ∈ lw_tbl := Or.inl (ztb_in (zc3 (List.mem_of_getElem? (i := 121) rfl)) rfl)
set_option maxRecDepth 20000 in
theorem kX8_52 : Cond.methodLink RX8 52 mX8_isFigure.1 ∈ ztb ∨ ∃ host, Cond.methodLinkNest RX8 52 mX8_isFigure.1 host ∈ lw_tbl := Or.inl (ztb_in (zc3 (List.mem_of_getElem? (i := 125) rfl)) rfl)
set_option maxRecDepth 20000 in
theorem kX8_71 : Cond.methodLink RX8 71 mX7_isFull.1 ∈ ztb ∨ ∃ host, Cond.methodLinkNest RX8 71 mX7_isFull.1 host ∈ lw_tbl := Or.inl (ztb_in (zc3 (List.mem_of_getElem? (i := 227) rfl)) rfl)
set_option maxRecDepth 20000 in
theorem kX8_80 : Cond.methodLink RX8 80 mX7_add.1 ∈ ztb ∨ ∃ host, Cond.methodLinkNest RX8 80 mX7_add.1 host ∈ lw_tbl := Or.inl (ztb_in (zc3 (List.mem_of_getElem? (i := 232) rfl)) rfl)
set_option maxRecDepth 20000 in
theorem kL_109 : Cond.methodLink RL 109 mX8_fault.1 ∈ ztb ∨ ∃ host, Cond.methodLinkNest RL 109 mX8_fault.1 host ∈ lw_tbl := Or.inl (ztb_in (zc3 (List.mem_of_getElem? (i := 236) rfl)) rfl)
set_option maxRecDepth 20000 in
theorem kX8_87 : Cond.methodLink RX8 87 mX2_findFault.1 ∈ ztb ∨ ∃ host, Cond.methodLinkNest RX8 87 mX2_findFault.1 host ∈ lw_tbl := Or.inl (ztb_in (zc4 (List.mem_of_getElem? (i := 0) rfl)) rfl)
set_option maxRecDepth 20000 in
theorem kX2_33 : Cond.methodLink RX2 33 mX2_passFormula.1 ∈ ztb ∨ ∃ host, Cond.methodLinkNest RX2 33 mX2_passFormula.1 host ∈ lw_tbl := Or.inl (ztb_in (zc4 (List.mem_of_getElem? (i := 4) rfl)) rfl)
set_option maxRecDepth 20000 in
theorem kX2_59 : Cond.methodLink RX2 59 mX2_passSum.1 ∈ ztb ∨ ∃ host, Cond.methodLinkNest RX2 59 mX2_passSum.1 host ∈ lw_tbl := Or.inl (ztb_in (zc4 (List.mem_of_getElem? (i := 8) rfl)) rfl)
set_option maxRecDepth 20000 in
theorem kX2_74 : Cond.methodLink RX2 74 mX2_passProduct.1 ∈ ztb ∨ ∃ host, Cond.methodLinkNest RX2 74 mX2_passProduct.1 host ∈ lw_tbl := Or.inl (ztb_in (zc4 (List.mem_of_getElem? (i := 12) rfl)) rfl)
set_option maxRecDepth 20000 in
theorem kX2_77 : Cond.methodLink RX2 77 mX2_passPart.1 ∈ ztb ∨ ∃ host, Cond.methodLinkNest RX2 77 mX2_passPart.1 host ∈ lw_tbl := Or.inl (ztb_in (zc4 (List.mem_of_getElem? (i := 16) rfl)) rfl)
set_option maxRecDepth 20000 in
theorem kX2_62 : Cond.methodLink RX2 62 mX7_letterAt.1 ∈ ztb ∨ ∃ host, Cond.methodLinkNest RX2 62 mX7_letterAt.1 host ∈ lw_tbl := Or.inl (ztb_in (zc4 (List.mem_of_getElem? (i := 20) rfl)) rfl)
set_option maxRecDepth 20000 in
theorem kX2_80 : Cond.methodLink RX2 80 mX8_isFigure.1 ∈ ztb ∨ ∃ host, Cond.methodLinkNest RX2 80 mX8_isFigure.1 host ∈ lw_tbl := Or.inr ⟨"Daemonsheet", (zc4 (List.mem_of_getElem? (i := 24) rfl))⟩
set_option maxRecDepth 20000 in
theorem kX2_84 : Cond.methodLink RX2 84 mX2_passNumber.1 ∈ ztb ∨ ∃ host, Cond.methodLinkNest RX2 84 mX2_passNumber.1 host ∈ lw_tbl := Or.inl (ztb_in (zc4 (List.mem_of_getElem? (i := 25) rfl)) rfl)
set_option maxRecDepth 20000 in
theorem kX2_70 : Cond.methodLink RX2 70 mX2_write.1 ∈ ztb ∨ ∃ host, Cond.methodLinkNest RX2 70 mX2_write.1 host ∈ lw_tbl := Or.inl (ztb_in (zc4 (List.mem_of_getElem? (i := 29) rfl)) rfl)
set_option maxRecDepth 20000 in
theorem kX2_87 : Cond.methodLink RX2 87 mX2_passBrackets.1 ∈ ztb ∨ ∃ host, Cond.methodLinkNest RX2 87 mX2_passBrackets.1 host ∈ lw_tbl := Or.inl (ztb_in (zc4 (List.mem_of_getElem? (i := 33) rfl)) rfl)
set_option maxRecDepth 20000 in
theorem kX2_101 : Cond.methodLink RX2 101 mX2_passSign.1 ∈ ztb ∨ ∃ host, Cond.methodLinkNest RX2 101 mX2_passSign.1 host ∈ lw_tbl := Or.inl (ztb_in (zc4 (List.mem_of_getElem? (i := 37) rfl)) rfl)
set_option maxRecDepth 20000 in
theorem kX2_90 : Cond.methodLink RX2 90 mX2_passName.1 ∈ ztb ∨ ∃ host, Cond.methodLinkNest RX2 90 mX2_passName.1 host ∈ lw_tbl := Or.inl (ztb_in (zc4 (List.mem_of_getElem? (i := 41) rfl)) rfl)
set_option maxRecDepth 20000 in
theorem kX2_94 : Cond.methodLink RX2 94 mX2_figureAt.1 ∈ ztb ∨ ∃ host, Cond.methodLinkNest RX2 94 mX2_figureAt.1 host ∈ lw_tbl := Or.inl (ztb_in (zc4 (List.mem_of_getElem? (i := 45) rfl)) rfl)
set_option maxRecDepth 20000 in
theorem kX2_98 : Cond.methodLink RX2 98 mX8_bit.1 ∈ ztb ∨ ∃ host, Cond.methodLinkNest RX2 98 mX8_bit.1 host ∈ lw_tbl := Or.inr ⟨"Daemonsheet", (zc4 (List.mem_of_getElem? (i := 49) rfl))⟩
set_option maxRecDepth 20000 in
theorem kX2_66 : Cond.methodLink RX2 66 mX2_comparisonOf.1 ∈ ztb ∨ ∃ host, Cond.methodLinkNest RX2 66 mX2_comparisonOf.1 host ∈ lw_tbl := Or.inl (ztb_in (zc4 (List.mem_of_getElem? (i := 50) rfl)) rfl)
set_option maxRecDepth 20000 in
theorem kL_19 : Cond.methodLink RL 19 mX8_formula.1 ∈ ztb ∨ ∃ host, Cond.methodLinkNest RL 19 mX8_formula.1 host ∈ lw_tbl := Or.inl (ztb_in (zc4 (List.mem_of_getElem? (i := 56) rfl)) rfl)
set_option maxRecDepth 20000 in
theorem kX8_97 : Cond.methodLink RX8 97 mX2_makeFormula.1 ∈ ztb ∨ ∃ host, Cond.methodLinkNest RX8 97 mX2_makeFormula.1 host ∈ lw_tbl := Or.inl (ztb_in (zc4 (List.mem_of_getElem? (i := 61) rfl)) rfl)
set_option maxRecDepth 20000 in
theorem kX2_56 : Cond.methodLink RX2 56 mX1_init.1 ∈ ztb ∨ ∃ host, Cond.methodLinkNest RX2 56 mX1_init.1 host ∈ lw_tbl := Or.inl (ztb_in (zc4 (List.mem_of_getElem? (i := 81) rfl)) rfl)
set_option maxRecDepth 20000 in
theorem kX8_106 : Cond.methodLink RX8 106 mX6_withAllRead.1 ∈ ztb ∨ ∃ host, Cond.methodLinkNest RX8 106 mX6_withAllRead.1 host ∈ lw_tbl := Or.inl (ztb_in (zc4 (List.mem_of_getElem? (i := 82) rfl)) rfl)
set_option maxRecDepth 20000 in
theorem kX8_109 : Cond.methodLink RX8 109 mX8_has.1 ∈ ztb ∨ ∃ host, Cond.methodLinkNest RX8 109 mX8_has.1 host ∈ lw_tbl := Or.inl (ztb_in (zc4 (List.mem_of_getElem? (i := 86) rfl)) rfl)
set_option maxRecDepth 20000 in
theorem kX8_115 : Cond.methodLink RX8 115 mX8_keep.1 ∈ ztb ∨ ∃ host, Cond.methodLinkNest RX8 115 mX8_keep.1 host ∈ lw_tbl := Or.inl (ztb_in (zc4 (List.mem_of_getElem? (i := 88) rfl)) rfl)
set_option maxRecDepth 20000 in
theorem kL_173 : Cond.methodLink RL 173 mL_fits.1 ∈ ztb ∨ ∃ host, Cond.methodLinkNest RL 173 mL_fits.1 host ∈ lw_tbl := Or.inl (ztb_in (zc4 (List.mem_of_getElem? (i := 93) rfl)) rfl)
set_option maxRecDepth 20000 in
theorem kL_69 : Cond.methodLink RL 69 mX8_worth.1 ∈ ztb ∨ ∃ host, Cond.methodLinkNest RL 69 mX8_worth.1 host ∈ lw_tbl := Or.inl (ztb_in (zc4 (List.mem_of_getElem? (i := 99) rfl)) rfl)
set_option maxRecDepth 20000 in
theorem kX8_176 : Cond.methodLink RX8 176 mX6_valueOf.1 ∈ ztb ∨ ∃ host, Cond.methodLinkNest RX8 176 mX6_valueOf.1 host ∈ lw_tbl := Or.inl (ztb_in (zc4 (List.mem_of_getElem? (i := 103) rfl)) rfl)
set_option maxRecDepth 20000 in
theorem kL_75 : Cond.methodLink RL 75 mX8_isStale.1 ∈ ztb ∨ ∃ host, Cond.methodLinkNest RL 75 mX8_isStale.1 host ∈ lw_tbl := Or.inl (ztb_in (zc4 (List.mem_of_getElem? (i := 107) rfl)) rfl)
set_option maxRecDepth 20000 in
theorem kX8_183 : Cond.methodLink RX8 183 mX6_findStale.1 ∈ ztb ∨ ∃ host, Cond.methodLinkNest RX8 183 mX6_findStale.1 host ∈ lw_tbl := Or.inl (ztb_in (zc4 (List.mem_of_getElem? (i := 111) rfl)) rfl)
set_option maxRecDepth 20000 in
theorem kL_72 : Cond.methodLink RL 72 mX8_depth.1 ∈ ztb ∨ ∃ host, Cond.methodLinkNest RL 72 mX8_depth.1 host ∈ lw_tbl := Or.inl (ztb_in (zc4 (List.mem_of_getElem? (i := 115) rfl)) rfl)
set_option maxRecDepth 20000 in
theorem kL_79 : Cond.methodLink RL 79 mX8_state.1 ∈ ztb ∨ ∃ host, Cond.methodLinkNest RL 79 mX8_state.1 host ∈ lw_tbl := Or.inl (ztb_in (zc4 (List.mem_of_getElem? (i := 124) rfl)) rfl)
set_option maxRecDepth 20000 in
theorem kL_82 : Cond.methodLink RL 82 mX8_load.1 ∈ ztb ∨ ∃ host, Cond.methodLinkNest RL 82 mX8_load.1 host ∈ lw_tbl := Or.inl (ztb_in (zc4 (List.mem_of_getElem? (i := 131) rfl)) rfl)
set_option maxRecDepth 20000 in
theorem kL_85 : Cond.methodLink RL 85 mX8_told.1 ∈ ztb ∨ ∃ host, Cond.methodLinkNest RL 85 mX8_told.1 host ∈ lw_tbl := Or.inl (ztb_in (zc4 (List.mem_of_getElem? (i := 138) rfl)) rfl)
set_option maxRecDepth 20000 in
theorem kL_88 : Cond.methodLink RL 88 mX8_starts.1 ∈ ztb ∨ ∃ host, Cond.methodLinkNest RL 88 mX8_starts.1 host ∈ lw_tbl := Or.inl (ztb_in (zc4 (List.mem_of_getElem? (i := 145) rfl)) rfl)
set_option maxRecDepth 20000 in
theorem kL_180 : Cond.methodLink RL 180 mL_sees.1 ∈ ztb ∨ ∃ host, Cond.methodLinkNest RL 180 mL_sees.1 host ∈ lw_tbl := Or.inl (ztb_in (zc4 (List.mem_of_getElem? (i := 149) rfl)) rfl)
set_option maxRecDepth 20000 in
theorem kL_94 : Cond.methodLink RL 94 mX8_isLoop.1 ∈ ztb ∨ ∃ host, Cond.methodLinkNest RL 94 mX8_isLoop.1 host ∈ lw_tbl := Or.inl (ztb_in (zc4 (List.mem_of_getElem? (i := 155) rfl)) rfl)
set_option maxRecDepth 20000 in
theorem kX8_218 : Cond.methodLink RX8 218 mX6_hangsOnItself.1 ∈ ztb ∨ ∃ host, Cond.methodLinkNest RX8 218 mX6_hangsOnItself.1 host ∈ lw_tbl := Or.inl (ztb_in (zc4 (List.mem_of_getElem? (i := 159) rfl)) rfl)
set_option maxRecDepth 20000 in
theorem kX6_252 : Cond.methodLink RX6 252 mX6_servicesUnder.1 ∈ ztb ∨ ∃ host, Cond.methodLinkNest RX6 252 mX6_servicesUnder.1 host ∈ lw_tbl := Or.inl (ztb_in (zc4 (List.mem_of_getElem? (i := 163) rfl)) rfl)
set_option maxRecDepth 20000 in
theorem kX6_255 : Cond.methodLink RX6 255 mX6_withAllRead.1 ∈ ztb ∨ ∃ host, Cond.methodLinkNest RX6 255 mX6_withAllRead.1 host ∈ lw_tbl := Or.inl (ztb_in (zc4 (List.mem_of_getElem? (i := 167) rfl)) rfl)
set_option maxRecDepth 20000 in
theorem kL_136 : Cond.methodLink RL 136 mX8_now.1 ∈ ztb ∨ ∃ host, Cond.methodLinkNest RL 136 mX8_now.1 host ∈ lw_tbl := Or.inl (ztb_in (zc4 (List.mem_of_getElem? (i := 168) rfl)) rfl)
set_option maxRecDepth 20000 in
theorem kL_139 : Cond.methodLink RL 139 mX8_work.1 ∈ ztb ∨ ∃ host, Cond.methodLinkNest RL 139 mX8_work.1 host ∈ lw_tbl := Or.inl (ztb_in (zc4 (List.mem_of_getElem? (i := 172) rfl)) rfl)
set_option maxRecDepth 20000 in
theorem kL_187 : Cond.methodLink RL 187 mL_areAlike.1 ∈ ztb ∨ ∃ host, Cond.methodLinkNest RL 187 mL_areAlike.1 host ∈ lw_tbl := Or.inl (ztb_in (zc4 (List.mem_of_getElem? (i := 176) rfl)) rfl)
set_option maxRecDepth 20000 in
theorem kL_184 : Cond.methodLink RL 184 mL_does.1 ∈ ztb ∨ ∃ host, Cond.methodLinkNest RL 184 mL_does.1 host ∈ lw_tbl := Or.inl (ztb_in (zc4 (List.mem_of_getElem? (i := 179) rfl)) rfl)
set_option maxRecDepth 20000 in
theorem kL_145 : Cond.methodLink RL 145 mL_says.1 ∈ ztb ∨ ∃ host, Cond.methodLinkNest RL 145 mL_says.1 host ∈ lw_tbl := Or.inl (ztb_in (zc4 (List.mem_of_getElem? (i := 182) rfl)) rfl)
set_option maxRecDepth 20000 in
theorem kL_25 : Cond.methodLink RL 25 mX8_hold.1 ∈ ztb ∨ ∃ host, Cond.methodLinkNest RL 25 mX8_hold.1 host ∈ lw_tbl := Or.inl (ztb_in (zc4 (List.mem_of_getElem? (i := 188) rfl)) rfl)
set_option maxRecDepth 20000 in
theorem kX8_119 : Cond.methodLink RX8 119 mX8_checkNumber.1 ∈ ztb ∨ ∃ host, Cond.methodLinkNest RX8 119 mX8_checkNumber.1 host ∈ lw_tbl := Or.inl (ztb_in (zc4 (List.mem_of_getElem? (i := 192) rfl)) rfl)
set_option maxRecDepth 20000 in
theorem kL_29 : Cond.methodLink RL 29 mX8_release.1 ∈ ztb ∨ ∃ host, Cond.methodLinkNest RL 29 mX8_release.1 host ∈ lw_tbl := Or.inl (ztb_in (zc4 (List.mem_of_getElem? (i := 199) rfl)) rfl)
set_option maxRecDepth 20000 in
theorem kL_32 : Cond.methodLink RL 32 mX8_read.1 ∈ ztb ∨ ∃ host, Cond.methodLinkNest RL 32 mX8_read.1 host ∈ lw_tbl := Or.inl (ztb_in (zc4 (List.mem_of_getElem? (i := 207) rfl)) rfl)
set_option maxRecDepth 20000 in
theorem kL_35 : Cond.methodLink RL 35 mX8_control.1 ∈ ztb ∨ ∃ host, Cond.methodLinkNest RL 35 mX8_control.1 host ∈ lw_tbl := Or.inl (ztb_in (zc4 (List.mem_of_getElem? (i := 214) rfl)) rfl)
set_option maxRecDepth 20000 in
theorem kX8_142 : Cond.methodLink RX8 142 mX8_checkCellOrNone.1 ∈ ztb ∨ ∃ host, Cond.methodLinkNest RX8 142 mX8_checkCellOrNone.1 host ∈ lw_tbl := Or.inl (ztb_in (zc4 (List.mem_of_getElem? (i := 218) rfl)) rfl)
set_option maxRecDepth 20000 in
theorem kL_38 : Cond.methodLink RL 38 mX8_limit.1 ∈ ztb ∨ ∃ host, Cond.methodLinkNest RL 38 mX8_limit.1 host ∈ lw_tbl := Or.inl (ztb_in (zc4 (List.mem_of_getElem? (i := 224) rfl)) rfl)
set_option maxRecDepth 20000 in
theorem kL_41 : Cond.methodLink RL 41 mX8_demand.1 ∈ ztb ∨ ∃ host, Cond.methodLinkNest RL 41 mX8_demand.1 host ∈ lw_tbl := Or.inl (ztb_in (zc4 (List.mem_of_getElem? (i := 231) rfl)) rfl)
set_option maxRecDepth 20000 in
theorem kL_45 : Cond.methodLink RL 45 mX8_need.1 ∈ ztb ∨ ∃ host, Cond.methodLinkNest RL 45 mX8_need.1 host ∈ lw_tbl := Or.inl (ztb_in (zc4 (List.mem_of_getElem? (i := 238) rfl)) rfl)
set_option maxRecDepth 20000 in
theorem kL_49 : Cond.methodLink RL 49 mX8_lie.1 ∈ ztb ∨ ∃ host, Cond.methodLinkNest RL 49 mX8_lie.1 host ∈ lw_tbl := Or.inl (ztb_in (zc5 (List.mem_of_getElem? (i := 6) rfl)) rfl)
set_option maxRecDepth 20000 in
theorem kL_52 : Cond.methodLink RL 52 mX8_mend.1 ∈ ztb ∨ ∃ host, Cond.methodLinkNest RL 52 mX8_mend.1 host ∈ lw_tbl := Or.inl (ztb_in (zc5 (List.mem_of_getElem? (i := 13) rfl)) rfl)
set_option maxRecDepth 20000 in
theorem kL_55 : Cond.methodLink RL 55 mX8_tick.1 ∈ ztb ∨ ∃ host, Cond.methodLinkNest RL 55 mX8_tick.1 host ∈ lw_tbl := Or.inl (ztb_in (zc5 (List.mem_of_getElem? (i := 21) rfl)) rfl)
set_option maxRecDepth 20000 in
theorem oi1 : Cond.instanceMethod Lib.objectInit ∈ ztb := ztb_in (zc1 (List.mem_of_getElem? (i := 30) rfl)) rfl
set_option maxRecDepth 20000 in
theorem oi2 : Cond.code Lib.objectInit ⟨#[0xb1]⟩ 1 none ∈ ztb := ztb_in (zc1 (List.mem_of_getElem? (i := 31) rfl)) rfl
set_option maxRecDepth 20000 in
theorem ac_int : Cond.arrayClass .int ∈ ztb := ztb_in (zc1 (List.mem_of_getElem? (i := 73) rfl)) rfl
set_option maxRecDepth 20000 in
theorem ac_char : Cond.arrayClass .char ∈ ztb := ztb_in (zc1 (List.mem_of_getElem? (i := 47) rfl)) rfl
set_option maxRecDepth 20000 in
theorem itL : Cond.initialized RL ∈ ztb := ztb_in (zc1 (List.mem_of_getElem? (i := 0) rfl)) rfl
set_option maxRecDepth 20000 in
theorem itX8 : Cond.initialized RX8 ∈ ztb := ztb_in (zc1 (List.mem_of_getElem? (i := 1) rfl)) rfl
set_option maxRecDepth 20000 in
theorem itX7 : Cond.initialized RX7 ∈ ztb := ztb_in (zc1 (List.mem_of_getElem? (i := 2) rfl)) rfl
set_option maxRecDepth 20000 in
theorem itX2 : Cond.initialized RX2 ∈ ztb := ztb_in (zc1 (List.mem_of_getElem? (i := 3) rfl)) rfl
set_option maxRecDepth 20000 in
theorem itX6 : Cond.initialized RX6 ∈ ztb := ztb_in (zc1 (List.mem_of_getElem? (i := 4) rfl)) rfl
set_option maxRecDepth 20000 in
theorem itX1 : Cond.initialized RX1 ∈ ztb := ztb_in (zc1 (List.mem_of_getElem? (i := 5) rfl)) rfl
set_option maxRecDepth 20000 in
theorem itX0 : Cond.initialized RX0 ∈ ztb := ztb_in (zc1 (List.mem_of_getElem? (i := 6) rfl)) rfl
set_option maxRecDepth 20000 in
theorem itX3 : Cond.initialized RX3 ∈ ztb := ztb_in (zc1 (List.mem_of_getElem? (i := 7) rfl)) rfl
set_option maxRecDepth 20000 in
theorem itX4 : Cond.initialized RX4 ∈ ztb := ztb_in (zc1 (List.mem_of_getElem? (i := 8) rfl)) rfl
set_option maxRecDepth 20000 in
theorem itX5 : Cond.initialized RX5 ∈ ztb := ztb_in (zc1 (List.mem_of_getElem? (i := 9) rfl)) rfl
set_option maxRecDepth 20000 in
theorem kcL_10 : Cond.classLink RL 10 RX8 ∈ ztb := ztb_in (zc1 (List.mem_of_getElem? (i := 24) rfl)) rfl
set_option maxRecDepth 20000 in
theorem inX8 : Cond.instantiable RX8 7 ∈ ztb := ztb_in (zc1 (List.mem_of_getElem? (i := 25) rfl)) rfl
set_option maxRecDepth 20000 in
theorem kcX8_9 : Cond.classLink RX8 9 RX7 ∈ ztb := ztb_in (zc1 (List.mem_of_getElem? (i := 32) rfl)) rfl
set_option maxRecDepth 20000 in
theorem inX7 : Cond.instantiable RX7 2 ∈ ztb := ztb_in (zc1 (List.mem_of_getElem? (i := 33) rfl)) rfl
set_option maxRecDepth 20000 in
theorem kcX8_16 : Cond.classLink RX8 16 RX2 ∈ ztb := ztb_in (zc1 (List.mem_of_getElem? (i := 48) rfl)) rfl
set_option maxRecDepth 20000 in
theorem inX2 : Cond.instantiable RX2 6 ∈ ztb := ztb_in (zc1 (List.mem_of_getElem? (i := 49) rfl)) rfl
set_option maxRecDepth 20000 in
theorem kcX8_25 : Cond.classLink RX8 25 RX6 ∈ ztb := ztb_in (zc1 (List.mem_of_getElem? (i := 74) rfl)) rfl
set_option maxRecDepth 20000 in
theorem inX6 : Cond.instantiable RX6 9 ∈ ztb := ztb_in (zc1 (List.mem_of_getElem? (i := 75) rfl)) rfl
set_option maxRecDepth 20000 in
theorem kcX6_9 : Cond.classLink RX6 9 RX1 ∈ ztb := ztb_in (zc1 (List.mem_of_getElem? (i := 80) rfl)) rfl
set_option maxRecDepth 20000 in
theorem inX1 : Cond.instantiable RX1 2 ∈ ztb := ztb_in (zc1 (List.mem_of_getElem? (i := 81) rfl)) rfl
set_option maxRecDepth 20000 in
theorem kcX6_20 : Cond.classLink RX6 20 RX0 ∈ ztb := ztb_in (zc1 (List.mem_of_getElem? (i := 96) rfl)) rfl
set_option maxRecDepth 20000 in
theorem kcX6_29 : Cond.classLink RX6 29 RX3 ∈ ztb := ztb_in (zc1 (List.mem_of_getElem? (i := 98) rfl)) rfl
set_option maxRecDepth 20000 in
theorem kcX6_35 : Cond.classLink RX6 35 RX4 ∈ ztb := ztb_in (zc1 (List.mem_of_getElem? (i := 100) rfl)) rfl
set_option maxRecDepth 20000 in
theorem inX0 : Cond.instantiable RX0 5 ∈ ztb := ztb_in (zc1 (List.mem_of_getElem? (i := 102) rfl)) rfl
set_option maxRecDepth 20000 in
theorem inX3 : Cond.instantiable RX3 2 ∈ ztb := ztb_in (zc1 (List.mem_of_getElem? (i := 132) rfl)) rfl
set_option maxRecDepth 20000 in
theorem inX4 : Cond.instantiable RX4 14 ∈ ztb := ztb_in (zc1 (List.mem_of_getElem? (i := 146) rfl)) rfl
set_option maxRecDepth 20000 in
theorem kcX8_35 : Cond.classLink RX8 35 RX5 ∈ ztb := ztb_in (zc2 (List.mem_of_getElem? (i := 1) rfl)) rfl
set_option maxRecDepth 20000 in
theorem inX5 : Cond.instantiable RX5 6 ∈ ztb := ztb_in (zc2 (List.mem_of_getElem? (i := 3) rfl)) rfl
set_option maxRecDepth 20000 in
theorem kcX2_42 : Cond.classLink RX2 42 RX1 ∈ ztb := ztb_in (zc4 (List.mem_of_getElem? (i := 65) rfl)) rfl
