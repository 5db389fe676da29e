/-! ===== methods over what was there before: nothing is made, nothing is written ===== -/
theorem dJ0_length_0 : decode cJ0_length_8abf5 0 = .ok (.aload_n 0, 1) := by decide +kernel
theorem dJ0_length_1 : decode cJ0_length_8abf5 1 = .ok (.getfield 9, 3) := by decide +kernel
theorem dJ0_length_4 : decode cJ0_length_8abf5 4 = .ok (.arraylength, 1) := by decide +kernel
theorem dJ0_length_5 : decode cJ0_length_8abf5 5 = .ok (.aload_n 0, 1) := by decide +kernel
theorem dJ0_length_6 : decode cJ0_length_8abf5 6 = .ok (.invokevirtual 335, 3) := by decide +kernel
theorem dJ0_length_9 : decode cJ0_length_8abf5 9 = .ok (.ishr, 1) := by decide +kernel
theorem dJ0_length_10 : decode cJ0_length_8abf5 10 = .ok (.ireturn, 1) := by decide +kernel
abbrev mJ0_length : zM := (yJ0_length_8abf5, cJ0_length_8abf5, 1, some .int)
set_option maxRecDepth 20000 in
theorem mfJ0_length : zMf mJ0_length 0 := ⟨ztb_in (zc3 (List.mem_of_getElem? (i := 146) rfl)) rfl, ztb_in (zc1 (List.mem_of_getElem? (i := 15) rfl)) rfl, ⟨by decide +kernel, by decide +kernel, by decide +kernel⟩, by decide⟩
theorem mpJ0_length : plainName mJ0_length.1.cls = true := by decide +kernel
set_option maxRecDepth 20000 in
theorem miJ0_length : Cond.instanceMethod mJ0_length.1 ∈ ztb := ztb_in (zc3 (List.mem_of_getElem? (i := 144) rfl)) rfl
set_option maxRecDepth 20000 in
theorem msJ0_length : Cond.selects mJ0_length.1.cls mJ0_length.1 mJ0_length.1 ∈ ztb := ztb_in (zc3 (List.mem_of_getElem? (i := 145) rfl)) rfl
theorem dJ0_indexOf1_0 : decode cJ0_indexOf_0f7a4 0 = .ok (.aload_n 0, 1) := by decide +kernel
theorem dJ0_indexOf1_1 : decode cJ0_indexOf_0f7a4 1 = .ok (.iload_n 1, 1) := by decide +kernel
theorem dJ0_indexOf1_2 : decode cJ0_indexOf_0f7a4 2 = .ok (.iconst 0, 1) := by decide +kernel
theorem dJ0_indexOf1_3 : decode cJ0_indexOf_0f7a4 3 = .ok (.invokevirtual 633, 3) := by decide +kernel
theorem dJ0_indexOf1_6 : decode cJ0_indexOf_0f7a4 6 = .ok (.ireturn, 1) := by decide +kernel
abbrev mJ0_indexOf1 : zM := (yJ0_indexOf_0f7a4, cJ0_indexOf_0f7a4, 2, some .int)
set_option maxRecDepth 20000 in
theorem mfJ0_indexOf1 : zMf mJ0_indexOf1 1 := ⟨ztb_in (zc3 (List.mem_of_getElem? (i := 132) rfl)) rfl, ztb_in (zc1 (List.mem_of_getElem? (i := 15) rfl)) rfl, ⟨by decide +kernel, by decide +kernel, by decide +kernel⟩, by decide⟩
theorem mpJ0_indexOf1 : plainName mJ0_indexOf1.1.cls = true := by decide +kernel
set_option maxRecDepth 20000 in
theorem miJ0_indexOf1 : Cond.instanceMethod mJ0_indexOf1.1 ∈ ztb := ztb_in (zc3 (List.mem_of_getElem? (i := 130) rfl)) rfl
set_option maxRecDepth 20000 in
theorem msJ0_indexOf1 : Cond.selects mJ0_indexOf1.1.cls mJ0_indexOf1.1 mJ0_indexOf1.1 ∈ ztb := ztb_in (zc3 (List.mem_of_getElem? (i := 131) rfl)) rfl
theorem dJ0_indexOf2_0 : decode cJ0_indexOf_7cf53 0 = .ok (.aload_n 0, 1) := by decide +kernel
theorem dJ0_indexOf2_1 : decode cJ0_indexOf_7cf53 1 = .ok (.invokevirtual 492, 3) := by decide +kernel
theorem dJ0_indexOf2_4 : decode cJ0_indexOf_7cf53 4 = .ok (.ifCond .eq 19, 3) := by decide +kernel
theorem dJ0_indexOf2_7 : decode cJ0_indexOf_7cf53 7 = .ok (.aload_n 0, 1) := by decide +kernel
theorem dJ0_indexOf2_8 : decode cJ0_indexOf_7cf53 8 = .ok (.getfield 9, 3) := by decide +kernel
theorem dJ0_indexOf2_11 : decode cJ0_indexOf_7cf53 11 = .ok (.iload_n 1, 1) := by decide +kernel
theorem dJ0_indexOf2_12 : decode cJ0_indexOf_7cf53 12 = .ok (.iload_n 2, 1) := by decide +kernel
theorem dJ0_indexOf2_13 : decode cJ0_indexOf_7cf53 13 = .ok (.aload_n 0, 1) := by decide +kernel
theorem dJ0_indexOf2_14 : decode cJ0_indexOf_7cf53 14 = .ok (.invokevirtual 505, 3) := by decide +kernel
theorem dJ0_indexOf2_17 : decode cJ0_indexOf_7cf53 17 = .ok (.invokestatic 637, 3) := by decide +kernel
theorem dJ0_indexOf2_20 : decode cJ0_indexOf_7cf53 20 = .ok (.goto 16, 3) := by decide +kernel
theorem dJ0_indexOf2_23 : decode cJ0_indexOf_7cf53 23 = .ok (.aload_n 0, 1) := by decide +kernel
theorem dJ0_indexOf2_24 : decode cJ0_indexOf_7cf53 24 = .ok (.getfield 9, 3) := by decide +kernel
theorem dJ0_indexOf2_27 : decode cJ0_indexOf_7cf53 27 = .ok (.iload_n 1, 1) := by decide +kernel
theorem dJ0_indexOf2_28 : decode cJ0_indexOf_7cf53 28 = .ok (.iload_n 2, 1) := by decide +kernel
theorem dJ0_indexOf2_29 : decode cJ0_indexOf_7cf53 29 = .ok (.aload_n 0, 1) := by decide +kernel
theorem dJ0_indexOf2_30 : decode cJ0_indexOf_7cf53 30 = .ok (.invokevirtual 505, 3) := by decide +kernel
theorem dJ0_indexOf2_33 : decode cJ0_indexOf_7cf53 33 = .ok (.invokestatic 640, 3) := by decide +kernel
theorem dJ0_indexOf2_36 : decode cJ0_indexOf_7cf53 36 = .ok (.ireturn, 1) := by decide +kernel
abbrev mJ0_indexOf2 : zM := (yJ0_indexOf_7cf53, cJ0_indexOf_7cf53, 3, some .int)
set_option maxRecDepth 20000 in
theorem mfJ0_indexOf2 : zMf mJ0_indexOf2 2 := ⟨ztb_in (zc3 (List.mem_of_getElem? (i := 136) rfl)) rfl, ztb_in (zc1 (List.mem_of_getElem? (i := 15) rfl)) rfl, ⟨by decide +kernel, by decide +kernel, by decide +kernel⟩, by decide⟩
theorem mpJ0_indexOf2 : plainName mJ0_indexOf2.1.cls = true := by decide +kernel
set_option maxRecDepth 20000 in
theorem miJ0_indexOf2 : Cond.instanceMethod mJ0_indexOf2.1 ∈ ztb := ztb_in (zc3 (List.mem_of_getElem? (i := 134) rfl)) rfl
set_option maxRecDepth 20000 in
theorem msJ0_indexOf2 : Cond.selects mJ0_indexOf2.1.cls mJ0_indexOf2.1 mJ0_indexOf2.1 ∈ ztb := ztb_in (zc3 (List.mem_of_getElem? (i := 135) rfl)) rfl
theorem dJ0_coder_0 : decode cJ0_coder_7d493 0 = .ok (.getstatic 38, 3) := by decide +kernel
theorem dJ0_coder_3 : decode cJ0_coder_7d493 3 = .ok (.ifCond .eq 10, 3) := by decide +kernel
theorem dJ0_coder_6 : decode cJ0_coder_7d493 6 = .ok (.aload_n 0, 1) := by decide +kernel
theorem dJ0_coder_7 : decode cJ0_coder_7d493 7 = .ok (.getfield 15, 3) := by decide +kernel
theorem dJ0_coder_10 : decode cJ0_coder_7d493 10 = .ok (.goto 4, 3) := by decide +kernel
theorem dJ0_coder_13 : decode cJ0_coder_7d493 13 = .ok (.iconst 1, 1) := by decide +kernel
theorem dJ0_coder_14 : decode cJ0_coder_7d493 14 = .ok (.ireturn, 1) := by decide +kernel
abbrev mJ0_coder : zM := (yJ0_coder_7d493, cJ0_coder_7d493, 1, some .byte)
set_option maxRecDepth 20000 in
theorem mfJ0_coder : zMf mJ0_coder 0 := ⟨ztb_in (zc3 (List.mem_of_getElem? (i := 150) rfl)) rfl, ztb_in (zc1 (List.mem_of_getElem? (i := 15) rfl)) rfl, ⟨by decide +kernel, by decide +kernel, by decide +kernel⟩, by decide⟩
theorem mpJ0_coder : plainName mJ0_coder.1.cls = true := by decide +kernel
set_option maxRecDepth 20000 in
theorem miJ0_coder : Cond.instanceMethod mJ0_coder.1 ∈ ztb := ztb_in (zc3 (List.mem_of_getElem? (i := 148) rfl)) rfl
set_option maxRecDepth 20000 in
theorem msJ0_coder : Cond.selects mJ0_coder.1.cls mJ0_coder.1 mJ0_coder.1 ∈ ztb := ztb_in (zc3 (List.mem_of_getElem? (i := 149) rfl)) rfl
theorem dJ0_isLatin1_0 : decode cJ0_isLatin1_aae02 0 = .ok (.getstatic 38, 3) := by decide +kernel
theorem dJ0_isLatin1_3 : decode cJ0_isLatin1_aae02 3 = .ok (.ifCond .eq 14, 3) := by decide +kernel
theorem dJ0_isLatin1_6 : decode cJ0_isLatin1_aae02 6 = .ok (.aload_n 0, 1) := by decide +kernel
theorem dJ0_isLatin1_7 : decode cJ0_isLatin1_aae02 7 = .ok (.getfield 15, 3) := by decide +kernel
theorem dJ0_isLatin1_10 : decode cJ0_isLatin1_aae02 10 = .ok (.ifCond .ne 7, 3) := by decide +kernel
theorem dJ0_isLatin1_13 : decode cJ0_isLatin1_aae02 13 = .ok (.iconst 1, 1) := by decide +kernel
theorem dJ0_isLatin1_14 : decode cJ0_isLatin1_aae02 14 = .ok (.goto 4, 3) := by decide +kernel
theorem dJ0_isLatin1_17 : decode cJ0_isLatin1_aae02 17 = .ok (.iconst 0, 1) := by decide +kernel
theorem dJ0_isLatin1_18 : decode cJ0_isLatin1_aae02 18 = .ok (.ireturn, 1) := by decide +kernel
abbrev mJ0_isLatin1 : zM := (yJ0_isLatin1_aae02, cJ0_isLatin1_aae02, 1, some .boolean)
set_option maxRecDepth 20000 in
theorem mfJ0_isLatin1 : zMf mJ0_isLatin1 0 := ⟨ztb_in (zc3 (List.mem_of_getElem? (i := 140) rfl)) rfl, ztb_in (zc1 (List.mem_of_getElem? (i := 15) rfl)) rfl, ⟨by decide +kernel, by decide +kernel, by decide +kernel⟩, by decide⟩
theorem mpJ0_isLatin1 : plainName mJ0_isLatin1.1.cls = true := by decide +kernel
set_option maxRecDepth 20000 in
theorem miJ0_isLatin1 : Cond.instanceMethod mJ0_isLatin1.1 ∈ ztb := ztb_in (zc3 (List.mem_of_getElem? (i := 138) rfl)) rfl
set_option maxRecDepth 20000 in
theorem msJ0_isLatin1 : Cond.selects mJ0_isLatin1.1.cls mJ0_isLatin1.1 mJ0_isLatin1.1 ∈ ztb := ztb_in (zc3 (List.mem_of_getElem? (i := 139) rfl)) rfl
theorem dJ1_canEncode_0 : decode cJ1_canEncode_9a6ad 0 = .ok (.iload_n 0, 1) := by decide +kernel
theorem dJ1_canEncode_1 : decode cJ1_canEncode_9a6ad 1 = .ok (.ifCond .lt 14, 3) := by decide +kernel
theorem dJ1_canEncode_4 : decode cJ1_canEncode_9a6ad 4 = .ok (.iload_n 0, 1) := by decide +kernel
theorem dJ1_canEncode_5 : decode cJ1_canEncode_9a6ad 5 = .ok (.sipush 255, 3) := by decide +kernel
theorem dJ1_canEncode_8 : decode cJ1_canEncode_9a6ad 8 = .ok (.if_icmp .gt 7, 3) := by decide +kernel
theorem dJ1_canEncode_11 : decode cJ1_canEncode_9a6ad 11 = .ok (.iconst 1, 1) := by decide +kernel
theorem dJ1_canEncode_12 : decode cJ1_canEncode_9a6ad 12 = .ok (.goto 4, 3) := by decide +kernel
theorem dJ1_canEncode_15 : decode cJ1_canEncode_9a6ad 15 = .ok (.iconst 0, 1) := by decide +kernel
theorem dJ1_canEncode_16 : decode cJ1_canEncode_9a6ad 16 = .ok (.ireturn, 1) := by decide +kernel
abbrev mJ1_canEncode : zM := (yJ1_canEncode_9a6ad, cJ1_canEncode_9a6ad, 1, some .boolean)
set_option maxRecDepth 20000 in
theorem mfJ1_canEncode : zMf mJ1_canEncode 1 := ⟨ztb_in (zc3 (List.mem_of_getElem? (i := 156) rfl)) rfl, ztb_in (zc1 (List.mem_of_getElem? (i := 16) rfl)) rfl, ⟨by decide +kernel, by decide +kernel, by decide +kernel⟩, by decide⟩
theorem mpJ1_canEncode : plainName mJ1_canEncode.1.cls = true := by decide +kernel
set_option maxRecDepth 20000 in
theorem mtJ1_canEncode : Cond.static mJ1_canEncode.1 ∈ ztb := ztb_in (zc3 (List.mem_of_getElem? (i := 155) rfl)) rfl
theorem dJ1_indexOf_0 : decode cJ1_indexOf_4cfef 0 = .ok (.iload_n 1, 1) := by decide +kernel
theorem dJ1_indexOf_1 : decode cJ1_indexOf_4cfef 1 = .ok (.invokestatic 88, 3) := by decide +kernel
theorem dJ1_indexOf_4 : decode cJ1_indexOf_4cfef 4 = .ok (.ifCond .ne 5, 3) := by decide +kernel
theorem dJ1_indexOf_7 : decode cJ1_indexOf_4cfef 7 = .ok (.iconst (-1), 1) := by decide +kernel
theorem dJ1_indexOf_8 : decode cJ1_indexOf_4cfef 8 = .ok (.ireturn, 1) := by decide +kernel
theorem dJ1_indexOf_9 : decode cJ1_indexOf_4cfef 9 = .ok (.iload_n 2, 1) := by decide +kernel
theorem dJ1_indexOf_10 : decode cJ1_indexOf_4cfef 10 = .ok (.iconst 0, 1) := by decide +kernel
theorem dJ1_indexOf_11 : decode cJ1_indexOf_4cfef 11 = .ok (.invokestatic 92, 3) := by decide +kernel
theorem dJ1_indexOf_14 : decode cJ1_indexOf_4cfef 14 = .ok (.istore_n 2, 1) := by decide +kernel
theorem dJ1_indexOf_15 : decode cJ1_indexOf_4cfef 15 = .ok (.iload_n 3, 1) := by decide +kernel
theorem dJ1_indexOf_16 : decode cJ1_indexOf_4cfef 16 = .ok (.aload_n 0, 1) := by decide +kernel
theorem dJ1_indexOf_17 : decode cJ1_indexOf_4cfef 17 = .ok (.arraylength, 1) := by decide +kernel
theorem dJ1_indexOf_18 : decode cJ1_indexOf_4cfef 18 = .ok (.invokestatic 38, 3) := by decide +kernel
theorem dJ1_indexOf_21 : decode cJ1_indexOf_4cfef 21 = .ok (.istore_n 3, 1) := by decide +kernel
theorem dJ1_indexOf_22 : decode cJ1_indexOf_4cfef 22 = .ok (.iload_n 2, 1) := by decide +kernel
theorem dJ1_indexOf_23 : decode cJ1_indexOf_4cfef 23 = .ok (.iload_n 3, 1) := by decide +kernel
theorem dJ1_indexOf_24 : decode cJ1_indexOf_4cfef 24 = .ok (.if_icmp .lt 5, 3) := by decide +kernel
theorem dJ1_indexOf_27 : decode cJ1_indexOf_4cfef 27 = .ok (.iconst (-1), 1) := by decide +kernel
theorem dJ1_indexOf_28 : decode cJ1_indexOf_4cfef 28 = .ok (.ireturn, 1) := by decide +kernel
theorem dJ1_indexOf_29 : decode cJ1_indexOf_4cfef 29 = .ok (.aload_n 0, 1) := by decide +kernel
theorem dJ1_indexOf_30 : decode cJ1_indexOf_4cfef 30 = .ok (.iload_n 1, 1) := by decide +kernel
theorem dJ1_indexOf_31 : decode cJ1_indexOf_4cfef 31 = .ok (.iload_n 2, 1) := by decide +kernel
theorem dJ1_indexOf_32 : decode cJ1_indexOf_4cfef 32 = .ok (.iload_n 3, 1) := by decide +kernel
theorem dJ1_indexOf_33 : decode cJ1_indexOf_4cfef 33 = .ok (.invokestatic 95, 3) := by decide +kernel
theorem dJ1_indexOf_36 : decode cJ1_indexOf_4cfef 36 = .ok (.ireturn, 1) := by decide +kernel
abbrev mJ1_indexOf : zM := (yJ1_indexOf_4cfef, cJ1_indexOf_4cfef, 4, some .int)
set_option maxRecDepth 20000 in
theorem mfJ1_indexOf : zMf mJ1_indexOf 4 := ⟨ztb_in (zc3 (List.mem_of_getElem? (i := 153) rfl)) rfl, ztb_in (zc1 (List.mem_of_getElem? (i := 16) rfl)) rfl, ⟨by decide +kernel, by decide +kernel, by decide +kernel⟩, by decide⟩
theorem mpJ1_indexOf : plainName mJ1_indexOf.1.cls = true := by decide +kernel
set_option maxRecDepth 20000 in
theorem mtJ1_indexOf : Cond.static mJ1_indexOf.1 ∈ ztb := ztb_in (zc3 (List.mem_of_getElem? (i := 152) rfl)) rfl
theorem dJ1_indexOfChar_0 : decode cJ1_indexOfChar_4cfef 0 = .ok (.iload_n 1, 1) := by decide +kernel
theorem dJ1_indexOfChar_1 : decode cJ1_indexOfChar_4cfef 1 = .ok (.i2b, 1) := by decide +kernel
theorem dJ1_indexOfChar_2 : decode cJ1_indexOfChar_4cfef 2 = .ok (.istore 4, 2) := by decide +kernel
theorem dJ1_indexOfChar_4 : decode cJ1_indexOfChar_4cfef 4 = .ok (.iload_n 2, 1) := by decide +kernel
theorem dJ1_indexOfChar_5 : decode cJ1_indexOfChar_4cfef 5 = .ok (.istore 5, 2) := by decide +kernel
theorem dJ1_indexOfChar_7 : decode cJ1_indexOfChar_4cfef 7 = .ok (.iload 5, 2) := by decide +kernel
theorem dJ1_indexOfChar_9 : decode cJ1_indexOfChar_4cfef 9 = .ok (.iload_n 3, 1) := by decide +kernel
theorem dJ1_indexOfChar_10 : decode cJ1_indexOfChar_4cfef 10 = .ok (.if_icmp .ge 21, 3) := by decide +kernel
theorem dJ1_indexOfChar_13 : decode cJ1_indexOfChar_4cfef 13 = .ok (.aload_n 0, 1) := by decide +kernel
theorem dJ1_indexOfChar_14 : decode cJ1_indexOfChar_4cfef 14 = .ok (.iload 5, 2) := by decide +kernel
theorem dJ1_indexOfChar_16 : decode cJ1_indexOfChar_4cfef 16 = .ok (.baload, 1) := by decide +kernel
theorem dJ1_indexOfChar_17 : decode cJ1_indexOfChar_4cfef 17 = .ok (.iload 4, 2) := by decide +kernel
theorem dJ1_indexOfChar_19 : decode cJ1_indexOfChar_4cfef 19 = .ok (.if_icmp .ne 6, 3) := by decide +kernel
theorem dJ1_indexOfChar_22 : decode cJ1_indexOfChar_4cfef 22 = .ok (.iload 5, 2) := by decide +kernel
theorem dJ1_indexOfChar_24 : decode cJ1_indexOfChar_4cfef 24 = .ok (.ireturn, 1) := by decide +kernel
theorem dJ1_indexOfChar_25 : decode cJ1_indexOfChar_4cfef 25 = .ok (.iinc 5 1, 3) := by decide +kernel
theorem dJ1_indexOfChar_28 : decode cJ1_indexOfChar_4cfef 28 = .ok (.goto (-21), 3) := by decide +kernel
theorem dJ1_indexOfChar_31 : decode cJ1_indexOfChar_4cfef 31 = .ok (.iconst (-1), 1) := by decide +kernel
theorem dJ1_indexOfChar_32 : decode cJ1_indexOfChar_4cfef 32 = .ok (.ireturn, 1) := by decide +kernel
abbrev mJ1_indexOfChar : zM := (yJ1_indexOfChar_4cfef, cJ1_indexOfChar_4cfef, 6, some .int)
set_option maxRecDepth 20000 in
theorem mfJ1_indexOfChar : zMf mJ1_indexOfChar 4 := ⟨ztb_in (zc3 (List.mem_of_getElem? (i := 161) rfl)) rfl, ztb_in (zc1 (List.mem_of_getElem? (i := 16) rfl)) rfl, ⟨by decide +kernel, by decide +kernel, by decide +kernel⟩, by decide⟩
theorem mpJ1_indexOfChar : plainName mJ1_indexOfChar.1.cls = true := by decide +kernel
set_option maxRecDepth 20000 in
theorem mtJ1_indexOfChar : Cond.static mJ1_indexOfChar.1 ∈ ztb := ztb_in (zc3 (List.mem_of_getElem? (i := 160) rfl)) rfl
set_option maxRecDepth 20000 in
theorem kj58 : Cond.methodLink "Daemonsheet" 58 mJ0_indexOf1.1 ∈ ztb := ztb_in (zc3 (List.mem_of_getElem? (i := 129) rfl)) rfl
set_option maxRecDepth 20000 in
theorem kj633 : Cond.methodLink "java/lang/String" 633 mJ0_indexOf2.1 ∈ ztb := ztb_in (zc3 (List.mem_of_getElem? (i := 133) rfl)) rfl
set_option maxRecDepth 20000 in
theorem kj492 : Cond.methodLink "java/lang/String" 492 mJ0_isLatin1.1 ∈ ztb := ztb_in (zc3 (List.mem_of_getElem? (i := 137) rfl)) rfl
set_option maxRecDepth 20000 in
theorem kj505 : Cond.methodLink "java/lang/String" 505 mJ0_length.1 ∈ ztb := ztb_in (zc3 (List.mem_of_getElem? (i := 143) rfl)) rfl
set_option maxRecDepth 20000 in
theorem kj335 : Cond.methodLink "java/lang/String" 335 mJ0_coder.1 ∈ ztb := ztb_in (zc3 (List.mem_of_getElem? (i := 147) rfl)) rfl
set_option maxRecDepth 20000 in
theorem kj637 : Cond.methodLink "java/lang/String" 637 mJ1_indexOf.1 ∈ ztb := ztb_in (zc3 (List.mem_of_getElem? (i := 151) rfl)) rfl
set_option maxRecDepth 20000 in
theorem kj88 : Cond.methodLink "java/lang/StringLatin1" 88 mJ1_canEncode.1 ∈ ztb := ztb_in (zc3 (List.mem_of_getElem? (i := 154) rfl)) rfl
set_option maxRecDepth 20000 in
theorem kj95 : Cond.methodLink "java/lang/StringLatin1" 95 mJ1_indexOfChar.1 ∈ ztb := ztb_in (zc3 (List.mem_of_getElem? (i := 159) rfl)) rfl
set_option maxRecDepth 20000 in
theorem kj92 : Cond.methodLink "java/lang/StringLatin1" 92 Lib.Math.max.name ∈ ztb := ztb_in (zc3 (List.mem_of_getElem? (i := 157) rfl)) rfl
set_option maxRecDepth 20000 in
theorem kj38 : Cond.methodLink "java/lang/StringLatin1" 38 Lib.Math.min.name ∈ ztb := ztb_in (zc3 (List.mem_of_getElem? (i := 158) rfl)) rfl
set_option maxRecDepth 20000 in
theorem fj38 : Cond.fieldLink "java/lang/String" 38 "java/lang/String" "COMPACT_STRINGS" "Z" ∈ ztb := ztb_in (zc3 (List.mem_of_getElem? (i := 141) rfl)) rfl
set_option maxRecDepth 20000 in
theorem fj15 : Cond.fieldLink "java/lang/String" 15 "java/lang/String" "coder" "B" ∈ ztb := ztb_in (zc5 (List.mem_of_getElem? (i := 27) rfl)) rfl
set_option maxRecDepth 20000 in
theorem fj9 : Cond.fieldLink "java/lang/String" 9 "java/lang/String" "value" "[B" ∈ ztb := ztb_in (zc5 (List.mem_of_getElem? (i := 28) rfl)) rfl
def sQc (v : Value) : Array Value → State → Outcome → State → Prop := fun _ st o t => o = .returned (some v) ∧ t.heap = st.heap
def sPc (Z : zZ) (av : List Value) : Array Value → State → Prop := fun args U => args = av.toArray ∧ Z.1.WarmedH U.vm ∧ zB Z U.heap
def sCt (l : Launch) (Z : zZ) (m : zM) (k : Nat) (av : List Value) (v : Value) : Prop := Met l m.1 (zws1 m) (zrm k 0 0) (sPc Z av) (sQc v) 0 0 (zA Z)
def sFn (τ : zT) (v : Value) : State → Prop := MQ τ.2.2.2.2.2.2.2.1 (sQc v) τ.2.2.2.2.2.2.1 τ.2.2.2.2.1 0 0 (zA τ.2.2.2.2.2.2.2.2.2.2.1)
def sL (τ : zT) (locs : List Loc) : Prop := ∀ q ∈ locs, zA τ.2.2.2.2.2.2.2.2.2.2.1 q.base
abbrev sK (τ : zT) (F : State → Prop) (locs : List Loc) (pc : Nat) (ls : Array Slot) (st : List Value) : Prop := zW τ τ.2.2.2.2.1.heap locs 0 0 F (zF0 τ pc ls st)
theorem sPc_blind (Z : zZ) (av : List Value) : FrameBlind (sPc Z av) := fun _ _ _ _ h => h
theorem sCt_of {l : Launch} {Z : zZ} (hZ : zSt l Z) {m : zM} {k : Nat} {av : List Value} {v : Value} {lv : List (Nat × Value)} (hy : plainName m.1.cls = true) (hlen : (lg_sl av).length ≤ m.2.2.1) (hlv : lv_args 0 av = lv)
    (body : ∀ (τ : zT) (ls : Array Slot), zCy l Z τ m k 0 0 → lv_has ls m.2.2.1 lv → sK τ (sFn τ v) [] 0 ls []) : sCt l Z m k av v := by
  subst hlv
  refine Met.ofW (cc := m.2.1) (maxL := m.2.2.1) (ret := m.2.2.2) hy rfl ?_
  intro p e s mm args below meth c s₁ B hml hv
  obtain ⟨rfl, hW, hB⟩ := hv
  have hts := atoms_spec (ws := zws1 m) B.pre
  have hb := body (p, l, e, (headSpec (zws1 m) (zrm k 0 0)).room, s, mm, av.toArray, below, meth, c, Z, id, 0) _
    ⟨⟨B.exec, B.bytes, hml, B.returns, findClass_of_methodNamed B.named, fun w hw => hts w (List.mem_cons_of_mem _ hw), B.notSynchronized, (name_of_methodNamed B.named B.method).1, hZ, hW, hB, Nat.le_refl _, Nat.le_refl _, Nat.le_refl _, Nat.le_refl _⟩, rfl, rfl⟩ (lv_entry av hlen)
  rw [lg_entry_eq]
  exact hb
theorem s_iret {τ : zT} {M : zM} {kk : Nat} (hT : zCx τ M kk 0 0) {locs : List Loc} (hf : sL τ locs) {pc : Nat} {ls : Array Slot} {v : Int32} {ty : FieldType} (hd : decode M.2.1 pc = .ok (.ireturn, 1)) (hr : M.2.2.2 = some ty) (hn : narrow ty (.int v) = .int v) : sK τ (sFn τ (.int v)) locs pc ls [.int v] :=
  W.zret (v := v) hT.1 hT.2.1 (hT.2.2.2.1.trans hr) hn (fun t ht _ => ⟨rfl, ht⟩) hf hd hT.2.2.2.2.2.2.1
theorem s_back {τ : zT} {F : State → Prop} {H : Heap} {locs : List Loc} {c k : Nat} {pc : Nat} {ls : Array Slot} {st0 rest : List Value} {v : Value} {args : Array Value}
    (hr : va_Run τ.1 τ.2.1 τ.2.2.1 τ.2.2.2.1 τ.2.2.2.2.1 τ.2.2.2.2.2.1 τ.2.2.2.2.2.2.1 τ.2.2.2.2.2.2.2.1 τ.2.2.2.2.2.2.2.2.1 τ.2.2.2.2.2.2.2.2.2.1 H locs c k 0 0 (zF0 τ pc ls st0) rest (sQc v args) (zA τ.2.2.2.2.2.2.2.2.2.2.1)) (hf : sL τ locs)
    (kk : ∀ locs', sL τ locs' → zW τ H locs' c k F (zF0 τ (pc + 3) ls (v :: rest))) : zW τ H locs c k F (zF0 τ pc ls st0) := by
  intro T hT X
  obtain ⟨v', st₀, t, T', L, h0, X', hL, e1, e2, ⟨hv, hh⟩, st⟩ := hr T hT X
  cases hv
  obtain ⟨t2, a1, b1⟩ := kk (locs ++ L) (fun q hq => (List.mem_append.mp hq).elim (hf q) (hL q)) T' (by rw [e1, hh, h0]) X'
  exact ⟨t2, st t2 a1, b1⟩
theorem s_callS {l : Launch} {Z : zZ} {τ : zT} {M : zM} {kk mc ms : Nat} (hY : zCy l Z τ M kk mc ms) {m : zM} {na k' idx : Nat} {as stk rest : List Value} {v : Value} {F : State → Prop} {H : Heap} {locs : List Loc} {c k : Nat} {pc : Nat} {ls : Array Slot} (hd : decode M.2.1 pc = .ok (.invokestatic idx, 3)) (hm : zMf m na) (hsta : Cond.static m.1 ∈ ztb) (hlink : Cond.methodLink M.1.cls idx m.1 ∈ ztb)
    (ct : sCt l Z m k' as v) (hB : zB Z H) (hn : as.length = na) (hkk : k' < kk) (hs : stk = as.reverse ++ rest) (hl : ls.size = M.2.2.1) (h8 : (rest.map fun v => v.category).sum ≤ 8) (hc : c ≤ mc) (hk : k ≤ ms) (hf : sL τ locs)
    (h : ∀ locs', sL τ locs' → zW τ H locs' c k F (zF0 τ (pc + 3) ls (v :: rest))) : zW τ H locs c k F (zF0 τ pc ls stk) := by
  subst hs
  obtain ⟨hT, el, eZ⟩ := hY
  subst el; subst eZ
  obtain ⟨_, _, _, _, _, _, _, _, _, hWm, _, hfr, hlo, hcc, hss⟩ := id hT
  have hp : PreS τ.2.2.2.2.1 H (sPc τ.2.2.2.2.2.2.2.2.2.2.1 as) as := ⟨sPc_blind _ _, fun U hU hWU => ⟨rfl, hWm.trans hWU, by rw [hU]; exact hB⟩⟩
  exact s_back (va_runS (Ts := ztb) ⟨hT.1, hT.2.1, hT.2.2.1, hT.own, hT.ws⟩ ct ⟨callB_of na hT.ws (zpay hm) rfl rfl rfl (hT.ws _ hm.2.1) (hT.ws _ hlink) hm.2.2.1 (zroom hkk hfr hlo hm.2.2.2 0 0), hT.ws _ hsta⟩ hp rfl hn hl rfl (lv_room h8) hd ⟨by omega, by omega⟩) hf h
theorem s_callV {l : Launch} {Z : zZ} {τ : zT} {M : zM} {kk mc ms : Nat} (hY : zCy l Z τ M kk mc ms) {m : zM} {na k' idx b : Nat} {as stk rest : List Value} {v : Value} {F : State → Prop} {H : Heap} {locs : List Loc} {c k : Nat} {pc : Nat} {ls : Array Slot} (hd : decode M.2.1 pc = .ok (.invokevirtual idx, 3)) (hm : zMf m na) (hins : Cond.instanceMethod m.1 ∈ ztb) (hsel : Cond.selects m.1.cls m.1 m.1 ∈ ztb) (hlink : Cond.methodLink M.1.cls idx m.1 ∈ ztb)
    (hcell : ∃ cell : Cell, H[b]? = some cell ∧ cell.vm.isStatics = false ∧ τ.2.2.2.2.1.vm.findClass m.1.cls = some cell.cls) (ct : sCt l Z m k' (.ref b :: as) v) (hB : zB Z H) (hn : as.length = na) (hkk : k' < kk) (hs : stk = as.reverse ++ .ref b :: rest) (hl : ls.size = M.2.2.1) (h8 : (rest.map fun v => v.category).sum ≤ 8) (hc : c ≤ mc) (hk : k ≤ ms) (hf : sL τ locs)
    (h : ∀ locs', sL τ locs' → zW τ H locs' c k F (zF0 τ (pc + 3) ls (v :: rest))) : zW τ H locs c k F (zF0 τ pc ls stk) := by
  subst hs
  obtain ⟨hT, el, eZ⟩ := hY
  subst el; subst eZ
  obtain ⟨_, _, _, _, _, _, _, _, _, hWm, _, hfr, hlo, hcc, hss⟩ := id hT
  have hp : PreV τ.2.2.2.2.1 H m.1.cls b (sPc τ.2.2.2.2.2.2.2.2.2.2.1 (.ref b :: as)) as := ⟨sPc_blind _ _, hcell, fun U hU hWU => ⟨rfl, hWm.trans hWU, by rw [hU]; exact hB⟩⟩
  exact s_back (va_runV (Ts := ztb) (C := m.1.cls) ⟨hT.1, hT.2.1, hT.2.2.1, hT.own, hT.ws⟩ ct ⟨callB_of na hT.ws (zpay hm) rfl rfl rfl (hT.ws _ hm.2.1) (hT.ws _ hlink) hm.2.2.1 (zroom hkk hfr hlo hm.2.2.2 0 0), hT.ws _ hins, hT.ws _ hsel⟩ hp rfl hn hl rfl (lv_room h8) hd ⟨by omega, by omega⟩) hf h
/-- the constant of letters, as the start has it -/
def zStr (A : Nat → Prop) (sa sv : Nat) (U : State) (H : Heap) : Prop := va_O "java/lang/String" sa A U H ∧ va_OF "java/lang/String" "coder" "B" (.int 0) sa A U H ∧ va_OF "java/lang/String" "value" "[B" (.ref sv) sa A U H ∧ va_T .byte sv 15 (fun j => .int (ltrs.getD j 0)) A U H ∧ va_Z "java/lang/String" "COMPACT_STRINGS" "Z" (.int 1) A U H
def zSs (Z : zZ) : Prop := ∃ sa sv, vk_R "Daemonsheet" 56 "crlmni+-*<>=()," sa Z.1 ∧ zStr (zA Z) sa sv Z.1 Z.1.heap
theorem zStr.at {l : Launch} {Z : zZ} {τ : zT} {M : zM} {kk mc ms : Nat} (hY : zCy l Z τ M kk mc ms) {sa sv : Nat} (h : zStr (zA Z) sa sv Z.1 Z.1.heap) {H : Heap} (hB : zB Z H) : zStr (zA τ.2.2.2.2.2.2.2.2.2.2.1) sa sv τ.2.2.2.2.1 H := by
  obtain ⟨hT, el, eZ⟩ := hY
  subst el; subst eZ
  obtain ⟨_, _, _, _, _, _, _, _, _, hW, _, _⟩ := hT
  obtain ⟨h1, h2, h3, h4, h5⟩ := h
  have hq : ∀ a : Nat, a < τ.2.2.2.2.2.2.2.2.2.2.1.1.heap.size → ¬ zA τ.2.2.2.2.2.2.2.2.2.2.1 a → H[a]? = τ.2.2.2.2.2.2.2.2.2.2.1.1.heap[a]? := fun a ha _ => hB.2 a ha
  exact ⟨(va_O.moved hW.alike h1).kept hq, (va_OF.moved hW.alike h2).kept hq, (va_OF.moved hW.alike h3).kept hq, (h4.moved hW.alike).kept hq, (h5.moved hW.alike).kept hq⟩
theorem sL.S {τ : zT} {locs : List Loc} (h : sL τ locs) : va_S (zA τ.2.2.2.2.2.2.2.2.2.2.1) τ.2.2.2.2.1.heap τ.2.2.2.2.1.heap locs := ⟨Nat.le_refl _, fun _ _ _ => rfl, h⟩
/-- where a letter stands -/
def ixF (a : Int32) : List Int32 → Nat → Int32
  | [], _ => -1
  | b :: l, k => if b = a then nI k else ixF a l (k + 1)
theorem ixF_lt (a : Int32) : ∀ (l : List Int32) (k : Nat), k + l.length < 2147483648 → (ixF a l k < 0 ↔ a ∉ l) := by
  intro l
  induction l with
  | nil => intro k _; exact ⟨fun _ h => (nomatch h), fun _ => by show (-1 : Int32) < 0; decide⟩
  | cons b l ih =>
    intro k hk
    rw [List.length_cons] at hk
    unfold ixF
    by_cases h : b = a
    · rw [if_pos h]
      exact ⟨fun q => absurd q (nI_pos (by omega)), fun q => absurd (by rw [h]; exact List.mem_cons_self) q⟩
    · rw [if_neg h, ih (k + 1) (by omega)]
      constructor
      · intro q hm
        rcases List.mem_cons.mp hm with e | e
        · exact h e.symm
        · exact q e
      · intro q hm; exact q (List.mem_cons_of_mem _ hm)
theorem ltr_b : ∀ n, n < 256 → ∀ v, v ∈ ltrs → ((nI n).toInt8.toInt32 = v ↔ nI n = v) := by decide +kernel
theorem ltr_255 : ∀ v, v ∈ ltrs → ¬ v < 0 ∧ ¬ 255 < v := by decide +kernel
theorem ixF_no {a : Int32} : ∀ (l : List Int32) (k : Nat), a ∉ l → ixF a l k = -1 := by
  intro l
  induction l with
  | nil => intro k _; rfl
  | cons b l ih =>
    intro k h
    unfold ixF
    rw [if_neg (fun q => h (by rw [q]; exact List.mem_cons_self)), ih (k + 1) (fun q => h (List.mem_cons_of_mem _ q))]


