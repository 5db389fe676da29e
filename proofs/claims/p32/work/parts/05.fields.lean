/-! ===== fields by the constant pools ===== -/
set_option maxRecDepth 20000 in
theorem fX7_9 : zFd RX7 9 7 0 := ⟨by decide, by decide, rfl, Or.inl (ztb_in (zc1 (List.mem_of_getElem? (i := 38) rfl)) rfl)⟩
set_option maxRecDepth 20000 in
theorem fX7_15 : zFd RX7 15 7 1 := ⟨by decide, by decide, rfl, Or.inl (ztb_in (zc1 (List.mem_of_getElem? (i := 39) rfl)) rfl)⟩
set_option maxRecDepth 20000 in
theorem fX2_37 : zFd RX2 37 7 1 := ⟨by decide, by decide, rfl, Or.inr ⟨"Daemonsheet", (zc1 (List.mem_of_getElem? (i := 40) rfl))⟩⟩
set_option maxRecDepth 20000 in
theorem fX8_84 : zFd RX8 84 7 1 := ⟨by decide, by decide, rfl, Or.inr ⟨"Daemonsheet", (zc1 (List.mem_of_getElem? (i := 41) rfl))⟩⟩
set_option maxRecDepth 20000 in
theorem fX2_29 : zFd RX2 29 2 0 := ⟨by decide, by decide, rfl, Or.inl (ztb_in (zc1 (List.mem_of_getElem? (i := 54) rfl)) rfl)⟩
set_option maxRecDepth 20000 in
theorem fX2_9 : zFd RX2 9 2 1 := ⟨by decide, by decide, rfl, Or.inl (ztb_in (zc1 (List.mem_of_getElem? (i := 55) rfl)) rfl)⟩
set_option maxRecDepth 20000 in
theorem fX2_15 : zFd RX2 15 2 2 := ⟨by decide, by decide, rfl, Or.inl (ztb_in (zc1 (List.mem_of_getElem? (i := 56) rfl)) rfl)⟩
set_option maxRecDepth 20000 in
theorem fX2_19 : zFd RX2 19 2 3 := ⟨by decide, by decide, rfl, Or.inl (ztb_in (zc1 (List.mem_of_getElem? (i := 57) rfl)) rfl)⟩
set_option maxRecDepth 20000 in
theorem fX2_22 : zFd RX2 22 2 4 := ⟨by decide, by decide, rfl, Or.inl (ztb_in (zc1 (List.mem_of_getElem? (i := 58) rfl)) rfl)⟩
set_option maxRecDepth 20000 in
theorem fX2_25 : zFd RX2 25 2 5 := ⟨by decide, by decide, rfl, Or.inl (ztb_in (zc1 (List.mem_of_getElem? (i := 59) rfl)) rfl)⟩
set_option maxRecDepth 20000 in
theorem fX1_7 : zFd RX1 7 1 0 := ⟨by decide, by decide, rfl, Or.inl (ztb_in (zc1 (List.mem_of_getElem? (i := 86) rfl)) rfl)⟩
set_option maxRecDepth 20000 in
theorem fX6_229 : zFd RX6 229 1 0 := ⟨by decide, by decide, rfl, Or.inr ⟨"Daemonsheet", (zc1 (List.mem_of_getElem? (i := 87) rfl))⟩⟩
set_option maxRecDepth 20000 in
theorem fX1_13 : zFd RX1 13 1 1 := ⟨by decide, by decide, rfl, Or.inl (ztb_in (zc1 (List.mem_of_getElem? (i := 88) rfl)) rfl)⟩
set_option maxRecDepth 20000 in
theorem fX8_101 : zFd RX8 101 1 1 := ⟨by decide, by decide, rfl, Or.inr ⟨"Daemonsheet", (zc1 (List.mem_of_getElem? (i := 89) rfl))⟩⟩
set_option maxRecDepth 20000 in
theorem fX6_196 : zFd RX6 196 1 1 := ⟨by decide, by decide, rfl, Or.inr ⟨"Daemonsheet", (zc1 (List.mem_of_getElem? (i := 90) rfl))⟩⟩
set_option maxRecDepth 20000 in
theorem fX0_20 : zFd RX0 20 0 0 := ⟨by decide, by decide, rfl, Or.inl (ztb_in (zc1 (List.mem_of_getElem? (i := 107) rfl)) rfl)⟩
set_option maxRecDepth 20000 in
theorem fX6_130 : zFd RX6 130 0 0 := ⟨by decide, by decide, rfl, Or.inr ⟨"Daemonsheet", (zc1 (List.mem_of_getElem? (i := 108) rfl))⟩⟩
set_option maxRecDepth 20000 in
theorem fX0_23 : zFd RX0 23 0 1 := ⟨by decide, by decide, rfl, Or.inl (ztb_in (zc1 (List.mem_of_getElem? (i := 109) rfl)) rfl)⟩
set_option maxRecDepth 20000 in
theorem fX6_62 : zFd RX6 62 0 1 := ⟨by decide, by decide, rfl, Or.inr ⟨"Daemonsheet", (zc1 (List.mem_of_getElem? (i := 110) rfl))⟩⟩
set_option maxRecDepth 20000 in
theorem fX8_172 : zFd RX8 172 0 1 := ⟨by decide, by decide, rfl, Or.inr ⟨"Daemonsheet", (zc1 (List.mem_of_getElem? (i := 111) rfl))⟩⟩
set_option maxRecDepth 20000 in
theorem fX0_7 : zFd RX0 7 0 2 := ⟨by decide, by decide, rfl, Or.inl (ztb_in (zc1 (List.mem_of_getElem? (i := 112) rfl)) rfl)⟩
set_option maxRecDepth 20000 in
theorem fX6_65 : zFd RX6 65 0 2 := ⟨by decide, by decide, rfl, Or.inr ⟨"Daemonsheet", (zc1 (List.mem_of_getElem? (i := 113) rfl))⟩⟩
set_option maxRecDepth 20000 in
theorem fX8_169 : zFd RX8 169 0 2 := ⟨by decide, by decide, rfl, Or.inr ⟨"Daemonsheet", (zc1 (List.mem_of_getElem? (i := 114) rfl))⟩⟩
set_option maxRecDepth 20000 in
theorem fX0_13 : zFd RX0 13 0 3 := ⟨by decide, by decide, rfl, Or.inl (ztb_in (zc1 (List.mem_of_getElem? (i := 115) rfl)) rfl)⟩
set_option maxRecDepth 20000 in
theorem fX8_180 : zFd RX8 180 0 3 := ⟨by decide, by decide, rfl, Or.inr ⟨"Daemonsheet", (zc1 (List.mem_of_getElem? (i := 116) rfl))⟩⟩
set_option maxRecDepth 20000 in
theorem fX6_246 : zFd RX6 246 0 3 := ⟨by decide, by decide, rfl, Or.inr ⟨"Daemonsheet", (zc1 (List.mem_of_getElem? (i := 117) rfl))⟩⟩
set_option maxRecDepth 20000 in
theorem fX0_16 : zFd RX0 16 0 4 := ⟨by decide, by decide, rfl, Or.inl (ztb_in (zc1 (List.mem_of_getElem? (i := 118) rfl)) rfl)⟩
set_option maxRecDepth 20000 in
theorem fX6_68 : zFd RX6 68 0 4 := ⟨by decide, by decide, rfl, Or.inr ⟨"Daemonsheet", (zc1 (List.mem_of_getElem? (i := 119) rfl))⟩⟩
set_option maxRecDepth 20000 in
theorem fX8_127 : zFd RX8 127 0 4 := ⟨by decide, by decide, rfl, Or.inr ⟨"Daemonsheet", (zc1 (List.mem_of_getElem? (i := 120) rfl))⟩⟩
set_option maxRecDepth 20000 in
theorem fX3_9 : zFd RX3 9 3 0 := ⟨by decide, by decide, rfl, Or.inl (ztb_in (zc1 (List.mem_of_getElem? (i := 137) rfl)) rfl)⟩
set_option maxRecDepth 20000 in
theorem fX6_72 : zFd RX6 72 3 0 := ⟨by decide, by decide, rfl, Or.inr ⟨"Daemonsheet", (zc1 (List.mem_of_getElem? (i := 138) rfl))⟩⟩
set_option maxRecDepth 20000 in
theorem fX3_15 : zFd RX3 15 3 1 := ⟨by decide, by decide, rfl, Or.inl (ztb_in (zc1 (List.mem_of_getElem? (i := 139) rfl)) rfl)⟩
set_option maxRecDepth 20000 in
theorem fX6_73 : zFd RX6 73 3 1 := ⟨by decide, by decide, rfl, Or.inr ⟨"Daemonsheet", (zc1 (List.mem_of_getElem? (i := 140) rfl))⟩⟩
set_option maxRecDepth 20000 in
theorem fX4_51 : zFd RX4 51 4 0 := ⟨by decide, by decide, rfl, Or.inl (ztb_in (zc1 (List.mem_of_getElem? (i := 151) rfl)) rfl)⟩
set_option maxRecDepth 20000 in
theorem fX6_195 : zFd RX6 195 4 0 := ⟨by decide, by decide, rfl, Or.inr ⟨"Daemonsheet", (zc1 (List.mem_of_getElem? (i := 152) rfl))⟩⟩
set_option maxRecDepth 20000 in
theorem fX4_9 : zFd RX4 9 4 1 := ⟨by decide, by decide, rfl, Or.inl (ztb_in (zc1 (List.mem_of_getElem? (i := 153) rfl)) rfl)⟩
set_option maxRecDepth 20000 in
theorem fX6_159 : zFd RX6 159 4 1 := ⟨by decide, by decide, rfl, Or.inr ⟨"Daemonsheet", (zc1 (List.mem_of_getElem? (i := 154) rfl))⟩⟩
set_option maxRecDepth 20000 in
theorem fX8_151 : zFd RX8 151 4 1 := ⟨by decide, by decide, rfl, Or.inr ⟨"Daemonsheet", (zc1 (List.mem_of_getElem? (i := 155) rfl))⟩⟩
set_option maxRecDepth 20000 in
theorem fX4_15 : zFd RX4 15 4 2 := ⟨by decide, by decide, rfl, Or.inl (ztb_in (zc1 (List.mem_of_getElem? (i := 156) rfl)) rfl)⟩
set_option maxRecDepth 20000 in
theorem fX6_138 : zFd RX6 138 4 2 := ⟨by decide, by decide, rfl, Or.inr ⟨"Daemonsheet", (zc1 (List.mem_of_getElem? (i := 157) rfl))⟩⟩
set_option maxRecDepth 20000 in
theorem fX4_18 : zFd RX4 18 4 3 := ⟨by decide, by decide, rfl, Or.inl (ztb_in (zc1 (List.mem_of_getElem? (i := 158) rfl)) rfl)⟩
set_option maxRecDepth 20000 in
theorem fX6_141 : zFd RX6 141 4 3 := ⟨by decide, by decide, rfl, Or.inr ⟨"Daemonsheet", (zc1 (List.mem_of_getElem? (i := 159) rfl))⟩⟩
set_option maxRecDepth 20000 in
theorem fX4_21 : zFd RX4 21 4 4 := ⟨by decide, by decide, rfl, Or.inl (ztb_in (zc1 (List.mem_of_getElem? (i := 160) rfl)) rfl)⟩
set_option maxRecDepth 20000 in
theorem fX6_153 : zFd RX6 153 4 4 := ⟨by decide, by decide, rfl, Or.inr ⟨"Daemonsheet", (zc1 (List.mem_of_getElem? (i := 161) rfl))⟩⟩
set_option maxRecDepth 20000 in
theorem fX4_24 : zFd RX4 24 4 5 := ⟨by decide, by decide, rfl, Or.inl (ztb_in (zc1 (List.mem_of_getElem? (i := 162) rfl)) rfl)⟩
set_option maxRecDepth 20000 in
theorem fX6_144 : zFd RX6 144 4 5 := ⟨by decide, by decide, rfl, Or.inr ⟨"Daemonsheet", (zc1 (List.mem_of_getElem? (i := 163) rfl))⟩⟩
set_option maxRecDepth 20000 in
theorem fX4_27 : zFd RX4 27 4 6 := ⟨by decide, by decide, rfl, Or.inl (ztb_in (zc1 (List.mem_of_getElem? (i := 164) rfl)) rfl)⟩
set_option maxRecDepth 20000 in
theorem fX6_150 : zFd RX6 150 4 6 := ⟨by decide, by decide, rfl, Or.inr ⟨"Daemonsheet", (zc1 (List.mem_of_getElem? (i := 165) rfl))⟩⟩
set_option maxRecDepth 20000 in
theorem fX4_30 : zFd RX4 30 4 7 := ⟨by decide, by decide, rfl, Or.inl (ztb_in (zc1 (List.mem_of_getElem? (i := 166) rfl)) rfl)⟩
set_option maxRecDepth 20000 in
theorem fX6_156 : zFd RX6 156 4 7 := ⟨by decide, by decide, rfl, Or.inr ⟨"Daemonsheet", (zc1 (List.mem_of_getElem? (i := 167) rfl))⟩⟩
set_option maxRecDepth 20000 in
theorem fX4_33 : zFd RX4 33 4 8 := ⟨by decide, by decide, rfl, Or.inl (ztb_in (zc1 (List.mem_of_getElem? (i := 168) rfl)) rfl)⟩
set_option maxRecDepth 20000 in
theorem fX6_177 : zFd RX6 177 4 8 := ⟨by decide, by decide, rfl, Or.inr ⟨"Daemonsheet", (zc1 (List.mem_of_getElem? (i := 169) rfl))⟩⟩
set_option maxRecDepth 20000 in
theorem fX8_189 : zFd RX8 189 4 8 := ⟨by decide, by decide, rfl, Or.inr ⟨"Daemonsheet", (zc1 (List.mem_of_getElem? (i := 170) rfl))⟩⟩
set_option maxRecDepth 20000 in
theorem fX4_36 : zFd RX4 36 4 9 := ⟨by decide, by decide, rfl, Or.inl (ztb_in (zc1 (List.mem_of_getElem? (i := 171) rfl)) rfl)⟩
set_option maxRecDepth 20000 in
theorem fX6_192 : zFd RX6 192 4 9 := ⟨by decide, by decide, rfl, Or.inr ⟨"Daemonsheet", (zc1 (List.mem_of_getElem? (i := 172) rfl))⟩⟩
set_option maxRecDepth 20000 in
theorem fX8_192 : zFd RX8 192 4 9 := ⟨by decide, by decide, rfl, Or.inr ⟨"Daemonsheet", (zc1 (List.mem_of_getElem? (i := 173) rfl))⟩⟩
set_option maxRecDepth 20000 in
theorem fX4_39 : zFd RX4 39 4 10 := ⟨by decide, by decide, rfl, Or.inl (ztb_in (zc1 (List.mem_of_getElem? (i := 174) rfl)) rfl)⟩
set_option maxRecDepth 20000 in
theorem fX8_195 : zFd RX8 195 4 10 := ⟨by decide, by decide, rfl, Or.inr ⟨"Daemonsheet", (zc1 (List.mem_of_getElem? (i := 175) rfl))⟩⟩
set_option maxRecDepth 20000 in
theorem fX4_42 : zFd RX4 42 4 11 := ⟨by decide, by decide, rfl, Or.inl (ztb_in (zc1 (List.mem_of_getElem? (i := 176) rfl)) rfl)⟩
set_option maxRecDepth 20000 in
theorem fX4_45 : zFd RX4 45 4 12 := ⟨by decide, by decide, rfl, Or.inl (ztb_in (zc1 (List.mem_of_getElem? (i := 177) rfl)) rfl)⟩
set_option maxRecDepth 20000 in
theorem fX4_48 : zFd RX4 48 4 13 := ⟨by decide, by decide, rfl, Or.inl (ztb_in (zc1 (List.mem_of_getElem? (i := 178) rfl)) rfl)⟩
set_option maxRecDepth 20000 in
theorem fX6_174 : zFd RX6 174 4 13 := ⟨by decide, by decide, rfl, Or.inr ⟨"Daemonsheet", (zc1 (List.mem_of_getElem? (i := 179) rfl))⟩⟩
set_option maxRecDepth 20000 in
theorem fX6_14 : zFd RX6 14 6 0 := ⟨by decide, by decide, rfl, Or.inl (ztb_in (zc1 (List.mem_of_getElem? (i := 209) rfl)) rfl)⟩
set_option maxRecDepth 20000 in
theorem fX6_22 : zFd RX6 22 6 1 := ⟨by decide, by decide, rfl, Or.inl (ztb_in (zc1 (List.mem_of_getElem? (i := 210) rfl)) rfl)⟩
set_option maxRecDepth 20000 in
theorem fX8_123 : zFd RX8 123 6 1 := ⟨by decide, by decide, rfl, Or.inr ⟨"Daemonsheet", (zc1 (List.mem_of_getElem? (i := 211) rfl))⟩⟩
set_option maxRecDepth 20000 in
theorem fX6_26 : zFd RX6 26 6 2 := ⟨by decide, by decide, rfl, Or.inl (ztb_in (zc1 (List.mem_of_getElem? (i := 212) rfl)) rfl)⟩
set_option maxRecDepth 20000 in
theorem fX6_31 : zFd RX6 31 6 3 := ⟨by decide, by decide, rfl, Or.inl (ztb_in (zc1 (List.mem_of_getElem? (i := 213) rfl)) rfl)⟩
set_option maxRecDepth 20000 in
theorem fX6_37 : zFd RX6 37 6 4 := ⟨by decide, by decide, rfl, Or.inl (ztb_in (zc1 (List.mem_of_getElem? (i := 214) rfl)) rfl)⟩
set_option maxRecDepth 20000 in
theorem fX8_147 : zFd RX8 147 6 4 := ⟨by decide, by decide, rfl, Or.inr ⟨"Daemonsheet", (zc1 (List.mem_of_getElem? (i := 215) rfl))⟩⟩
set_option maxRecDepth 20000 in
theorem fX6_41 : zFd RX6 41 6 5 := ⟨by decide, by decide, rfl, Or.inl (ztb_in (zc1 (List.mem_of_getElem? (i := 216) rfl)) rfl)⟩
set_option maxRecDepth 20000 in
theorem fX6_45 : zFd RX6 45 6 6 := ⟨by decide, by decide, rfl, Or.inl (ztb_in (zc1 (List.mem_of_getElem? (i := 217) rfl)) rfl)⟩
set_option maxRecDepth 20000 in
theorem fX6_49 : zFd RX6 49 6 7 := ⟨by decide, by decide, rfl, Or.inl (ztb_in (zc1 (List.mem_of_getElem? (i := 218) rfl)) rfl)⟩
set_option maxRecDepth 20000 in
theorem fX8_158 : zFd RX8 158 6 7 := ⟨by decide, by decide, rfl, Or.inr ⟨"Daemonsheet", (zc1 (List.mem_of_getElem? (i := 219) rfl))⟩⟩
set_option maxRecDepth 20000 in
theorem fX6_52 : zFd RX6 52 6 8 := ⟨by decide, by decide, rfl, Or.inl (ztb_in (zc1 (List.mem_of_getElem? (i := 220) rfl)) rfl)⟩
set_option maxRecDepth 20000 in
theorem fX8_186 : zFd RX8 186 6 8 := ⟨by decide, by decide, rfl, Or.inr ⟨"Daemonsheet", (zc1 (List.mem_of_getElem? (i := 221) rfl))⟩⟩
set_option maxRecDepth 20000 in
theorem fX5_7 : zFd RX5 7 5 0 := ⟨by decide, by decide, rfl, Or.inl (ztb_in (zc2 (List.mem_of_getElem? (i := 8) rfl)) rfl)⟩
set_option maxRecDepth 20000 in
theorem fX6_91 : zFd RX6 91 5 0 := ⟨by decide, by decide, rfl, Or.inr ⟨"Daemonsheet", (zc2 (List.mem_of_getElem? (i := 9) rfl))⟩⟩
set_option maxRecDepth 20000 in
theorem fX8_227 : zFd RX8 227 5 0 := ⟨by decide, by decide, rfl, Or.inr ⟨"Daemonsheet", (zc2 (List.mem_of_getElem? (i := 10) rfl))⟩⟩
set_option maxRecDepth 20000 in
theorem fX5_13 : zFd RX5 13 5 1 := ⟨by decide, by decide, rfl, Or.inl (ztb_in (zc2 (List.mem_of_getElem? (i := 11) rfl)) rfl)⟩
set_option maxRecDepth 20000 in
theorem fX6_104 : zFd RX6 104 5 1 := ⟨by decide, by decide, rfl, Or.inr ⟨"Daemonsheet", (zc2 (List.mem_of_getElem? (i := 12) rfl))⟩⟩
set_option maxRecDepth 20000 in
theorem fX5_16 : zFd RX5 16 5 2 := ⟨by decide, by decide, rfl, Or.inl (ztb_in (zc2 (List.mem_of_getElem? (i := 13) rfl)) rfl)⟩
set_option maxRecDepth 20000 in
theorem fX6_124 : zFd RX6 124 5 2 := ⟨by decide, by decide, rfl, Or.inr ⟨"Daemonsheet", (zc2 (List.mem_of_getElem? (i := 14) rfl))⟩⟩
set_option maxRecDepth 20000 in
theorem fX5_19 : zFd RX5 19 5 3 := ⟨by decide, by decide, rfl, Or.inl (ztb_in (zc2 (List.mem_of_getElem? (i := 15) rfl)) rfl)⟩
set_option maxRecDepth 20000 in
theorem fX6_147 : zFd RX6 147 5 3 := ⟨by decide, by decide, rfl, Or.inr ⟨"Daemonsheet", (zc2 (List.mem_of_getElem? (i := 16) rfl))⟩⟩
set_option maxRecDepth 20000 in
theorem fX5_22 : zFd RX5 22 5 4 := ⟨by decide, by decide, rfl, Or.inl (ztb_in (zc2 (List.mem_of_getElem? (i := 17) rfl)) rfl)⟩
set_option maxRecDepth 20000 in
theorem fX6_137 : zFd RX6 137 5 4 := ⟨by decide, by decide, rfl, Or.inr ⟨"Daemonsheet", (zc2 (List.mem_of_getElem? (i := 18) rfl))⟩⟩
set_option maxRecDepth 20000 in
theorem fX5_26 : zFd RX5 26 5 5 := ⟨by decide, by decide, rfl, Or.inl (ztb_in (zc2 (List.mem_of_getElem? (i := 19) rfl)) rfl)⟩
set_option maxRecDepth 20000 in
theorem fX8_230 : zFd RX8 230 5 5 := ⟨by decide, by decide, rfl, Or.inr ⟨"Daemonsheet", (zc2 (List.mem_of_getElem? (i := 20) rfl))⟩⟩
set_option maxRecDepth 20000 in
theorem fX8_12 : zFd RX8 12 8 0 := ⟨by decide, by decide, rfl, Or.inl (ztb_in (zc2 (List.mem_of_getElem? (i := 34) rfl)) rfl)⟩
set_option maxRecDepth 20000 in
theorem fX8_21 : zFd RX8 21 8 1 := ⟨by decide, by decide, rfl, Or.inl (ztb_in (zc2 (List.mem_of_getElem? (i := 35) rfl)) rfl)⟩
set_option maxRecDepth 20000 in
theorem fX8_28 : zFd RX8 28 8 2 := ⟨by decide, by decide, rfl, Or.inl (ztb_in (zc2 (List.mem_of_getElem? (i := 36) rfl)) rfl)⟩
set_option maxRecDepth 20000 in
theorem fX8_32 : zFd RX8 32 8 3 := ⟨by decide, by decide, rfl, Or.inl (ztb_in (zc2 (List.mem_of_getElem? (i := 37) rfl)) rfl)⟩
set_option maxRecDepth 20000 in
theorem fX8_37 : zFd RX8 37 8 4 := ⟨by decide, by decide, rfl, Or.inl (ztb_in (zc2 (List.mem_of_getElem? (i := 38) rfl)) rfl)⟩
set_option maxRecDepth 20000 in
theorem fX8_41 : zFd RX8 41 8 5 := ⟨by decide, by decide, rfl, Or.inl (ztb_in (zc2 (List.mem_of_getElem? (i := 39) rfl)) rfl)⟩
set_option maxRecDepth 20000 in
theorem fX8_48 : zFd RX8 48 8 6 := ⟨by decide, by decide, rfl, Or.inl (ztb_in (zc2 (List.mem_of_getElem? (i := 40) rfl)) rfl)⟩
