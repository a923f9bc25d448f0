/-! the sites of fields and calls (by program) -/
theorem fs_X11_12 : go_FS "BitRecogniser" 12 10 0 := ⟨go_R10, go_T10, 18, "BitRecogniser", rfl, by decide, go_mem_2 121 rfl rfl, Or.inl rfl⟩
theorem fs_X11_19 : go_FS "BitRecogniser" 19 10 1 := ⟨go_R10, go_T10, 18, "BitRecogniser", rfl, by decide, go_mem_2 122 rfl rfl, Or.inl rfl⟩
theorem fs_X11_26 : go_FS "BitRecogniser" 26 10 2 := ⟨go_R10, go_T10, 18, "BitRecogniser", rfl, by decide, go_mem_2 123 rfl rfl, Or.inl rfl⟩
theorem fs_X11_33 : go_FS "BitRecogniser" 33 10 3 := ⟨go_R10, go_T10, 18, "BitRecogniser", rfl, by decide, go_mem_2 124 rfl rfl, Or.inl rfl⟩
theorem fs_X11_42 : go_FS "BitRecogniser" 42 10 4 := ⟨go_R10, go_T10, 18, "BitRecogniser", rfl, by decide, go_mem_2 125 rfl rfl, Or.inl rfl⟩
theorem fs_X11_51 : go_FS "BitRecogniser" 51 10 5 := ⟨go_R10, go_T10, 18, "BitRecogniser", rfl, by decide, go_mem_2 126 rfl rfl, Or.inl rfl⟩
theorem fs_X11_60 : go_FS "BitRecogniser" 60 10 6 := ⟨go_R10, go_T10, 18, "BitRecogniser", rfl, by decide, go_mem_2 127 rfl rfl, Or.inl rfl⟩
theorem fs_X11_69 : go_FS "BitRecogniser" 69 10 7 := ⟨go_R10, go_T10, 18, "BitRecogniser", rfl, by decide, go_mem_2 128 rfl rfl, Or.inl rfl⟩
theorem fs_X11_73 : go_FS "BitRecogniser" 73 10 8 := ⟨go_R10, go_T10, 18, "BitRecogniser", rfl, by decide, go_mem_2 129 rfl rfl, Or.inl rfl⟩
theorem fs_X11_76 : go_FS "BitRecogniser" 76 10 9 := ⟨go_R10, go_T10, 18, "BitRecogniser", rfl, by decide, go_mem_2 130 rfl rfl, Or.inl rfl⟩
theorem fs_X11_84 : go_FS "BitRecogniser" 84 10 10 := ⟨go_R10, go_T10, 18, "BitRecogniser", rfl, by decide, go_mem_2 131 rfl rfl, Or.inl rfl⟩
theorem fs_X11_91 : go_FS "BitRecogniser" 91 10 11 := ⟨go_R10, go_T10, 18, "BitRecogniser", rfl, by decide, go_mem_2 132 rfl rfl, Or.inl rfl⟩
theorem fs_X11_95 : go_FS "BitRecogniser" 95 10 12 := ⟨go_R10, go_T10, 18, "BitRecogniser", rfl, by decide, go_mem_2 133 rfl rfl, Or.inl rfl⟩
theorem fs_X11_98 : go_FS "BitRecogniser" 98 10 13 := ⟨go_R10, go_T10, 18, "BitRecogniser", rfl, by decide, go_mem_2 134 rfl rfl, Or.inl rfl⟩
theorem fs_X11_101 : go_FS "BitRecogniser" 101 10 14 := ⟨go_R10, go_T10, 18, "BitRecogniser", rfl, by decide, go_mem_2 135 rfl rfl, Or.inl rfl⟩
theorem fs_X11_105 : go_FS "BitRecogniser" 105 10 15 := ⟨go_R10, go_T10, 18, "BitRecogniser", rfl, by decide, go_mem_2 136 rfl rfl, Or.inl rfl⟩
theorem fs_X11_109 : go_FS "BitRecogniser" 109 10 16 := ⟨go_R10, go_T10, 18, "BitRecogniser", rfl, by decide, go_mem_2 137 rfl rfl, Or.inl rfl⟩
theorem fs_X11_113 : go_FS "BitRecogniser" 113 10 17 := ⟨go_R10, go_T10, 18, "BitRecogniser", rfl, by decide, go_mem_2 138 rfl rfl, Or.inl rfl⟩
theorem fs_X11_116 : go_FS "BitRecogniser" 116 7 1 := ⟨go_R7, go_T7, 4, "BitRecogniser$Tape", rfl, by decide, go_mem_1 32 rfl rfl, Or.inl rfl⟩
theorem fs_X11_131 : go_FS "BitRecogniser" 131 7 2 := ⟨go_R7, go_T7, 4, "BitRecogniser$Tape", rfl, by decide, go_mem_1 34 rfl rfl, Or.inl rfl⟩
theorem fs_X11_153 : go_FS "BitRecogniser" 153 7 3 := ⟨go_R7, go_T7, 4, "BitRecogniser$Tape", rfl, by decide, go_mem_1 37 rfl rfl, Or.inl rfl⟩
theorem fs_X11_170 : go_FS "BitRecogniser" 170 8 1 := ⟨go_R8, go_T8, 4, "BitRecogniser$Told", rfl, by decide, go_mem_1 57 rfl rfl, Or.inl rfl⟩
theorem fs_X11_186 : go_FS "BitRecogniser" 186 0 1 := ⟨go_R0, go_T0, 14, "BitRecogniser$Binary", rfl, by decide, go_mem_1 113 rfl rfl, Or.inl rfl⟩
theorem fs_X11_189 : go_FS "BitRecogniser" 189 0 0 := ⟨go_R0, go_T0, 14, "BitRecogniser$Binary", rfl, by decide, go_mem_1 109 rfl rfl, Or.inl rfl⟩
theorem fs_X11_208 : go_FS "BitRecogniser" 208 0 3 := ⟨go_R0, go_T0, 14, "BitRecogniser$Binary", rfl, by decide, go_mem_1 117 rfl rfl, Or.inl rfl⟩
theorem fs_X11_211 : go_FS "BitRecogniser" 211 0 4 := ⟨go_R0, go_T0, 14, "BitRecogniser$Binary", rfl, by decide, go_mem_1 119 rfl rfl, Or.inl rfl⟩
theorem fs_X11_214 : go_FS "BitRecogniser" 214 0 7 := ⟨go_R0, go_T0, 14, "BitRecogniser$Binary", rfl, by decide, go_mem_1 127 rfl rfl, Or.inl rfl⟩
theorem fs_X11_217 : go_FS "BitRecogniser" 217 0 10 := ⟨go_R0, go_T0, 14, "BitRecogniser$Binary", rfl, by decide, go_mem_1 132 rfl rfl, Or.inl rfl⟩
theorem fs_X11_223 : go_FS "BitRecogniser" 223 0 11 := ⟨go_R0, go_T0, 14, "BitRecogniser$Binary", rfl, by decide, go_mem_1 134 rfl rfl, Or.inl rfl⟩
theorem fs_X11_239 : go_FS "BitRecogniser" 239 8 3 := ⟨go_R8, go_T8, 4, "BitRecogniser$Told", rfl, by decide, go_mem_1 62 rfl rfl, Or.inl rfl⟩
theorem fs_X11_283 : go_FS "BitRecogniser" 283 3 4 := ⟨go_R3, go_T3, 19, "BitRecogniser$Listing", rfl, by decide, go_mem_2 34 rfl rfl, Or.inl rfl⟩
theorem fs_X11_313 : go_FS "BitRecogniser" 313 3 16 := ⟨go_R3, go_T3, 19, "BitRecogniser$Listing", rfl, by decide, go_mem_2 48 rfl rfl, Or.inl rfl⟩
theorem fs_X11_316 : go_FS "BitRecogniser" 316 3 15 := ⟨go_R3, go_T3, 19, "BitRecogniser$Listing", rfl, by decide, go_mem_2 46 rfl rfl, Or.inl rfl⟩
theorem fs_X11_337 : go_FS "BitRecogniser" 337 2 6 := ⟨go_R2, go_T2, 8, "BitRecogniser$Forest", rfl, by decide, go_mem_1 225 rfl rfl, Or.inr (go_mem_1 226 rfl rfl)⟩
theorem fs_X11_381 : go_FS "BitRecogniser" 381 5 4 := ⟨go_R5, go_T5, 5, "BitRecogniser$Past", rfl, by decide, go_mem_1 86 rfl rfl, Or.inl rfl⟩
theorem fs_X11_392 : go_FS "BitRecogniser" 392 0 8 := ⟨go_R0, go_T0, 14, "BitRecogniser$Binary", rfl, by decide, go_mem_1 129 rfl rfl, Or.inl rfl⟩
theorem fs_X11_395 : go_FS "BitRecogniser" 395 0 5 := ⟨go_R0, go_T0, 14, "BitRecogniser$Binary", rfl, by decide, go_mem_1 121 rfl rfl, Or.inl rfl⟩
theorem fs_X11_408 : go_FS "BitRecogniser" 408 6 6 := ⟨go_R6, go_T6, 7, "BitRecogniser$Rounds", rfl, by decide, go_mem_1 227 rfl rfl, Or.inr (go_mem_1 228 rfl rfl)⟩
theorem fs_X11_410 : go_FS "BitRecogniser" 410 1 6 := ⟨go_R1, go_T1, 7, "BitRecogniser$Chart", rfl, by decide, go_mem_1 180 rfl rfl, Or.inl rfl⟩
theorem fs_X11_416 : go_FS "BitRecogniser" 416 9 1 := ⟨go_R9, go_T9, 2, "BitRecogniser$Vocabulary", rfl, by decide, go_mem_2 115 rfl rfl, Or.inl rfl⟩
theorem fs_X11_422 : go_FS "BitRecogniser" 422 3 17 := ⟨go_R3, go_T3, 19, "BitRecogniser$Listing", rfl, by decide, go_mem_2 49 rfl rfl, Or.inl rfl⟩
theorem fs_X11_425 : go_FS "BitRecogniser" 425 3 18 := ⟨go_R3, go_T3, 19, "BitRecogniser$Listing", rfl, by decide, go_mem_2 50 rfl rfl, Or.inl rfl⟩
theorem fs_X11_431 : go_FS "BitRecogniser" 431 4 6 := ⟨go_R4, go_T4, 8, "BitRecogniser$Nearest", rfl, by decide, go_mem_1 229 rfl rfl, Or.inr (go_mem_1 230 rfl rfl)⟩
theorem fs_X0_9 : go_FS "BitRecogniser$Binary" 9 0 0 := ⟨go_R0, go_T0, 14, "BitRecogniser$Binary", rfl, by decide, go_mem_1 105 rfl rfl, Or.inl rfl⟩
theorem fs_X0_15 : go_FS "BitRecogniser$Binary" 15 0 2 := ⟨go_R0, go_T0, 14, "BitRecogniser$Binary", rfl, by decide, go_mem_1 114 rfl rfl, Or.inl rfl⟩
theorem fs_X0_18 : go_FS "BitRecogniser$Binary" 18 0 3 := ⟨go_R0, go_T0, 14, "BitRecogniser$Binary", rfl, by decide, go_mem_1 116 rfl rfl, Or.inl rfl⟩
theorem fs_X0_21 : go_FS "BitRecogniser$Binary" 21 0 4 := ⟨go_R0, go_T0, 14, "BitRecogniser$Binary", rfl, by decide, go_mem_1 118 rfl rfl, Or.inl rfl⟩
theorem fs_X0_24 : go_FS "BitRecogniser$Binary" 24 0 6 := ⟨go_R0, go_T0, 14, "BitRecogniser$Binary", rfl, by decide, go_mem_1 122 rfl rfl, Or.inl rfl⟩
theorem fs_X0_27 : go_FS "BitRecogniser$Binary" 27 0 7 := ⟨go_R0, go_T0, 14, "BitRecogniser$Binary", rfl, by decide, go_mem_1 124 rfl rfl, Or.inl rfl⟩
theorem fs_X0_30 : go_FS "BitRecogniser$Binary" 30 0 9 := ⟨go_R0, go_T0, 14, "BitRecogniser$Binary", rfl, by decide, go_mem_1 130 rfl rfl, Or.inl rfl⟩
theorem fs_X0_33 : go_FS "BitRecogniser$Binary" 33 0 10 := ⟨go_R0, go_T0, 14, "BitRecogniser$Binary", rfl, by decide, go_mem_1 131 rfl rfl, Or.inl rfl⟩
theorem fs_X0_36 : go_FS "BitRecogniser$Binary" 36 0 12 := ⟨go_R0, go_T0, 14, "BitRecogniser$Binary", rfl, by decide, go_mem_1 135 rfl rfl, Or.inl rfl⟩
theorem fs_X0_39 : go_FS "BitRecogniser$Binary" 39 0 13 := ⟨go_R0, go_T0, 14, "BitRecogniser$Binary", rfl, by decide, go_mem_1 137 rfl rfl, Or.inl rfl⟩
theorem fs_X0_42 : go_FS "BitRecogniser$Binary" 42 0 1 := ⟨go_R0, go_T0, 14, "BitRecogniser$Binary", rfl, by decide, go_mem_1 110 rfl rfl, Or.inl rfl⟩
theorem fs_X0_46 : go_FS "BitRecogniser$Binary" 46 0 5 := ⟨go_R0, go_T0, 14, "BitRecogniser$Binary", rfl, by decide, go_mem_1 120 rfl rfl, Or.inl rfl⟩
theorem fs_X0_49 : go_FS "BitRecogniser$Binary" 49 0 8 := ⟨go_R0, go_T0, 14, "BitRecogniser$Binary", rfl, by decide, go_mem_1 128 rfl rfl, Or.inl rfl⟩
theorem fs_X0_99 : go_FS "BitRecogniser$Binary" 99 0 11 := ⟨go_R0, go_T0, 14, "BitRecogniser$Binary", rfl, by decide, go_mem_1 133 rfl rfl, Or.inl rfl⟩
theorem fs_X1_9 : go_FS "BitRecogniser$Chart" 9 1 0 := ⟨go_R1, go_T1, 7, "BitRecogniser$Chart", rfl, by decide, go_mem_1 174 rfl rfl, Or.inl rfl⟩
theorem fs_X1_15 : go_FS "BitRecogniser$Chart" 15 1 1 := ⟨go_R1, go_T1, 7, "BitRecogniser$Chart", rfl, by decide, go_mem_1 175 rfl rfl, Or.inl rfl⟩
theorem fs_X1_19 : go_FS "BitRecogniser$Chart" 19 1 2 := ⟨go_R1, go_T1, 7, "BitRecogniser$Chart", rfl, by decide, go_mem_1 176 rfl rfl, Or.inl rfl⟩
theorem fs_X1_23 : go_FS "BitRecogniser$Chart" 23 1 3 := ⟨go_R1, go_T1, 7, "BitRecogniser$Chart", rfl, by decide, go_mem_1 177 rfl rfl, Or.inl rfl⟩
theorem fs_X1_26 : go_FS "BitRecogniser$Chart" 26 1 4 := ⟨go_R1, go_T1, 7, "BitRecogniser$Chart", rfl, by decide, go_mem_1 178 rfl rfl, Or.inl rfl⟩
theorem fs_X1_29 : go_FS "BitRecogniser$Chart" 29 8 3 := ⟨go_R8, go_T8, 4, "BitRecogniser$Told", rfl, by decide, go_mem_1 59 rfl rfl, Or.inl rfl⟩
theorem fs_X1_43 : go_FS "BitRecogniser$Chart" 43 1 5 := ⟨go_R1, go_T1, 7, "BitRecogniser$Chart", rfl, by decide, go_mem_1 179 rfl rfl, Or.inl rfl⟩
theorem fs_X2_9 : go_FS "BitRecogniser$Forest" 9 2 7 := ⟨go_R2, go_T2, 8, "BitRecogniser$Forest", rfl, by decide, go_mem_2 12 rfl rfl, Or.inl rfl⟩
theorem fs_X2_22 : go_FS "BitRecogniser$Forest" 22 2 5 := ⟨go_R2, go_T2, 8, "BitRecogniser$Forest", rfl, by decide, go_mem_1 223 rfl rfl, Or.inr (go_mem_1 224 rfl rfl)⟩
theorem fs_X2_37 : go_FS "BitRecogniser$Forest" 37 2 0 := ⟨go_R2, go_T2, 8, "BitRecogniser$Forest", rfl, by decide, go_mem_1 210 rfl rfl, Or.inr (go_mem_1 211 rfl rfl)⟩
theorem fs_X2_41 : go_FS "BitRecogniser$Forest" 41 0 12 := ⟨go_R0, go_T0, 14, "BitRecogniser$Binary", rfl, by decide, go_mem_1 136 rfl rfl, Or.inl rfl⟩
theorem fs_X2_51 : go_FS "BitRecogniser$Forest" 51 0 6 := ⟨go_R0, go_T0, 14, "BitRecogniser$Binary", rfl, by decide, go_mem_1 123 rfl rfl, Or.inl rfl⟩
theorem fs_X2_58 : go_FS "BitRecogniser$Forest" 58 2 2 := ⟨go_R2, go_T2, 8, "BitRecogniser$Forest", rfl, by decide, go_mem_1 214 rfl rfl, Or.inr (go_mem_1 215 rfl rfl)⟩
theorem fs_X2_66 : go_FS "BitRecogniser$Forest" 66 0 13 := ⟨go_R0, go_T0, 14, "BitRecogniser$Binary", rfl, by decide, go_mem_1 138 rfl rfl, Or.inl rfl⟩
theorem fs_X3_9 : go_FS "BitRecogniser$Listing" 9 3 0 := ⟨go_R3, go_T3, 19, "BitRecogniser$Listing", rfl, by decide, go_mem_2 29 rfl rfl, Or.inl rfl⟩
theorem fs_X3_15 : go_FS "BitRecogniser$Listing" 15 3 1 := ⟨go_R3, go_T3, 19, "BitRecogniser$Listing", rfl, by decide, go_mem_2 30 rfl rfl, Or.inl rfl⟩
theorem fs_X3_19 : go_FS "BitRecogniser$Listing" 19 3 2 := ⟨go_R3, go_T3, 19, "BitRecogniser$Listing", rfl, by decide, go_mem_2 31 rfl rfl, Or.inl rfl⟩
theorem fs_X3_23 : go_FS "BitRecogniser$Listing" 23 3 3 := ⟨go_R3, go_T3, 19, "BitRecogniser$Listing", rfl, by decide, go_mem_2 32 rfl rfl, Or.inl rfl⟩
theorem fs_X3_27 : go_FS "BitRecogniser$Listing" 27 3 5 := ⟨go_R3, go_T3, 19, "BitRecogniser$Listing", rfl, by decide, go_mem_2 35 rfl rfl, Or.inl rfl⟩
theorem fs_X3_30 : go_FS "BitRecogniser$Listing" 30 3 6 := ⟨go_R3, go_T3, 19, "BitRecogniser$Listing", rfl, by decide, go_mem_2 36 rfl rfl, Or.inl rfl⟩
theorem fs_X3_34 : go_FS "BitRecogniser$Listing" 34 3 14 := ⟨go_R3, go_T3, 19, "BitRecogniser$Listing", rfl, by decide, go_mem_2 44 rfl rfl, Or.inl rfl⟩
theorem fs_X3_37 : go_FS "BitRecogniser$Listing" 37 3 15 := ⟨go_R3, go_T3, 19, "BitRecogniser$Listing", rfl, by decide, go_mem_2 45 rfl rfl, Or.inl rfl⟩
theorem fs_X3_40 : go_FS "BitRecogniser$Listing" 40 3 4 := ⟨go_R3, go_T3, 19, "BitRecogniser$Listing", rfl, by decide, go_mem_2 33 rfl rfl, Or.inl rfl⟩
theorem fs_X3_44 : go_FS "BitRecogniser$Listing" 44 3 7 := ⟨go_R3, go_T3, 19, "BitRecogniser$Listing", rfl, by decide, go_mem_2 37 rfl rfl, Or.inl rfl⟩
theorem fs_X3_47 : go_FS "BitRecogniser$Listing" 47 3 13 := ⟨go_R3, go_T3, 19, "BitRecogniser$Listing", rfl, by decide, go_mem_2 43 rfl rfl, Or.inl rfl⟩
theorem fs_X3_51 : go_FS "BitRecogniser$Listing" 51 8 1 := ⟨go_R8, go_T8, 4, "BitRecogniser$Told", rfl, by decide, go_mem_1 55 rfl rfl, Or.inl rfl⟩
theorem fs_X3_56 : go_FS "BitRecogniser$Listing" 56 8 3 := ⟨go_R8, go_T8, 4, "BitRecogniser$Told", rfl, by decide, go_mem_1 60 rfl rfl, Or.inl rfl⟩
theorem fs_X3_97 : go_FS "BitRecogniser$Listing" 97 3 8 := ⟨go_R3, go_T3, 19, "BitRecogniser$Listing", rfl, by decide, go_mem_2 38 rfl rfl, Or.inl rfl⟩
theorem fs_X3_100 : go_FS "BitRecogniser$Listing" 100 3 9 := ⟨go_R3, go_T3, 19, "BitRecogniser$Listing", rfl, by decide, go_mem_2 39 rfl rfl, Or.inl rfl⟩
theorem fs_X3_103 : go_FS "BitRecogniser$Listing" 103 3 10 := ⟨go_R3, go_T3, 19, "BitRecogniser$Listing", rfl, by decide, go_mem_2 40 rfl rfl, Or.inl rfl⟩
theorem fs_X3_106 : go_FS "BitRecogniser$Listing" 106 3 11 := ⟨go_R3, go_T3, 19, "BitRecogniser$Listing", rfl, by decide, go_mem_2 41 rfl rfl, Or.inl rfl⟩
theorem fs_X3_109 : go_FS "BitRecogniser$Listing" 109 3 12 := ⟨go_R3, go_T3, 19, "BitRecogniser$Listing", rfl, by decide, go_mem_2 42 rfl rfl, Or.inl rfl⟩
theorem fs_X3_133 : go_FS "BitRecogniser$Listing" 133 0 2 := ⟨go_R0, go_T0, 14, "BitRecogniser$Binary", rfl, by decide, go_mem_1 115 rfl rfl, Or.inl rfl⟩
theorem fs_X3_155 : go_FS "BitRecogniser$Listing" 155 0 0 := ⟨go_R0, go_T0, 14, "BitRecogniser$Binary", rfl, by decide, go_mem_1 108 rfl rfl, Or.inl rfl⟩
theorem fs_X3_175 : go_FS "BitRecogniser$Listing" 175 3 16 := ⟨go_R3, go_T3, 19, "BitRecogniser$Listing", rfl, by decide, go_mem_2 47 rfl rfl, Or.inl rfl⟩
theorem fs_X4_13 : go_FS "BitRecogniser$Nearest" 13 4 7 := ⟨go_R4, go_T4, 8, "BitRecogniser$Nearest", rfl, by decide, go_mem_2 97 rfl rfl, Or.inl rfl⟩
theorem fs_X4_25 : go_FS "BitRecogniser$Nearest" 25 4 3 := ⟨go_R4, go_T4, 8, "BitRecogniser$Nearest", rfl, by decide, go_mem_1 217 rfl rfl, Or.inr (go_mem_1 218 rfl rfl)⟩
theorem fs_X5_11 : go_FS "BitRecogniser$Past" 11 5 0 := ⟨go_R5, go_T5, 5, "BitRecogniser$Past", rfl, by decide, go_mem_1 81 rfl rfl, Or.inl rfl⟩
theorem fs_X5_18 : go_FS "BitRecogniser$Past" 18 5 1 := ⟨go_R5, go_T5, 5, "BitRecogniser$Past", rfl, by decide, go_mem_1 82 rfl rfl, Or.inl rfl⟩
theorem fs_X5_21 : go_FS "BitRecogniser$Past" 21 5 2 := ⟨go_R5, go_T5, 5, "BitRecogniser$Past", rfl, by decide, go_mem_1 83 rfl rfl, Or.inl rfl⟩
theorem fs_X5_25 : go_FS "BitRecogniser$Past" 25 5 3 := ⟨go_R5, go_T5, 5, "BitRecogniser$Past", rfl, by decide, go_mem_1 84 rfl rfl, Or.inl rfl⟩
theorem fs_X5_37 : go_FS "BitRecogniser$Past" 37 5 4 := ⟨go_R5, go_T5, 5, "BitRecogniser$Past", rfl, by decide, go_mem_1 85 rfl rfl, Or.inl rfl⟩
theorem fs_X6_17 : go_FS "BitRecogniser$Rounds" 17 6 3 := ⟨go_R6, go_T6, 7, "BitRecogniser$Rounds", rfl, by decide, go_mem_1 219 rfl rfl, Or.inr (go_mem_1 220 rfl rfl)⟩
theorem fs_X6_26 : go_FS "BitRecogniser$Rounds" 26 6 0 := ⟨go_R6, go_T6, 7, "BitRecogniser$Rounds", rfl, by decide, go_mem_1 208 rfl rfl, Or.inr (go_mem_1 209 rfl rfl)⟩
theorem fs_X7_9_6 : go_FS "BitRecogniser$Table" 9 6 0 := ⟨go_R6, go_T6, 7, "BitRecogniser$Table", rfl, by decide, go_mem_1 207 rfl rfl, Or.inl rfl⟩
theorem fs_X7_9_2 : go_FS "BitRecogniser$Table" 9 2 0 := ⟨go_R2, go_T2, 8, "BitRecogniser$Table", rfl, by decide, go_mem_1 207 rfl rfl, Or.inl rfl⟩
theorem fs_X7_9_4 : go_FS "BitRecogniser$Table" 9 4 0 := ⟨go_R4, go_T4, 8, "BitRecogniser$Table", rfl, by decide, go_mem_1 207 rfl rfl, Or.inl rfl⟩
theorem fs_X7_15_6 : go_FS "BitRecogniser$Table" 15 6 1 := ⟨go_R6, go_T6, 7, "BitRecogniser$Table", rfl, by decide, go_mem_1 212 rfl rfl, Or.inl rfl⟩
theorem fs_X7_15_2 : go_FS "BitRecogniser$Table" 15 2 1 := ⟨go_R2, go_T2, 8, "BitRecogniser$Table", rfl, by decide, go_mem_1 212 rfl rfl, Or.inl rfl⟩
theorem fs_X7_15_4 : go_FS "BitRecogniser$Table" 15 4 1 := ⟨go_R4, go_T4, 8, "BitRecogniser$Table", rfl, by decide, go_mem_1 212 rfl rfl, Or.inl rfl⟩
theorem fs_X7_19_6 : go_FS "BitRecogniser$Table" 19 6 2 := ⟨go_R6, go_T6, 7, "BitRecogniser$Table", rfl, by decide, go_mem_1 213 rfl rfl, Or.inl rfl⟩
theorem fs_X7_19_2 : go_FS "BitRecogniser$Table" 19 2 2 := ⟨go_R2, go_T2, 8, "BitRecogniser$Table", rfl, by decide, go_mem_1 213 rfl rfl, Or.inl rfl⟩
theorem fs_X7_19_4 : go_FS "BitRecogniser$Table" 19 4 2 := ⟨go_R4, go_T4, 8, "BitRecogniser$Table", rfl, by decide, go_mem_1 213 rfl rfl, Or.inl rfl⟩
theorem fs_X7_23_6 : go_FS "BitRecogniser$Table" 23 6 3 := ⟨go_R6, go_T6, 7, "BitRecogniser$Table", rfl, by decide, go_mem_1 216 rfl rfl, Or.inl rfl⟩
theorem fs_X7_23_2 : go_FS "BitRecogniser$Table" 23 2 3 := ⟨go_R2, go_T2, 8, "BitRecogniser$Table", rfl, by decide, go_mem_1 216 rfl rfl, Or.inl rfl⟩
theorem fs_X7_23_4 : go_FS "BitRecogniser$Table" 23 4 3 := ⟨go_R4, go_T4, 8, "BitRecogniser$Table", rfl, by decide, go_mem_1 216 rfl rfl, Or.inl rfl⟩
theorem fs_X7_27_6 : go_FS "BitRecogniser$Table" 27 6 4 := ⟨go_R6, go_T6, 7, "BitRecogniser$Table", rfl, by decide, go_mem_1 221 rfl rfl, Or.inl rfl⟩
theorem fs_X7_27_2 : go_FS "BitRecogniser$Table" 27 2 4 := ⟨go_R2, go_T2, 8, "BitRecogniser$Table", rfl, by decide, go_mem_1 221 rfl rfl, Or.inl rfl⟩
theorem fs_X7_27_4 : go_FS "BitRecogniser$Table" 27 4 4 := ⟨go_R4, go_T4, 8, "BitRecogniser$Table", rfl, by decide, go_mem_1 221 rfl rfl, Or.inl rfl⟩
theorem fs_X7_31_6 : go_FS "BitRecogniser$Table" 31 6 5 := ⟨go_R6, go_T6, 7, "BitRecogniser$Table", rfl, by decide, go_mem_1 222 rfl rfl, Or.inl rfl⟩
theorem fs_X7_31_2 : go_FS "BitRecogniser$Table" 31 2 5 := ⟨go_R2, go_T2, 8, "BitRecogniser$Table", rfl, by decide, go_mem_1 222 rfl rfl, Or.inl rfl⟩
theorem fs_X7_31_4 : go_FS "BitRecogniser$Table" 31 4 5 := ⟨go_R4, go_T4, 8, "BitRecogniser$Table", rfl, by decide, go_mem_1 222 rfl rfl, Or.inl rfl⟩
theorem fs_X7_80 : go_FS "BitRecogniser$Table" 80 0 1 := ⟨go_R0, go_T0, 14, "BitRecogniser$Binary", rfl, by decide, go_mem_1 112 rfl rfl, Or.inl rfl⟩
theorem fs_X7_84 : go_FS "BitRecogniser$Table" 84 0 0 := ⟨go_R0, go_T0, 14, "BitRecogniser$Binary", rfl, by decide, go_mem_1 107 rfl rfl, Or.inl rfl⟩
theorem fs_X7_118 : go_FS "BitRecogniser$Table" 118 0 7 := ⟨go_R0, go_T0, 14, "BitRecogniser$Binary", rfl, by decide, go_mem_1 126 rfl rfl, Or.inl rfl⟩
theorem fs_X8_9 : go_FS "BitRecogniser$Tape" 9 7 0 := ⟨go_R7, go_T7, 4, "BitRecogniser$Tape", rfl, by decide, go_mem_1 31 rfl rfl, Or.inl rfl⟩
theorem fs_X8_15 : go_FS "BitRecogniser$Tape" 15 7 3 := ⟨go_R7, go_T7, 4, "BitRecogniser$Tape", rfl, by decide, go_mem_1 36 rfl rfl, Or.inl rfl⟩
theorem fs_X8_19 : go_FS "BitRecogniser$Tape" 19 7 1 := ⟨go_R7, go_T7, 4, "BitRecogniser$Tape", rfl, by decide, go_mem_1 33 rfl rfl, Or.inl rfl⟩
theorem fs_X8_41 : go_FS "BitRecogniser$Tape" 41 7 2 := ⟨go_R7, go_T7, 4, "BitRecogniser$Tape", rfl, by decide, go_mem_1 35 rfl rfl, Or.inl rfl⟩
theorem fs_X9_9 : go_FS "BitRecogniser$Told" 9 8 0 := ⟨go_R8, go_T8, 4, "BitRecogniser$Told", rfl, by decide, go_mem_1 54 rfl rfl, Or.inl rfl⟩
theorem fs_X9_19 : go_FS "BitRecogniser$Told" 19 8 1 := ⟨go_R8, go_T8, 4, "BitRecogniser$Told", rfl, by decide, go_mem_1 56 rfl rfl, Or.inl rfl⟩
theorem fs_X9_23 : go_FS "BitRecogniser$Told" 23 8 2 := ⟨go_R8, go_T8, 4, "BitRecogniser$Told", rfl, by decide, go_mem_1 58 rfl rfl, Or.inl rfl⟩
theorem fs_X9_27 : go_FS "BitRecogniser$Told" 27 8 3 := ⟨go_R8, go_T8, 4, "BitRecogniser$Told", rfl, by decide, go_mem_1 61 rfl rfl, Or.inl rfl⟩
theorem fs_X10_11 : go_FS "BitRecogniser$Vocabulary" 11 9 0 := ⟨go_R9, go_T9, 2, "BitRecogniser$Vocabulary", rfl, by decide, go_mem_2 114 rfl rfl, Or.inl rfl⟩
theorem fs_X10_19 : go_FS "BitRecogniser$Vocabulary" 19 0 1 := ⟨go_R0, go_T0, 14, "BitRecogniser$Binary", rfl, by decide, go_mem_1 111 rfl rfl, Or.inl rfl⟩
theorem fs_X10_25 : go_FS "BitRecogniser$Vocabulary" 25 0 0 := ⟨go_R0, go_T0, 14, "BitRecogniser$Binary", rfl, by decide, go_mem_1 106 rfl rfl, Or.inl rfl⟩
theorem fs_X10_65 : go_FS "BitRecogniser$Vocabulary" 65 0 7 := ⟨go_R0, go_T0, 14, "BitRecogniser$Binary", rfl, by decide, go_mem_1 125 rfl rfl, Or.inl rfl⟩
theorem fs_X12_7 : go_FS "BitRecogniserModel" 7 11 1 := ⟨go_R11, go_T11, 53, "BitRecogniserModel", rfl, by decide, go_mem_6 1 rfl rfl, Or.inl rfl⟩
theorem fs_X12_13 : go_FS "BitRecogniserModel" 13 11 2 := ⟨go_R11, go_T11, 53, "BitRecogniserModel", rfl, by decide, go_mem_6 2 rfl rfl, Or.inl rfl⟩
theorem fs_X12_16 : go_FS "BitRecogniserModel" 16 11 4 := ⟨go_R11, go_T11, 53, "BitRecogniserModel", rfl, by decide, go_mem_6 4 rfl rfl, Or.inl rfl⟩
theorem fs_X12_20 : go_FS "BitRecogniserModel" 20 11 5 := ⟨go_R11, go_T11, 53, "BitRecogniserModel", rfl, by decide, go_mem_6 5 rfl rfl, Or.inl rfl⟩
theorem fs_X12_23 : go_FS "BitRecogniserModel" 23 11 8 := ⟨go_R11, go_T11, 53, "BitRecogniserModel", rfl, by decide, go_mem_6 8 rfl rfl, Or.inl rfl⟩
theorem fs_X12_27 : go_FS "BitRecogniserModel" 27 11 9 := ⟨go_R11, go_T11, 53, "BitRecogniserModel", rfl, by decide, go_mem_6 9 rfl rfl, Or.inl rfl⟩
theorem fs_X12_30 : go_FS "BitRecogniserModel" 30 11 10 := ⟨go_R11, go_T11, 53, "BitRecogniserModel", rfl, by decide, go_mem_6 10 rfl rfl, Or.inl rfl⟩
theorem fs_X12_33 : go_FS "BitRecogniserModel" 33 11 11 := ⟨go_R11, go_T11, 53, "BitRecogniserModel", rfl, by decide, go_mem_6 11 rfl rfl, Or.inl rfl⟩
theorem fs_X12_36 : go_FS "BitRecogniserModel" 36 11 12 := ⟨go_R11, go_T11, 53, "BitRecogniserModel", rfl, by decide, go_mem_6 12 rfl rfl, Or.inl rfl⟩
theorem fs_X12_39 : go_FS "BitRecogniserModel" 39 11 13 := ⟨go_R11, go_T11, 53, "BitRecogniserModel", rfl, by decide, go_mem_6 13 rfl rfl, Or.inl rfl⟩
theorem fs_X12_42 : go_FS "BitRecogniserModel" 42 11 14 := ⟨go_R11, go_T11, 53, "BitRecogniserModel", rfl, by decide, go_mem_6 14 rfl rfl, Or.inl rfl⟩
theorem fs_X12_45 : go_FS "BitRecogniserModel" 45 11 17 := ⟨go_R11, go_T11, 53, "BitRecogniserModel", rfl, by decide, go_mem_6 17 rfl rfl, Or.inl rfl⟩
theorem fs_X12_48 : go_FS "BitRecogniserModel" 48 11 18 := ⟨go_R11, go_T11, 53, "BitRecogniserModel", rfl, by decide, go_mem_6 18 rfl rfl, Or.inl rfl⟩
theorem fs_X12_51 : go_FS "BitRecogniserModel" 51 11 19 := ⟨go_R11, go_T11, 53, "BitRecogniserModel", rfl, by decide, go_mem_6 19 rfl rfl, Or.inl rfl⟩
theorem fs_X12_55 : go_FS "BitRecogniserModel" 55 11 21 := ⟨go_R11, go_T11, 53, "BitRecogniserModel", rfl, by decide, go_mem_6 21 rfl rfl, Or.inl rfl⟩
theorem fs_X12_58 : go_FS "BitRecogniserModel" 58 11 22 := ⟨go_R11, go_T11, 53, "BitRecogniserModel", rfl, by decide, go_mem_6 22 rfl rfl, Or.inl rfl⟩
theorem fs_X12_61 : go_FS "BitRecogniserModel" 61 11 23 := ⟨go_R11, go_T11, 53, "BitRecogniserModel", rfl, by decide, go_mem_6 23 rfl rfl, Or.inl rfl⟩
theorem fs_X12_64 : go_FS "BitRecogniserModel" 64 11 24 := ⟨go_R11, go_T11, 53, "BitRecogniserModel", rfl, by decide, go_mem_6 24 rfl rfl, Or.inl rfl⟩
theorem fs_X12_67 : go_FS "BitRecogniserModel" 67 11 25 := ⟨go_R11, go_T11, 53, "BitRecogniserModel", rfl, by decide, go_mem_6 25 rfl rfl, Or.inl rfl⟩
theorem fs_X12_70 : go_FS "BitRecogniserModel" 70 11 26 := ⟨go_R11, go_T11, 53, "BitRecogniserModel", rfl, by decide, go_mem_6 26 rfl rfl, Or.inl rfl⟩
theorem fs_X12_73 : go_FS "BitRecogniserModel" 73 11 27 := ⟨go_R11, go_T11, 53, "BitRecogniserModel", rfl, by decide, go_mem_6 27 rfl rfl, Or.inl rfl⟩
theorem fs_X12_76 : go_FS "BitRecogniserModel" 76 11 28 := ⟨go_R11, go_T11, 53, "BitRecogniserModel", rfl, by decide, go_mem_6 28 rfl rfl, Or.inl rfl⟩
theorem fs_X12_79 : go_FS "BitRecogniserModel" 79 11 29 := ⟨go_R11, go_T11, 53, "BitRecogniserModel", rfl, by decide, go_mem_6 29 rfl rfl, Or.inl rfl⟩
theorem fs_X12_82 : go_FS "BitRecogniserModel" 82 11 30 := ⟨go_R11, go_T11, 53, "BitRecogniserModel", rfl, by decide, go_mem_6 30 rfl rfl, Or.inl rfl⟩
theorem fs_X12_85 : go_FS "BitRecogniserModel" 85 11 31 := ⟨go_R11, go_T11, 53, "BitRecogniserModel", rfl, by decide, go_mem_6 31 rfl rfl, Or.inl rfl⟩
theorem fs_X12_88 : go_FS "BitRecogniserModel" 88 11 32 := ⟨go_R11, go_T11, 53, "BitRecogniserModel", rfl, by decide, go_mem_6 32 rfl rfl, Or.inl rfl⟩
theorem fs_X12_91 : go_FS "BitRecogniserModel" 91 11 33 := ⟨go_R11, go_T11, 53, "BitRecogniserModel", rfl, by decide, go_mem_6 33 rfl rfl, Or.inl rfl⟩
theorem fs_X12_94 : go_FS "BitRecogniserModel" 94 11 34 := ⟨go_R11, go_T11, 53, "BitRecogniserModel", rfl, by decide, go_mem_6 34 rfl rfl, Or.inl rfl⟩
theorem fs_X12_97 : go_FS "BitRecogniserModel" 97 11 38 := ⟨go_R11, go_T11, 53, "BitRecogniserModel", rfl, by decide, go_mem_6 38 rfl rfl, Or.inl rfl⟩
theorem fs_X12_100 : go_FS "BitRecogniserModel" 100 11 39 := ⟨go_R11, go_T11, 53, "BitRecogniserModel", rfl, by decide, go_mem_6 39 rfl rfl, Or.inl rfl⟩
theorem fs_X12_103 : go_FS "BitRecogniserModel" 103 11 40 := ⟨go_R11, go_T11, 53, "BitRecogniserModel", rfl, by decide, go_mem_6 40 rfl rfl, Or.inl rfl⟩
theorem fs_X12_106 : go_FS "BitRecogniserModel" 106 11 42 := ⟨go_R11, go_T11, 53, "BitRecogniserModel", rfl, by decide, go_mem_6 42 rfl rfl, Or.inl rfl⟩
theorem fs_X12_109 : go_FS "BitRecogniserModel" 109 11 43 := ⟨go_R11, go_T11, 53, "BitRecogniserModel", rfl, by decide, go_mem_6 43 rfl rfl, Or.inl rfl⟩
theorem fs_X12_112 : go_FS "BitRecogniserModel" 112 11 44 := ⟨go_R11, go_T11, 53, "BitRecogniserModel", rfl, by decide, go_mem_6 44 rfl rfl, Or.inl rfl⟩
theorem fs_X12_115 : go_FS "BitRecogniserModel" 115 11 45 := ⟨go_R11, go_T11, 53, "BitRecogniserModel", rfl, by decide, go_mem_6 45 rfl rfl, Or.inl rfl⟩
theorem fs_X12_118 : go_FS "BitRecogniserModel" 118 11 46 := ⟨go_R11, go_T11, 53, "BitRecogniserModel", rfl, by decide, go_mem_6 46 rfl rfl, Or.inl rfl⟩
theorem fs_X12_121 : go_FS "BitRecogniserModel" 121 11 47 := ⟨go_R11, go_T11, 53, "BitRecogniserModel", rfl, by decide, go_mem_6 47 rfl rfl, Or.inl rfl⟩
theorem fs_X12_124 : go_FS "BitRecogniserModel" 124 11 48 := ⟨go_R11, go_T11, 53, "BitRecogniserModel", rfl, by decide, go_mem_6 48 rfl rfl, Or.inl rfl⟩
theorem fs_X12_127 : go_FS "BitRecogniserModel" 127 11 49 := ⟨go_R11, go_T11, 53, "BitRecogniserModel", rfl, by decide, go_mem_6 49 rfl rfl, Or.inl rfl⟩
theorem fs_X12_130 : go_FS "BitRecogniserModel" 130 11 50 := ⟨go_R11, go_T11, 53, "BitRecogniserModel", rfl, by decide, go_mem_6 50 rfl rfl, Or.inl rfl⟩
theorem fs_X12_133 : go_FS "BitRecogniserModel" 133 11 51 := ⟨go_R11, go_T11, 53, "BitRecogniserModel", rfl, by decide, go_mem_6 51 rfl rfl, Or.inl rfl⟩
theorem fs_X12_136 : go_FS "BitRecogniserModel" 136 11 52 := ⟨go_R11, go_T11, 53, "BitRecogniserModel", rfl, by decide, go_mem_6 52 rfl rfl, Or.inl rfl⟩
theorem fs_X12_139 : go_FS "BitRecogniserModel" 139 11 0 := ⟨go_R11, go_T11, 53, "BitRecogniserModel", rfl, by decide, go_mem_6 0 rfl rfl, Or.inl rfl⟩
theorem fs_X12_152 : go_FS "BitRecogniserModel" 152 11 3 := ⟨go_R11, go_T11, 53, "BitRecogniserModel", rfl, by decide, go_mem_6 3 rfl rfl, Or.inl rfl⟩
theorem fs_X12_155 : go_FS "BitRecogniserModel" 155 11 20 := ⟨go_R11, go_T11, 53, "BitRecogniserModel", rfl, by decide, go_mem_6 20 rfl rfl, Or.inl rfl⟩
theorem fs_X12_159 : go_FS "BitRecogniserModel" 159 11 6 := ⟨go_R11, go_T11, 53, "BitRecogniserModel", rfl, by decide, go_mem_6 6 rfl rfl, Or.inl rfl⟩
theorem fs_X12_162 : go_FS "BitRecogniserModel" 162 11 7 := ⟨go_R11, go_T11, 53, "BitRecogniserModel", rfl, by decide, go_mem_6 7 rfl rfl, Or.inl rfl⟩
theorem fs_X12_215 : go_FS "BitRecogniserModel" 215 11 15 := ⟨go_R11, go_T11, 53, "BitRecogniserModel", rfl, by decide, go_mem_6 15 rfl rfl, Or.inl rfl⟩
theorem fs_X12_218 : go_FS "BitRecogniserModel" 218 11 16 := ⟨go_R11, go_T11, 53, "BitRecogniserModel", rfl, by decide, go_mem_6 16 rfl rfl, Or.inl rfl⟩
theorem fs_X12_325 : go_FS "BitRecogniserModel" 325 11 36 := ⟨go_R11, go_T11, 53, "BitRecogniserModel", rfl, by decide, go_mem_6 36 rfl rfl, Or.inl rfl⟩
theorem fs_X12_328 : go_FS "BitRecogniserModel" 328 11 37 := ⟨go_R11, go_T11, 53, "BitRecogniserModel", rfl, by decide, go_mem_6 37 rfl rfl, Or.inl rfl⟩
theorem fs_X12_336 : go_FS "BitRecogniserModel" 336 11 35 := ⟨go_R11, go_T11, 53, "BitRecogniserModel", rfl, by decide, go_mem_6 35 rfl rfl, Or.inl rfl⟩
theorem fs_X12_363 : go_FS "BitRecogniserModel" 363 11 41 := ⟨go_R11, go_T11, 53, "BitRecogniserModel", rfl, by decide, go_mem_6 41 rfl rfl, Or.inl rfl⟩
theorem fp_X11_12 : go_FP "BitRecogniser" "<init>" 12 10 0 := ⟨fs_X11_12, fun C T N h => by cases (show (go_R10, go_T10, 18) = (C, T, N) from Option.some.inj h); exact Or.inr ⟨rfl, rfl, rfl⟩⟩
theorem fp_X11_19 : go_FP "BitRecogniser" "<init>" 19 10 1 := ⟨fs_X11_19, fun C T N h => by cases (show (go_R10, go_T10, 18) = (C, T, N) from Option.some.inj h); exact Or.inr ⟨rfl, rfl, rfl⟩⟩
theorem fp_X11_26 : go_FP "BitRecogniser" "<init>" 26 10 2 := ⟨fs_X11_26, fun C T N h => by cases (show (go_R10, go_T10, 18) = (C, T, N) from Option.some.inj h); exact Or.inr ⟨rfl, rfl, rfl⟩⟩
theorem fp_X11_33 : go_FP "BitRecogniser" "<init>" 33 10 3 := ⟨fs_X11_33, fun C T N h => by cases (show (go_R10, go_T10, 18) = (C, T, N) from Option.some.inj h); exact Or.inr ⟨rfl, rfl, rfl⟩⟩
theorem fp_X11_42 : go_FP "BitRecogniser" "<init>" 42 10 4 := ⟨fs_X11_42, fun C T N h => by cases (show (go_R10, go_T10, 18) = (C, T, N) from Option.some.inj h); exact Or.inr ⟨rfl, rfl, rfl⟩⟩
theorem fp_X11_51 : go_FP "BitRecogniser" "<init>" 51 10 5 := ⟨fs_X11_51, fun C T N h => by cases (show (go_R10, go_T10, 18) = (C, T, N) from Option.some.inj h); exact Or.inr ⟨rfl, rfl, rfl⟩⟩
theorem fp_X11_60 : go_FP "BitRecogniser" "<init>" 60 10 6 := ⟨fs_X11_60, fun C T N h => by cases (show (go_R10, go_T10, 18) = (C, T, N) from Option.some.inj h); exact Or.inr ⟨rfl, rfl, rfl⟩⟩
theorem fp_X11_69 : go_FP "BitRecogniser" "<init>" 69 10 7 := ⟨fs_X11_69, fun C T N h => by cases (show (go_R10, go_T10, 18) = (C, T, N) from Option.some.inj h); exact Or.inr ⟨rfl, rfl, rfl⟩⟩
theorem fp_X11_73 : go_FP "BitRecogniser" "<init>" 73 10 8 := ⟨fs_X11_73, fun C T N h => by cases (show (go_R10, go_T10, 18) = (C, T, N) from Option.some.inj h); exact Or.inr ⟨rfl, rfl, rfl⟩⟩
theorem fp_X11_76 : go_FP "BitRecogniser" "<init>" 76 10 9 := ⟨fs_X11_76, fun C T N h => by cases (show (go_R10, go_T10, 18) = (C, T, N) from Option.some.inj h); exact Or.inr ⟨rfl, rfl, rfl⟩⟩
theorem fp_X11_84 : go_FP "BitRecogniser" "<init>" 84 10 10 := ⟨fs_X11_84, fun C T N h => by cases (show (go_R10, go_T10, 18) = (C, T, N) from Option.some.inj h); exact Or.inr ⟨rfl, rfl, rfl⟩⟩
theorem fp_X11_91 : go_FP "BitRecogniser" "<init>" 91 10 11 := ⟨fs_X11_91, fun C T N h => by cases (show (go_R10, go_T10, 18) = (C, T, N) from Option.some.inj h); exact Or.inr ⟨rfl, rfl, rfl⟩⟩
theorem fp_X11_95 : go_FP "BitRecogniser" "<init>" 95 10 12 := ⟨fs_X11_95, fun C T N h => by cases (show (go_R10, go_T10, 18) = (C, T, N) from Option.some.inj h); exact Or.inr ⟨rfl, rfl, rfl⟩⟩
theorem fp_X11_98 : go_FP "BitRecogniser" "<init>" 98 10 13 := ⟨fs_X11_98, fun C T N h => by cases (show (go_R10, go_T10, 18) = (C, T, N) from Option.some.inj h); exact Or.inr ⟨rfl, rfl, rfl⟩⟩
theorem fp_X11_101 : go_FP "BitRecogniser" "<init>" 101 10 14 := ⟨fs_X11_101, fun C T N h => by cases (show (go_R10, go_T10, 18) = (C, T, N) from Option.some.inj h); exact Or.inr ⟨rfl, rfl, rfl⟩⟩
theorem fp_X11_105 : go_FP "BitRecogniser" "<init>" 105 10 15 := ⟨fs_X11_105, fun C T N h => by cases (show (go_R10, go_T10, 18) = (C, T, N) from Option.some.inj h); exact Or.inr ⟨rfl, rfl, rfl⟩⟩
theorem fp_X11_109 {nm : String} : go_FP "BitRecogniser" nm 109 10 16 := ⟨fs_X11_109, fun C T N h => by cases (show (go_R10, go_T10, 18) = (C, T, N) from Option.some.inj h); exact Or.inl rfl⟩
theorem fp_X11_113 {nm : String} : go_FP "BitRecogniser" nm 113 10 17 := ⟨fs_X11_113, fun C T N h => by cases (show (go_R10, go_T10, 18) = (C, T, N) from Option.some.inj h); exact Or.inl rfl⟩
theorem fp_X11_170 {nm : String} : go_FP "BitRecogniser" nm 170 8 1 := ⟨fs_X11_170, fun C T N h => by cases (show (go_R8, go_T8, 4) = (C, T, N) from Option.some.inj h); exact Or.inl rfl⟩
theorem fp_X11_337 {nm : String} : go_FP "BitRecogniser" nm 337 2 6 := ⟨fs_X11_337, fun C T N h => by cases (show (go_R2, go_T2, 8) = (C, T, N) from Option.some.inj h); exact Or.inl rfl⟩
theorem fp_X11_408 {nm : String} : go_FP "BitRecogniser" nm 408 6 6 := ⟨fs_X11_408, fun C T N h => by cases (show (go_R6, go_T6, 7) = (C, T, N) from Option.some.inj h); exact Or.inl rfl⟩
theorem fp_X11_410 {nm : String} : go_FP "BitRecogniser" nm 410 1 6 := ⟨fs_X11_410, fun C T N h => by cases (show (go_R1, go_T1, 7) = (C, T, N) from Option.some.inj h); exact Or.inl rfl⟩
theorem fp_X11_416 {nm : String} : go_FP "BitRecogniser" nm 416 9 1 := ⟨fs_X11_416, fun C T N h => by cases (show (go_R9, go_T9, 2) = (C, T, N) from Option.some.inj h); exact Or.inl rfl⟩
theorem fp_X11_422 {nm : String} : go_FP "BitRecogniser" nm 422 3 17 := ⟨fs_X11_422, fun C T N h => by cases (show (go_R3, go_T3, 19) = (C, T, N) from Option.some.inj h); exact Or.inl rfl⟩
theorem fp_X11_425 {nm : String} : go_FP "BitRecogniser" nm 425 3 18 := ⟨fs_X11_425, fun C T N h => by cases (show (go_R3, go_T3, 19) = (C, T, N) from Option.some.inj h); exact Or.inl rfl⟩
theorem fp_X11_431 {nm : String} : go_FP "BitRecogniser" nm 431 4 6 := ⟨fs_X11_431, fun C T N h => by cases (show (go_R4, go_T4, 8) = (C, T, N) from Option.some.inj h); exact Or.inl rfl⟩
theorem fp_X0_9 : go_FP "BitRecogniser$Binary" "<init>" 9 0 0 := ⟨fs_X0_9, fun C T N h => by cases (show (go_R0, go_T0, 14) = (C, T, N) from Option.some.inj h); exact Or.inr ⟨rfl, rfl, rfl⟩⟩
theorem fp_X0_15 : go_FP "BitRecogniser$Binary" "<init>" 15 0 2 := ⟨fs_X0_15, fun C T N h => by cases (show (go_R0, go_T0, 14) = (C, T, N) from Option.some.inj h); exact Or.inr ⟨rfl, rfl, rfl⟩⟩
theorem fp_X0_18 : go_FP "BitRecogniser$Binary" "<init>" 18 0 3 := ⟨fs_X0_18, fun C T N h => by cases (show (go_R0, go_T0, 14) = (C, T, N) from Option.some.inj h); exact Or.inr ⟨rfl, rfl, rfl⟩⟩
theorem fp_X0_21 : go_FP "BitRecogniser$Binary" "<init>" 21 0 4 := ⟨fs_X0_21, fun C T N h => by cases (show (go_R0, go_T0, 14) = (C, T, N) from Option.some.inj h); exact Or.inr ⟨rfl, rfl, rfl⟩⟩
theorem fp_X0_24 : go_FP "BitRecogniser$Binary" "<init>" 24 0 6 := ⟨fs_X0_24, fun C T N h => by cases (show (go_R0, go_T0, 14) = (C, T, N) from Option.some.inj h); exact Or.inr ⟨rfl, rfl, rfl⟩⟩
theorem fp_X0_27 : go_FP "BitRecogniser$Binary" "<init>" 27 0 7 := ⟨fs_X0_27, fun C T N h => by cases (show (go_R0, go_T0, 14) = (C, T, N) from Option.some.inj h); exact Or.inr ⟨rfl, rfl, rfl⟩⟩
theorem fp_X0_30 : go_FP "BitRecogniser$Binary" "<init>" 30 0 9 := ⟨fs_X0_30, fun C T N h => by cases (show (go_R0, go_T0, 14) = (C, T, N) from Option.some.inj h); exact Or.inr ⟨rfl, rfl, rfl⟩⟩
theorem fp_X0_33 : go_FP "BitRecogniser$Binary" "<init>" 33 0 10 := ⟨fs_X0_33, fun C T N h => by cases (show (go_R0, go_T0, 14) = (C, T, N) from Option.some.inj h); exact Or.inr ⟨rfl, rfl, rfl⟩⟩
theorem fp_X0_36 : go_FP "BitRecogniser$Binary" "<init>" 36 0 12 := ⟨fs_X0_36, fun C T N h => by cases (show (go_R0, go_T0, 14) = (C, T, N) from Option.some.inj h); exact Or.inr ⟨rfl, rfl, rfl⟩⟩
theorem fp_X0_39 : go_FP "BitRecogniser$Binary" "<init>" 39 0 13 := ⟨fs_X0_39, fun C T N h => by cases (show (go_R0, go_T0, 14) = (C, T, N) from Option.some.inj h); exact Or.inr ⟨rfl, rfl, rfl⟩⟩
theorem fp_X0_42 {nm : String} : go_FP "BitRecogniser$Binary" nm 42 0 1 := ⟨fs_X0_42, fun C T N h => by cases (show (go_R0, go_T0, 14) = (C, T, N) from Option.some.inj h); exact Or.inl rfl⟩
theorem fp_X0_46 {nm : String} : go_FP "BitRecogniser$Binary" nm 46 0 5 := ⟨fs_X0_46, fun C T N h => by cases (show (go_R0, go_T0, 14) = (C, T, N) from Option.some.inj h); exact Or.inl rfl⟩
theorem fp_X0_49 {nm : String} : go_FP "BitRecogniser$Binary" nm 49 0 8 := ⟨fs_X0_49, fun C T N h => by cases (show (go_R0, go_T0, 14) = (C, T, N) from Option.some.inj h); exact Or.inl rfl⟩
theorem fp_X0_99 {nm : String} : go_FP "BitRecogniser$Binary" nm 99 0 11 := ⟨fs_X0_99, fun C T N h => by cases (show (go_R0, go_T0, 14) = (C, T, N) from Option.some.inj h); exact Or.inl rfl⟩
theorem fp_X1_9 : go_FP "BitRecogniser$Chart" "<init>" 9 1 0 := ⟨fs_X1_9, fun C T N h => by cases (show (go_R1, go_T1, 7) = (C, T, N) from Option.some.inj h); exact Or.inr ⟨rfl, rfl, rfl⟩⟩
theorem fp_X1_15 : go_FP "BitRecogniser$Chart" "<init>" 15 1 1 := ⟨fs_X1_15, fun C T N h => by cases (show (go_R1, go_T1, 7) = (C, T, N) from Option.some.inj h); exact Or.inr ⟨rfl, rfl, rfl⟩⟩
theorem fp_X1_19 : go_FP "BitRecogniser$Chart" "<init>" 19 1 2 := ⟨fs_X1_19, fun C T N h => by cases (show (go_R1, go_T1, 7) = (C, T, N) from Option.some.inj h); exact Or.inr ⟨rfl, rfl, rfl⟩⟩
theorem fp_X1_23 : go_FP "BitRecogniser$Chart" "<init>" 23 1 3 := ⟨fs_X1_23, fun C T N h => by cases (show (go_R1, go_T1, 7) = (C, T, N) from Option.some.inj h); exact Or.inr ⟨rfl, rfl, rfl⟩⟩
theorem fp_X1_26 : go_FP "BitRecogniser$Chart" "<init>" 26 1 4 := ⟨fs_X1_26, fun C T N h => by cases (show (go_R1, go_T1, 7) = (C, T, N) from Option.some.inj h); exact Or.inr ⟨rfl, rfl, rfl⟩⟩
theorem fp_X1_43 {nm : String} : go_FP "BitRecogniser$Chart" nm 43 1 5 := ⟨fs_X1_43, fun C T N h => by cases (show (go_R1, go_T1, 7) = (C, T, N) from Option.some.inj h); exact Or.inl rfl⟩
theorem fp_X2_9 : go_FP "BitRecogniser$Forest" "<init>" 9 2 7 := ⟨fs_X2_9, fun C T N h => by cases (show (go_R2, go_T2, 8) = (C, T, N) from Option.some.inj h); exact Or.inr ⟨rfl, rfl, rfl⟩⟩
theorem fp_X3_9 : go_FP "BitRecogniser$Listing" "<init>" 9 3 0 := ⟨fs_X3_9, fun C T N h => by cases (show (go_R3, go_T3, 19) = (C, T, N) from Option.some.inj h); exact Or.inr ⟨rfl, rfl, rfl⟩⟩
theorem fp_X3_15 : go_FP "BitRecogniser$Listing" "<init>" 15 3 1 := ⟨fs_X3_15, fun C T N h => by cases (show (go_R3, go_T3, 19) = (C, T, N) from Option.some.inj h); exact Or.inr ⟨rfl, rfl, rfl⟩⟩
theorem fp_X3_19 : go_FP "BitRecogniser$Listing" "<init>" 19 3 2 := ⟨fs_X3_19, fun C T N h => by cases (show (go_R3, go_T3, 19) = (C, T, N) from Option.some.inj h); exact Or.inr ⟨rfl, rfl, rfl⟩⟩
theorem fp_X3_23 : go_FP "BitRecogniser$Listing" "<init>" 23 3 3 := ⟨fs_X3_23, fun C T N h => by cases (show (go_R3, go_T3, 19) = (C, T, N) from Option.some.inj h); exact Or.inr ⟨rfl, rfl, rfl⟩⟩
theorem fp_X3_27 : go_FP "BitRecogniser$Listing" "<init>" 27 3 5 := ⟨fs_X3_27, fun C T N h => by cases (show (go_R3, go_T3, 19) = (C, T, N) from Option.some.inj h); exact Or.inr ⟨rfl, rfl, rfl⟩⟩
theorem fp_X3_30 : go_FP "BitRecogniser$Listing" "<init>" 30 3 6 := ⟨fs_X3_30, fun C T N h => by cases (show (go_R3, go_T3, 19) = (C, T, N) from Option.some.inj h); exact Or.inr ⟨rfl, rfl, rfl⟩⟩
theorem fp_X3_34 : go_FP "BitRecogniser$Listing" "<init>" 34 3 14 := ⟨fs_X3_34, fun C T N h => by cases (show (go_R3, go_T3, 19) = (C, T, N) from Option.some.inj h); exact Or.inr ⟨rfl, rfl, rfl⟩⟩
theorem fp_X3_37 : go_FP "BitRecogniser$Listing" "<init>" 37 3 15 := ⟨fs_X3_37, fun C T N h => by cases (show (go_R3, go_T3, 19) = (C, T, N) from Option.some.inj h); exact Or.inr ⟨rfl, rfl, rfl⟩⟩
theorem fp_X3_40 {nm : String} : go_FP "BitRecogniser$Listing" nm 40 3 4 := ⟨fs_X3_40, fun C T N h => by cases (show (go_R3, go_T3, 19) = (C, T, N) from Option.some.inj h); exact Or.inl rfl⟩
theorem fp_X3_44 {nm : String} : go_FP "BitRecogniser$Listing" nm 44 3 7 := ⟨fs_X3_44, fun C T N h => by cases (show (go_R3, go_T3, 19) = (C, T, N) from Option.some.inj h); exact Or.inl rfl⟩
theorem fp_X3_47 {nm : String} : go_FP "BitRecogniser$Listing" nm 47 3 13 := ⟨fs_X3_47, fun C T N h => by cases (show (go_R3, go_T3, 19) = (C, T, N) from Option.some.inj h); exact Or.inl rfl⟩
theorem fp_X3_97 {nm : String} : go_FP "BitRecogniser$Listing" nm 97 3 8 := ⟨fs_X3_97, fun C T N h => by cases (show (go_R3, go_T3, 19) = (C, T, N) from Option.some.inj h); exact Or.inl rfl⟩
theorem fp_X3_100 {nm : String} : go_FP "BitRecogniser$Listing" nm 100 3 9 := ⟨fs_X3_100, fun C T N h => by cases (show (go_R3, go_T3, 19) = (C, T, N) from Option.some.inj h); exact Or.inl rfl⟩
theorem fp_X3_103 {nm : String} : go_FP "BitRecogniser$Listing" nm 103 3 10 := ⟨fs_X3_103, fun C T N h => by cases (show (go_R3, go_T3, 19) = (C, T, N) from Option.some.inj h); exact Or.inl rfl⟩
theorem fp_X3_106 {nm : String} : go_FP "BitRecogniser$Listing" nm 106 3 11 := ⟨fs_X3_106, fun C T N h => by cases (show (go_R3, go_T3, 19) = (C, T, N) from Option.some.inj h); exact Or.inl rfl⟩
theorem fp_X3_109 {nm : String} : go_FP "BitRecogniser$Listing" nm 109 3 12 := ⟨fs_X3_109, fun C T N h => by cases (show (go_R3, go_T3, 19) = (C, T, N) from Option.some.inj h); exact Or.inl rfl⟩
theorem fp_X3_175 {nm : String} : go_FP "BitRecogniser$Listing" nm 175 3 16 := ⟨fs_X3_175, fun C T N h => by cases (show (go_R3, go_T3, 19) = (C, T, N) from Option.some.inj h); exact Or.inl rfl⟩
theorem fp_X4_13 : go_FP "BitRecogniser$Nearest" "<init>" 13 4 7 := ⟨fs_X4_13, fun C T N h => by cases (show (go_R4, go_T4, 8) = (C, T, N) from Option.some.inj h); exact Or.inr ⟨rfl, rfl, rfl⟩⟩
theorem fp_X5_11 : go_FP "BitRecogniser$Past" "<init>" 11 5 0 := ⟨fs_X5_11, fun C T N h => by cases (show (go_R5, go_T5, 5) = (C, T, N) from Option.some.inj h); exact Or.inr ⟨rfl, rfl, rfl⟩⟩
theorem fp_X5_18 : go_FP "BitRecogniser$Past" "<init>" 18 5 1 := ⟨fs_X5_18, fun C T N h => by cases (show (go_R5, go_T5, 5) = (C, T, N) from Option.some.inj h); exact Or.inr ⟨rfl, rfl, rfl⟩⟩
theorem fp_X5_21 : go_FP "BitRecogniser$Past" "<init>" 21 5 2 := ⟨fs_X5_21, fun C T N h => by cases (show (go_R5, go_T5, 5) = (C, T, N) from Option.some.inj h); exact Or.inr ⟨rfl, rfl, rfl⟩⟩
theorem fp_X5_25 {nm : String} : go_FP "BitRecogniser$Past" nm 25 5 3 := ⟨fs_X5_25, fun C T N h => by cases (show (go_R5, go_T5, 5) = (C, T, N) from Option.some.inj h); exact Or.inl rfl⟩
theorem fp_X5_37 {nm : String} : go_FP "BitRecogniser$Past" nm 37 5 4 := ⟨fs_X5_37, fun C T N h => by cases (show (go_R5, go_T5, 5) = (C, T, N) from Option.some.inj h); exact Or.inl rfl⟩
theorem fp_X7_9_6 : go_FP "BitRecogniser$Table" "<init>" 9 6 0 := ⟨fs_X7_9_6, fun C T N h => by cases (show (go_R6, go_T6, 7) = (C, T, N) from Option.some.inj h); exact Or.inr ⟨rfl, rfl, rfl⟩⟩
theorem fp_X7_9_2 : go_FP "BitRecogniser$Table" "<init>" 9 2 0 := ⟨fs_X7_9_2, fun C T N h => by cases (show (go_R2, go_T2, 8) = (C, T, N) from Option.some.inj h); exact Or.inr ⟨rfl, rfl, rfl⟩⟩
theorem fp_X7_9_4 : go_FP "BitRecogniser$Table" "<init>" 9 4 0 := ⟨fs_X7_9_4, fun C T N h => by cases (show (go_R4, go_T4, 8) = (C, T, N) from Option.some.inj h); exact Or.inr ⟨rfl, rfl, rfl⟩⟩
theorem fp_X7_15_6 : go_FP "BitRecogniser$Table" "<init>" 15 6 1 := ⟨fs_X7_15_6, fun C T N h => by cases (show (go_R6, go_T6, 7) = (C, T, N) from Option.some.inj h); exact Or.inr ⟨rfl, rfl, rfl⟩⟩
theorem fp_X7_15_2 : go_FP "BitRecogniser$Table" "<init>" 15 2 1 := ⟨fs_X7_15_2, fun C T N h => by cases (show (go_R2, go_T2, 8) = (C, T, N) from Option.some.inj h); exact Or.inr ⟨rfl, rfl, rfl⟩⟩
theorem fp_X7_15_4 : go_FP "BitRecogniser$Table" "<init>" 15 4 1 := ⟨fs_X7_15_4, fun C T N h => by cases (show (go_R4, go_T4, 8) = (C, T, N) from Option.some.inj h); exact Or.inr ⟨rfl, rfl, rfl⟩⟩
theorem fp_X7_19_6 : go_FP "BitRecogniser$Table" "<init>" 19 6 2 := ⟨fs_X7_19_6, fun C T N h => by cases (show (go_R6, go_T6, 7) = (C, T, N) from Option.some.inj h); exact Or.inr ⟨rfl, rfl, rfl⟩⟩
theorem fp_X7_19_2 : go_FP "BitRecogniser$Table" "<init>" 19 2 2 := ⟨fs_X7_19_2, fun C T N h => by cases (show (go_R2, go_T2, 8) = (C, T, N) from Option.some.inj h); exact Or.inr ⟨rfl, rfl, rfl⟩⟩
theorem fp_X7_19_4 : go_FP "BitRecogniser$Table" "<init>" 19 4 2 := ⟨fs_X7_19_4, fun C T N h => by cases (show (go_R4, go_T4, 8) = (C, T, N) from Option.some.inj h); exact Or.inr ⟨rfl, rfl, rfl⟩⟩
theorem fp_X7_23_6 : go_FP "BitRecogniser$Table" "<init>" 23 6 3 := ⟨fs_X7_23_6, fun C T N h => by cases (show (go_R6, go_T6, 7) = (C, T, N) from Option.some.inj h); exact Or.inr ⟨rfl, rfl, rfl⟩⟩
theorem fp_X7_23_2 : go_FP "BitRecogniser$Table" "<init>" 23 2 3 := ⟨fs_X7_23_2, fun C T N h => by cases (show (go_R2, go_T2, 8) = (C, T, N) from Option.some.inj h); exact Or.inr ⟨rfl, rfl, rfl⟩⟩
theorem fp_X7_23_4 : go_FP "BitRecogniser$Table" "<init>" 23 4 3 := ⟨fs_X7_23_4, fun C T N h => by cases (show (go_R4, go_T4, 8) = (C, T, N) from Option.some.inj h); exact Or.inr ⟨rfl, rfl, rfl⟩⟩
theorem fp_X7_27_6 : go_FP "BitRecogniser$Table" "<init>" 27 6 4 := ⟨fs_X7_27_6, fun C T N h => by cases (show (go_R6, go_T6, 7) = (C, T, N) from Option.some.inj h); exact Or.inr ⟨rfl, rfl, rfl⟩⟩
theorem fp_X7_27_2 : go_FP "BitRecogniser$Table" "<init>" 27 2 4 := ⟨fs_X7_27_2, fun C T N h => by cases (show (go_R2, go_T2, 8) = (C, T, N) from Option.some.inj h); exact Or.inr ⟨rfl, rfl, rfl⟩⟩
theorem fp_X7_27_4 : go_FP "BitRecogniser$Table" "<init>" 27 4 4 := ⟨fs_X7_27_4, fun C T N h => by cases (show (go_R4, go_T4, 8) = (C, T, N) from Option.some.inj h); exact Or.inr ⟨rfl, rfl, rfl⟩⟩
theorem fp_X7_31_6 : go_FP "BitRecogniser$Table" "<init>" 31 6 5 := ⟨fs_X7_31_6, fun C T N h => by cases (show (go_R6, go_T6, 7) = (C, T, N) from Option.some.inj h); exact Or.inr ⟨rfl, rfl, rfl⟩⟩
theorem fp_X7_31_2 : go_FP "BitRecogniser$Table" "<init>" 31 2 5 := ⟨fs_X7_31_2, fun C T N h => by cases (show (go_R2, go_T2, 8) = (C, T, N) from Option.some.inj h); exact Or.inr ⟨rfl, rfl, rfl⟩⟩
theorem fp_X7_31_4 : go_FP "BitRecogniser$Table" "<init>" 31 4 5 := ⟨fs_X7_31_4, fun C T N h => by cases (show (go_R4, go_T4, 8) = (C, T, N) from Option.some.inj h); exact Or.inr ⟨rfl, rfl, rfl⟩⟩
theorem fp_X8_9 : go_FP "BitRecogniser$Tape" "<init>" 9 7 0 := ⟨fs_X8_9, fun C T N h => by cases (show (go_R7, go_T7, 4) = (C, T, N) from Option.some.inj h); exact Or.inr ⟨rfl, rfl, rfl⟩⟩
theorem fp_X8_15 {nm : String} : go_FP "BitRecogniser$Tape" nm 15 7 3 := ⟨fs_X8_15, fun C T N h => by cases (show (go_R7, go_T7, 4) = (C, T, N) from Option.some.inj h); exact Or.inl rfl⟩
theorem fp_X8_19 {nm : String} : go_FP "BitRecogniser$Tape" nm 19 7 1 := ⟨fs_X8_19, fun C T N h => by cases (show (go_R7, go_T7, 4) = (C, T, N) from Option.some.inj h); exact Or.inl rfl⟩
theorem fp_X8_41 {nm : String} : go_FP "BitRecogniser$Tape" nm 41 7 2 := ⟨fs_X8_41, fun C T N h => by cases (show (go_R7, go_T7, 4) = (C, T, N) from Option.some.inj h); exact Or.inl rfl⟩
theorem fp_X9_9 : go_FP "BitRecogniser$Told" "<init>" 9 8 0 := ⟨fs_X9_9, fun C T N h => by cases (show (go_R8, go_T8, 4) = (C, T, N) from Option.some.inj h); exact Or.inr ⟨rfl, rfl, rfl⟩⟩
theorem fp_X9_19 {nm : String} : go_FP "BitRecogniser$Told" nm 19 8 1 := ⟨fs_X9_19, fun C T N h => by cases (show (go_R8, go_T8, 4) = (C, T, N) from Option.some.inj h); exact Or.inl rfl⟩
theorem fp_X9_23 {nm : String} : go_FP "BitRecogniser$Told" nm 23 8 2 := ⟨fs_X9_23, fun C T N h => by cases (show (go_R8, go_T8, 4) = (C, T, N) from Option.some.inj h); exact Or.inl rfl⟩
theorem fp_X9_27 {nm : String} : go_FP "BitRecogniser$Told" nm 27 8 3 := ⟨fs_X9_27, fun C T N h => by cases (show (go_R8, go_T8, 4) = (C, T, N) from Option.some.inj h); exact Or.inl rfl⟩
theorem fp_X10_11 : go_FP "BitRecogniser$Vocabulary" "<init>" 11 9 0 := ⟨fs_X10_11, fun C T N h => by cases (show (go_R9, go_T9, 2) = (C, T, N) from Option.some.inj h); exact Or.inr ⟨rfl, rfl, rfl⟩⟩
theorem fp_X12_7 : go_FP "BitRecogniserModel" "<init>" 7 11 1 := ⟨fs_X12_7, fun C T N h => by cases (show (go_R11, go_T11, 53) = (C, T, N) from Option.some.inj h); exact Or.inr ⟨rfl, rfl, rfl⟩⟩
theorem fp_X12_13 : go_FP "BitRecogniserModel" "<init>" 13 11 2 := ⟨fs_X12_13, fun C T N h => by cases (show (go_R11, go_T11, 53) = (C, T, N) from Option.some.inj h); exact Or.inr ⟨rfl, rfl, rfl⟩⟩
theorem fp_X12_16 : go_FP "BitRecogniserModel" "<init>" 16 11 4 := ⟨fs_X12_16, fun C T N h => by cases (show (go_R11, go_T11, 53) = (C, T, N) from Option.some.inj h); exact Or.inr ⟨rfl, rfl, rfl⟩⟩
theorem fp_X12_20 : go_FP "BitRecogniserModel" "<init>" 20 11 5 := ⟨fs_X12_20, fun C T N h => by cases (show (go_R11, go_T11, 53) = (C, T, N) from Option.some.inj h); exact Or.inr ⟨rfl, rfl, rfl⟩⟩
theorem fp_X12_23 {nm : String} : go_FP "BitRecogniserModel" nm 23 11 8 := ⟨fs_X12_23, fun C T N h => by cases (show (go_R11, go_T11, 53) = (C, T, N) from Option.some.inj h); exact Or.inl rfl⟩
theorem fp_X12_27 : go_FP "BitRecogniserModel" "<init>" 27 11 9 := ⟨fs_X12_27, fun C T N h => by cases (show (go_R11, go_T11, 53) = (C, T, N) from Option.some.inj h); exact Or.inr ⟨rfl, rfl, rfl⟩⟩
theorem fp_X12_30 : go_FP "BitRecogniserModel" "<init>" 30 11 10 := ⟨fs_X12_30, fun C T N h => by cases (show (go_R11, go_T11, 53) = (C, T, N) from Option.some.inj h); exact Or.inr ⟨rfl, rfl, rfl⟩⟩
theorem fp_X12_33 : go_FP "BitRecogniserModel" "<init>" 33 11 11 := ⟨fs_X12_33, fun C T N h => by cases (show (go_R11, go_T11, 53) = (C, T, N) from Option.some.inj h); exact Or.inr ⟨rfl, rfl, rfl⟩⟩
theorem fp_X12_36 : go_FP "BitRecogniserModel" "<init>" 36 11 12 := ⟨fs_X12_36, fun C T N h => by cases (show (go_R11, go_T11, 53) = (C, T, N) from Option.some.inj h); exact Or.inr ⟨rfl, rfl, rfl⟩⟩
theorem fp_X12_39 : go_FP "BitRecogniserModel" "<init>" 39 11 13 := ⟨fs_X12_39, fun C T N h => by cases (show (go_R11, go_T11, 53) = (C, T, N) from Option.some.inj h); exact Or.inr ⟨rfl, rfl, rfl⟩⟩
theorem fp_X12_42 : go_FP "BitRecogniserModel" "<init>" 42 11 14 := ⟨fs_X12_42, fun C T N h => by cases (show (go_R11, go_T11, 53) = (C, T, N) from Option.some.inj h); exact Or.inr ⟨rfl, rfl, rfl⟩⟩
theorem fp_X12_45 : go_FP "BitRecogniserModel" "<init>" 45 11 17 := ⟨fs_X12_45, fun C T N h => by cases (show (go_R11, go_T11, 53) = (C, T, N) from Option.some.inj h); exact Or.inr ⟨rfl, rfl, rfl⟩⟩
theorem fp_X12_48 : go_FP "BitRecogniserModel" "<init>" 48 11 18 := ⟨fs_X12_48, fun C T N h => by cases (show (go_R11, go_T11, 53) = (C, T, N) from Option.some.inj h); exact Or.inr ⟨rfl, rfl, rfl⟩⟩
theorem fp_X12_51 : go_FP "BitRecogniserModel" "<init>" 51 11 19 := ⟨fs_X12_51, fun C T N h => by cases (show (go_R11, go_T11, 53) = (C, T, N) from Option.some.inj h); exact Or.inr ⟨rfl, rfl, rfl⟩⟩
theorem fp_X12_55 : go_FP "BitRecogniserModel" "<init>" 55 11 21 := ⟨fs_X12_55, fun C T N h => by cases (show (go_R11, go_T11, 53) = (C, T, N) from Option.some.inj h); exact Or.inr ⟨rfl, rfl, rfl⟩⟩
theorem fp_X12_58 : go_FP "BitRecogniserModel" "<init>" 58 11 22 := ⟨fs_X12_58, fun C T N h => by cases (show (go_R11, go_T11, 53) = (C, T, N) from Option.some.inj h); exact Or.inr ⟨rfl, rfl, rfl⟩⟩
theorem fp_X12_61 : go_FP "BitRecogniserModel" "<init>" 61 11 23 := ⟨fs_X12_61, fun C T N h => by cases (show (go_R11, go_T11, 53) = (C, T, N) from Option.some.inj h); exact Or.inr ⟨rfl, rfl, rfl⟩⟩
theorem fp_X12_64 : go_FP "BitRecogniserModel" "<init>" 64 11 24 := ⟨fs_X12_64, fun C T N h => by cases (show (go_R11, go_T11, 53) = (C, T, N) from Option.some.inj h); exact Or.inr ⟨rfl, rfl, rfl⟩⟩
theorem fp_X12_67 : go_FP "BitRecogniserModel" "<init>" 67 11 25 := ⟨fs_X12_67, fun C T N h => by cases (show (go_R11, go_T11, 53) = (C, T, N) from Option.some.inj h); exact Or.inr ⟨rfl, rfl, rfl⟩⟩
theorem fp_X12_70 : go_FP "BitRecogniserModel" "<init>" 70 11 26 := ⟨fs_X12_70, fun C T N h => by cases (show (go_R11, go_T11, 53) = (C, T, N) from Option.some.inj h); exact Or.inr ⟨rfl, rfl, rfl⟩⟩
theorem fp_X12_73 : go_FP "BitRecogniserModel" "<init>" 73 11 27 := ⟨fs_X12_73, fun C T N h => by cases (show (go_R11, go_T11, 53) = (C, T, N) from Option.some.inj h); exact Or.inr ⟨rfl, rfl, rfl⟩⟩
theorem fp_X12_76 : go_FP "BitRecogniserModel" "<init>" 76 11 28 := ⟨fs_X12_76, fun C T N h => by cases (show (go_R11, go_T11, 53) = (C, T, N) from Option.some.inj h); exact Or.inr ⟨rfl, rfl, rfl⟩⟩
theorem fp_X12_79 : go_FP "BitRecogniserModel" "<init>" 79 11 29 := ⟨fs_X12_79, fun C T N h => by cases (show (go_R11, go_T11, 53) = (C, T, N) from Option.some.inj h); exact Or.inr ⟨rfl, rfl, rfl⟩⟩
theorem fp_X12_82 : go_FP "BitRecogniserModel" "<init>" 82 11 30 := ⟨fs_X12_82, fun C T N h => by cases (show (go_R11, go_T11, 53) = (C, T, N) from Option.some.inj h); exact Or.inr ⟨rfl, rfl, rfl⟩⟩
theorem fp_X12_85 : go_FP "BitRecogniserModel" "<init>" 85 11 31 := ⟨fs_X12_85, fun C T N h => by cases (show (go_R11, go_T11, 53) = (C, T, N) from Option.some.inj h); exact Or.inr ⟨rfl, rfl, rfl⟩⟩
theorem fp_X12_88 : go_FP "BitRecogniserModel" "<init>" 88 11 32 := ⟨fs_X12_88, fun C T N h => by cases (show (go_R11, go_T11, 53) = (C, T, N) from Option.some.inj h); exact Or.inr ⟨rfl, rfl, rfl⟩⟩
theorem fp_X12_91 : go_FP "BitRecogniserModel" "<init>" 91 11 33 := ⟨fs_X12_91, fun C T N h => by cases (show (go_R11, go_T11, 53) = (C, T, N) from Option.some.inj h); exact Or.inr ⟨rfl, rfl, rfl⟩⟩
theorem fp_X12_94 : go_FP "BitRecogniserModel" "<init>" 94 11 34 := ⟨fs_X12_94, fun C T N h => by cases (show (go_R11, go_T11, 53) = (C, T, N) from Option.some.inj h); exact Or.inr ⟨rfl, rfl, rfl⟩⟩
theorem fp_X12_97 : go_FP "BitRecogniserModel" "<init>" 97 11 38 := ⟨fs_X12_97, fun C T N h => by cases (show (go_R11, go_T11, 53) = (C, T, N) from Option.some.inj h); exact Or.inr ⟨rfl, rfl, rfl⟩⟩
theorem fp_X12_100 : go_FP "BitRecogniserModel" "<init>" 100 11 39 := ⟨fs_X12_100, fun C T N h => by cases (show (go_R11, go_T11, 53) = (C, T, N) from Option.some.inj h); exact Or.inr ⟨rfl, rfl, rfl⟩⟩
theorem fp_X12_103 : go_FP "BitRecogniserModel" "<init>" 103 11 40 := ⟨fs_X12_103, fun C T N h => by cases (show (go_R11, go_T11, 53) = (C, T, N) from Option.some.inj h); exact Or.inr ⟨rfl, rfl, rfl⟩⟩
theorem fp_X12_106 : go_FP "BitRecogniserModel" "<init>" 106 11 42 := ⟨fs_X12_106, fun C T N h => by cases (show (go_R11, go_T11, 53) = (C, T, N) from Option.some.inj h); exact Or.inr ⟨rfl, rfl, rfl⟩⟩
theorem fp_X12_109 : go_FP "BitRecogniserModel" "<init>" 109 11 43 := ⟨fs_X12_109, fun C T N h => by cases (show (go_R11, go_T11, 53) = (C, T, N) from Option.some.inj h); exact Or.inr ⟨rfl, rfl, rfl⟩⟩
theorem fp_X12_112 : go_FP "BitRecogniserModel" "<init>" 112 11 44 := ⟨fs_X12_112, fun C T N h => by cases (show (go_R11, go_T11, 53) = (C, T, N) from Option.some.inj h); exact Or.inr ⟨rfl, rfl, rfl⟩⟩
theorem fp_X12_115 : go_FP "BitRecogniserModel" "<init>" 115 11 45 := ⟨fs_X12_115, fun C T N h => by cases (show (go_R11, go_T11, 53) = (C, T, N) from Option.some.inj h); exact Or.inr ⟨rfl, rfl, rfl⟩⟩
theorem fp_X12_118 : go_FP "BitRecogniserModel" "<init>" 118 11 46 := ⟨fs_X12_118, fun C T N h => by cases (show (go_R11, go_T11, 53) = (C, T, N) from Option.some.inj h); exact Or.inr ⟨rfl, rfl, rfl⟩⟩
theorem fp_X12_121 : go_FP "BitRecogniserModel" "<init>" 121 11 47 := ⟨fs_X12_121, fun C T N h => by cases (show (go_R11, go_T11, 53) = (C, T, N) from Option.some.inj h); exact Or.inr ⟨rfl, rfl, rfl⟩⟩
theorem fp_X12_124 : go_FP "BitRecogniserModel" "<init>" 124 11 48 := ⟨fs_X12_124, fun C T N h => by cases (show (go_R11, go_T11, 53) = (C, T, N) from Option.some.inj h); exact Or.inr ⟨rfl, rfl, rfl⟩⟩
theorem fp_X12_127 : go_FP "BitRecogniserModel" "<init>" 127 11 49 := ⟨fs_X12_127, fun C T N h => by cases (show (go_R11, go_T11, 53) = (C, T, N) from Option.some.inj h); exact Or.inr ⟨rfl, rfl, rfl⟩⟩
theorem fp_X12_130 : go_FP "BitRecogniserModel" "<init>" 130 11 50 := ⟨fs_X12_130, fun C T N h => by cases (show (go_R11, go_T11, 53) = (C, T, N) from Option.some.inj h); exact Or.inr ⟨rfl, rfl, rfl⟩⟩
theorem fp_X12_133 : go_FP "BitRecogniserModel" "<init>" 133 11 51 := ⟨fs_X12_133, fun C T N h => by cases (show (go_R11, go_T11, 53) = (C, T, N) from Option.some.inj h); exact Or.inr ⟨rfl, rfl, rfl⟩⟩
theorem fp_X12_136 : go_FP "BitRecogniserModel" "<init>" 136 11 52 := ⟨fs_X12_136, fun C T N h => by cases (show (go_R11, go_T11, 53) = (C, T, N) from Option.some.inj h); exact Or.inr ⟨rfl, rfl, rfl⟩⟩
theorem fp_X12_139 {nm : String} : go_FP "BitRecogniserModel" nm 139 11 0 := ⟨fs_X12_139, fun C T N h => by cases (show (go_R11, go_T11, 53) = (C, T, N) from Option.some.inj h); exact Or.inl rfl⟩
theorem fp_X12_152 {nm : String} : go_FP "BitRecogniserModel" nm 152 11 3 := ⟨fs_X12_152, fun C T N h => by cases (show (go_R11, go_T11, 53) = (C, T, N) from Option.some.inj h); exact Or.inl rfl⟩
theorem fp_X12_155 {nm : String} : go_FP "BitRecogniserModel" nm 155 11 20 := ⟨fs_X12_155, fun C T N h => by cases (show (go_R11, go_T11, 53) = (C, T, N) from Option.some.inj h); exact Or.inl rfl⟩
theorem fp_X12_159 {nm : String} : go_FP "BitRecogniserModel" nm 159 11 6 := ⟨fs_X12_159, fun C T N h => by cases (show (go_R11, go_T11, 53) = (C, T, N) from Option.some.inj h); exact Or.inl rfl⟩
theorem fp_X12_162 {nm : String} : go_FP "BitRecogniserModel" nm 162 11 7 := ⟨fs_X12_162, fun C T N h => by cases (show (go_R11, go_T11, 53) = (C, T, N) from Option.some.inj h); exact Or.inl rfl⟩
theorem fp_X12_215 {nm : String} : go_FP "BitRecogniserModel" nm 215 11 15 := ⟨fs_X12_215, fun C T N h => by cases (show (go_R11, go_T11, 53) = (C, T, N) from Option.some.inj h); exact Or.inl rfl⟩
theorem fp_X12_218 {nm : String} : go_FP "BitRecogniserModel" nm 218 11 16 := ⟨fs_X12_218, fun C T N h => by cases (show (go_R11, go_T11, 53) = (C, T, N) from Option.some.inj h); exact Or.inl rfl⟩
theorem fp_X12_325 {nm : String} : go_FP "BitRecogniserModel" nm 325 11 36 := ⟨fs_X12_325, fun C T N h => by cases (show (go_R11, go_T11, 53) = (C, T, N) from Option.some.inj h); exact Or.inl rfl⟩
theorem fp_X12_328 {nm : String} : go_FP "BitRecogniserModel" nm 328 11 37 := ⟨fs_X12_328, fun C T N h => by cases (show (go_R11, go_T11, 53) = (C, T, N) from Option.some.inj h); exact Or.inl rfl⟩
theorem fp_X12_336 {nm : String} : go_FP "BitRecogniserModel" nm 336 11 35 := ⟨fs_X12_336, fun C T N h => by cases (show (go_R11, go_T11, 53) = (C, T, N) from Option.some.inj h); exact Or.inl rfl⟩
theorem fp_X12_363 {nm : String} : go_FP "BitRecogniserModel" nm 363 11 41 := ⟨fs_X12_363, fun C T N h => by cases (show (go_R11, go_T11, 53) = (C, T, N) from Option.some.inj h); exact Or.inl rfl⟩
theorem si_X11_11 : go_SI "BitRecogniser" 11 mx_X8_init 0 := ⟨mf_X8_init, go_mem_1 28 rfl rfl, rfl, rfl, go_mem_1 27 rfl rfl⟩
theorem si_X11_18 : go_SI "BitRecogniser" 18 mx_X9_init 0 := ⟨mf_X9_init, go_mem_1 51 rfl rfl, rfl, rfl, go_mem_1 50 rfl rfl⟩
theorem si_X11_25 : go_SI "BitRecogniser" 25 mx_X5_init 0 := ⟨mf_X5_init, go_mem_1 75 rfl rfl, rfl, rfl, go_mem_1 74 rfl rfl⟩
theorem si_X11_32 : go_SI "BitRecogniser" 32 mx_X0_init 0 := ⟨mf_X0_init, go_mem_1 102 rfl rfl, rfl, rfl, go_mem_1 101 rfl rfl⟩
theorem si_X11_39 : go_SI "BitRecogniser" 39 mx_X1_init 1 := ⟨mf_X1_init, go_mem_1 171 rfl rfl, rfl, rfl, go_mem_1 170 rfl rfl⟩
theorem si_X11_48 : go_SI "BitRecogniser" 48 mx_X6_init 2 := ⟨mf_X6_init, go_mem_1 200 rfl rfl, rfl, rfl, go_mem_1 199 rfl rfl⟩
theorem si_X11_57 : go_SI "BitRecogniser" 57 mx_X2_init 3 := ⟨mf_X2_init, go_mem_2 9 rfl rfl, rfl, rfl, go_mem_2 8 rfl rfl⟩
theorem si_X11_66 : go_SI "BitRecogniser" 66 mx_X3_init 3 := ⟨mf_X3_init, go_mem_2 26 rfl rfl, rfl, rfl, go_mem_2 25 rfl rfl⟩
theorem si_X11_81 : go_SI "BitRecogniser" 81 mx_X4_init 3 := ⟨mf_X4_init, go_mem_2 93 rfl rfl, rfl, rfl, go_mem_2 92 rfl rfl⟩
theorem si_X11_90 : go_SI "BitRecogniser" 90 mx_X10_init 0 := ⟨mf_X10_init, go_mem_2 111 rfl rfl, rfl, rfl, go_mem_2 110 rfl rfl⟩
theorem si_X2_3 : go_SI "BitRecogniser$Forest" 3 mx_X7_init 4 := ⟨mf_X7_init, go_mem_1 204 rfl rfl, rfl, rfl, go_mem_2 11 rfl rfl⟩
theorem si_X4_7 : go_SI "BitRecogniser$Nearest" 7 mx_X7_init 4 := ⟨mf_X7_init, go_mem_1 204 rfl rfl, rfl, rfl, go_mem_2 96 rfl rfl⟩
theorem si_X5_17 : go_SI "BitRecogniser$Past" 17 mx_X9_init 0 := ⟨mf_X9_init, go_mem_1 51 rfl rfl, rfl, rfl, go_mem_1 80 rfl rfl⟩
theorem si_X6_5 : go_SI "BitRecogniser$Rounds" 5 mx_X7_init 4 := ⟨mf_X7_init, go_mem_1 204 rfl rfl, rfl, rfl, go_mem_1 203 rfl rfl⟩
theorem si_L_9 : go_SI "BitRecogniserLaw" 9 mx_X11_init 0 := ⟨mf_X11_init, go_mem_1 20 rfl rfl, rfl, rfl, go_mem_1 19 rfl rfl⟩
theorem si_L_12 : go_SI "BitRecogniserLaw" 12 mx_X12_init 0 := ⟨mf_X12_init, go_mem_5 237 rfl rfl, rfl, rfl, go_mem_5 236 rfl rfl⟩
theorem ss_X11_162 : go_SS "BitRecogniser" 162 mx_J6_bitCount_0f7a4 1 := ⟨mf_J6_bitCount_0f7a4, go_mem_3 31 rfl rfl, Or.inl (go_mem_3 30 rfl rfl)⟩
theorem ss_X11_173 : go_SS "BitRecogniser" 173 mx_X11_headOf 1 := ⟨mf_X11_headOf, go_mem_3 49 rfl rfl, Or.inl (go_mem_3 48 rfl rfl)⟩
theorem ss_X11_176 : go_SS "BitRecogniser" 176 mx_X11_sizeOf 1 := ⟨mf_X11_sizeOf, go_mem_3 52 rfl rfl, Or.inl (go_mem_3 51 rfl rfl)⟩
theorem ss_X11_179 : go_SS "BitRecogniser" 179 mx_X11_partOf 2 := ⟨mf_X11_partOf, go_mem_3 55 rfl rfl, Or.inl (go_mem_3 54 rfl rfl)⟩
theorem ss_X11_192 : go_SS "BitRecogniser" 192 mx_X11_intAt 2 := ⟨mf_X11_intAt, go_mem_2 204 rfl rfl, Or.inl (go_mem_3 179 rfl rfl)⟩
theorem ss_X11_196 : go_SS "BitRecogniser" 196 mx_X11_madeOf 1 := ⟨mf_X11_madeOf, go_mem_3 114 rfl rfl, Or.inl (go_mem_3 180 rfl rfl)⟩
theorem ss_X11_199 : go_SS "BitRecogniser" 199 mx_X11_leftOf 1 := ⟨mf_X11_leftOf, go_mem_3 105 rfl rfl, Or.inl (go_mem_3 181 rfl rfl)⟩
theorem ss_X11_202 : go_SS "BitRecogniser" 202 mx_X11_rightOf 1 := ⟨mf_X11_rightOf, go_mem_3 108 rfl rfl, Or.inl (go_mem_3 182 rfl rfl)⟩
theorem mm_X11_258 : Cond.methodLink "BitRecogniser" 258 Lib.MathLoose.max_long.x ∈ go_tbl := go_mem_4 116 rfl rfl
theorem ss_X11_270 : go_SS "BitRecogniser" 270 mx_J6_numberOfLeadingZeros_0f7a4 1 := ⟨mf_J6_numberOfLeadingZeros_0f7a4, go_mem_4 143 rfl rfl, Or.inl (go_mem_4 142 rfl rfl)⟩
theorem ss_X11_305 : go_SS "BitRecogniser" 305 mx_J13_bitCount_95d88 1 := ⟨mf_J13_bitCount_95d88, go_mem_5 22 rfl rfl, Or.inl (go_mem_5 21 rfl rfl)⟩
theorem ss_X11_345 : go_SS "BitRecogniser" 345 mx_X4_othersIn 1 := ⟨mf_X4_othersIn, go_mem_5 118 rfl rfl, Or.inl (go_mem_5 117 rfl rfl)⟩
theorem ss_X11_348 : go_SS "BitRecogniser" 348 mx_X4_letterIn 2 := ⟨mf_X4_letterIn, go_mem_5 125 rfl rfl, Or.inl (go_mem_5 124 rfl rfl)⟩
theorem ss_X11_365 : go_SS "BitRecogniser" 365 mx_X11_putLong 3 := ⟨mf_X11_putLong, go_mem_3 173 rfl rfl, Or.inl (go_mem_5 193 rfl rfl)⟩
theorem ss_X11_369 : go_SS "BitRecogniser" 369 mx_X11_putInt 3 := ⟨mf_X11_putInt, go_mem_2 185 rfl rfl, Or.inl (go_mem_5 194 rfl rfl)⟩
theorem ss_X11_375 : go_SS "BitRecogniser" 375 mx_X11_longAt 2 := ⟨mf_X11_longAt, go_mem_3 162 rfl rfl, Or.inl (go_mem_5 204 rfl rfl)⟩
theorem ss_X0_52 : go_SS "BitRecogniser$Binary" 52 mx_X11_putInt 3 := ⟨mf_X11_putInt, go_mem_2 185 rfl rfl, Or.inr ⟨"BitRecogniser", go_nem_3 69 rfl rfl⟩⟩
theorem ss_X0_69 : go_SS "BitRecogniser$Binary" 69 mx_X11_sizeOf 1 := ⟨mf_X11_sizeOf, go_mem_3 52 rfl rfl, Or.inr ⟨"BitRecogniser", go_nem_3 75 rfl rfl⟩⟩
theorem ss_X0_72 : go_SS "BitRecogniser$Binary" 72 mx_X11_headOf 1 := ⟨mf_X11_headOf, go_mem_3 49 rfl rfl, Or.inr ⟨"BitRecogniser", go_nem_3 76 rfl rfl⟩⟩
theorem ss_X0_75 : go_SS "BitRecogniser$Binary" 75 mx_X11_intAt 2 := ⟨mf_X11_intAt, go_mem_2 204 rfl rfl, Or.inr ⟨"BitRecogniser", go_nem_3 77 rfl rfl⟩⟩
theorem ss_X0_79 : go_SS "BitRecogniser$Binary" 79 mx_X11_partOf 2 := ⟨mf_X11_partOf, go_mem_3 55 rfl rfl, Or.inr ⟨"BitRecogniser", go_nem_3 78 rfl rfl⟩⟩
theorem ss_X0_110 : go_SS "BitRecogniser$Binary" 110 mx_X11_leftOf 1 := ⟨mf_X11_leftOf, go_mem_3 105 rfl rfl, Or.inr ⟨"BitRecogniser", go_nem_3 104 rfl rfl⟩⟩
theorem ss_X0_113 : go_SS "BitRecogniser$Binary" 113 mx_X11_rightOf 1 := ⟨mf_X11_rightOf, go_mem_3 108 rfl rfl, Or.inr ⟨"BitRecogniser", go_nem_3 107 rfl rfl⟩⟩
theorem ss_X0_116 : go_SS "BitRecogniser$Binary" 116 mx_X0_fits 3 := ⟨mf_X0_fits, go_mem_3 111 rfl rfl, Or.inl (go_mem_3 110 rfl rfl)⟩
theorem ss_X0_120 : go_SS "BitRecogniser$Binary" 120 mx_X11_madeOf 1 := ⟨mf_X11_madeOf, go_mem_3 114 rfl rfl, Or.inr ⟨"BitRecogniser", go_nem_3 113 rfl rfl⟩⟩
theorem ss_X0_127 : go_SS "BitRecogniser$Binary" 127 mx_X0_walk 5 := ⟨mf_X0_walk, go_mem_3 129 rfl rfl, Or.inl (go_mem_3 128 rfl rfl)⟩
theorem ss_X1_39 : go_SS "BitRecogniser$Chart" 39 mx_X11_putInt 3 := ⟨mf_X11_putInt, go_mem_2 185 rfl rfl, Or.inr ⟨"BitRecogniser", go_nem_3 140 rfl rfl⟩⟩
theorem ss_X1_46 : go_SS "BitRecogniser$Chart" 46 mx_X11_intAt 2 := ⟨mf_X11_intAt, go_mem_2 204 rfl rfl, Or.inr ⟨"BitRecogniser", go_nem_3 145 rfl rfl⟩⟩
theorem ss_X1_54 : go_SS "BitRecogniser$Chart" 54 mx_X11_slotOf 3 := ⟨mf_X11_slotOf, go_mem_3 159 rfl rfl, Or.inr ⟨"BitRecogniser", go_nem_3 158 rfl rfl⟩⟩
theorem ss_X1_64 : go_SS "BitRecogniser$Chart" 64 mx_X11_putLong 3 := ⟨mf_X11_putLong, go_mem_3 173 rfl rfl, Or.inr ⟨"BitRecogniser", go_nem_3 172 rfl rfl⟩⟩
theorem ss_X1_80 : go_SS "BitRecogniser$Chart" 80 mx_X11_longAt 2 := ⟨mf_X11_longAt, go_mem_3 162 rfl rfl, Or.inr ⟨"BitRecogniser", go_nem_3 161 rfl rfl⟩⟩
theorem ss_X2_15 : go_SS "BitRecogniser$Forest" 15 mx_X2_times 2 := ⟨mf_X2_times, go_mem_4 51 rfl rfl, Or.inl (go_mem_4 50 rfl rfl)⟩
theorem ss_X2_19 : go_SS "BitRecogniser$Forest" 19 mx_X2_plus 2 := ⟨mf_X2_plus, go_mem_4 73 rfl rfl, Or.inl (go_mem_4 72 rfl rfl)⟩
theorem ss_X2_25 : go_SS "BitRecogniser$Forest" 25 mx_X11_longAt 2 := ⟨mf_X11_longAt, go_mem_3 162 rfl rfl, Or.inr ⟨"BitRecogniser", go_nem_4 91 rfl rfl⟩⟩
theorem ss_X2_33 : go_SS "BitRecogniser$Forest" 33 mx_X11_putLong 3 := ⟨mf_X11_putLong, go_mem_3 173 rfl rfl, Or.inr ⟨"BitRecogniser", go_nem_4 97 rfl rfl⟩⟩
theorem ss_X2_47 : go_SS "BitRecogniser$Forest" 47 mx_X11_intAt 2 := ⟨mf_X11_intAt, go_mem_2 204 rfl rfl, Or.inr ⟨"BitRecogniser", go_nem_4 96 rfl rfl⟩⟩
theorem ss_X2_62 : go_SS "BitRecogniser$Forest" 62 mx_X11_slotOf 3 := ⟨mf_X11_slotOf, go_mem_3 159 rfl rfl, Or.inr ⟨"BitRecogniser", go_nem_4 215 rfl rfl⟩⟩
theorem ss_X3_85 : go_SS "BitRecogniser$Listing" 85 mx_X11_intAt 2 := ⟨mf_X11_intAt, go_mem_2 204 rfl rfl, Or.inr ⟨"BitRecogniser", go_nem_4 195 rfl rfl⟩⟩
theorem ss_X3_89 : go_SS "BitRecogniser$Listing" 89 mx_X11_putInt 3 := ⟨mf_X11_putInt, go_mem_2 185 rfl rfl, Or.inr ⟨"BitRecogniser", go_nem_4 189 rfl rfl⟩⟩
theorem ss_X3_93 : go_SS "BitRecogniser$Listing" 93 mx_X11_putLong 3 := ⟨mf_X11_putLong, go_mem_3 173 rfl rfl, Or.inr ⟨"BitRecogniser", go_nem_4 190 rfl rfl⟩⟩
theorem ss_X3_112 : go_SS "BitRecogniser$Listing" 112 mx_X11_longAt 2 := ⟨mf_X11_longAt, go_mem_3 162 rfl rfl, Or.inr ⟨"BitRecogniser", go_nem_4 196 rfl rfl⟩⟩
theorem ss_X3_120 : go_SS "BitRecogniser$Listing" 120 mx_X11_headOf 1 := ⟨mf_X11_headOf, go_mem_3 49 rfl rfl, Or.inr ⟨"BitRecogniser", go_nem_4 202 rfl rfl⟩⟩
theorem ss_X3_123 : go_SS "BitRecogniser$Listing" 123 mx_X11_sizeOf 1 := ⟨mf_X11_sizeOf, go_mem_3 52 rfl rfl, Or.inr ⟨"BitRecogniser", go_nem_4 203 rfl rfl⟩⟩
theorem ss_X3_126 : go_SS "BitRecogniser$Listing" 126 mx_X11_partOf 2 := ⟨mf_X11_partOf, go_mem_3 55 rfl rfl, Or.inr ⟨"BitRecogniser", go_nem_4 204 rfl rfl⟩⟩
theorem ss_X3_158 : go_SS "BitRecogniser$Listing" 158 mx_X11_leftOf 1 := ⟨mf_X11_leftOf, go_mem_3 105 rfl rfl, Or.inr ⟨"BitRecogniser", go_nem_4 220 rfl rfl⟩⟩
theorem ss_X3_161 : go_SS "BitRecogniser$Listing" 161 mx_X11_rightOf 1 := ⟨mf_X11_rightOf, go_mem_3 108 rfl rfl, Or.inr ⟨"BitRecogniser", go_nem_4 221 rfl rfl⟩⟩
theorem ss_X3_164 : go_SS "BitRecogniser$Listing" 164 mx_X2_times 2 := ⟨mf_X2_times, go_mem_4 51 rfl rfl, Or.inl (go_mem_4 222 rfl rfl)⟩
theorem ss_X3_168 : go_SS "BitRecogniser$Listing" 168 mx_X2_plus 2 := ⟨mf_X2_plus, go_mem_4 73 rfl rfl, Or.inl (go_mem_4 223 rfl rfl)⟩
theorem mm_X4_29 : Cond.methodLink "BitRecogniser$Nearest" 29 Lib.MathLoose.min_long.x ∈ go_tbl := go_mem_4 78 rfl rfl
theorem ss_X5_29 : go_SS "BitRecogniser$Past" 29 mx_X5_stateAt 2 := ⟨mf_X5_stateAt, go_mem_2 226 rfl rfl, Or.inl (go_mem_2 225 rfl rfl)⟩
theorem mm_X5_40 : Cond.methodLink "BitRecogniser$Past" 40 Lib.Math.min.name ∈ go_tbl := go_mem_2 237 rfl rfl
theorem mm_X6_11 : Cond.methodLink "BitRecogniser$Rounds" 11 Lib.MathLoose.max_long.x ∈ go_tbl := go_mem_4 62 rfl rfl
theorem mm_X6_23 : Cond.methodLink "BitRecogniser$Rounds" 23 Lib.MathLoose.min_long.x ∈ go_tbl := go_mem_4 84 rfl rfl
theorem ss_X7_44 : go_SS "BitRecogniser$Table" 44 mx_X11_putLong 3 := ⟨mf_X11_putLong, go_mem_3 173 rfl rfl, Or.inr ⟨"BitRecogniser", go_nem_4 7 rfl rfl⟩⟩
theorem ss_X7_56 : go_SS "BitRecogniser$Table" 56 mx_X11_slotOf 3 := ⟨mf_X11_slotOf, go_mem_3 159 rfl rfl, Or.inr ⟨"BitRecogniser", go_nem_4 41 rfl rfl⟩⟩
theorem ss_X7_63 : go_SS "BitRecogniser$Table" 63 mx_X11_longAt 2 := ⟨mf_X11_longAt, go_mem_3 162 rfl rfl, Or.inr ⟨"BitRecogniser", go_nem_4 42 rfl rfl⟩⟩
theorem ss_X7_88 : go_SS "BitRecogniser$Table" 88 mx_X11_intAt 2 := ⟨mf_X11_intAt, go_mem_2 204 rfl rfl, Or.inr ⟨"BitRecogniser", go_nem_4 31 rfl rfl⟩⟩
theorem ss_X7_92 : go_SS "BitRecogniser$Table" 92 mx_X0_fits 3 := ⟨mf_X0_fits, go_mem_3 111 rfl rfl, Or.inl (go_mem_4 32 rfl rfl)⟩
theorem ss_X7_96 : go_SS "BitRecogniser$Table" 96 mx_X11_leftOf 1 := ⟨mf_X11_leftOf, go_mem_3 105 rfl rfl, Or.inr ⟨"BitRecogniser", go_nem_4 33 rfl rfl⟩⟩
theorem ss_X7_104 : go_SS "BitRecogniser$Table" 104 mx_X11_rightOf 1 := ⟨mf_X11_rightOf, go_mem_3 108 rfl rfl, Or.inr ⟨"BitRecogniser", go_nem_4 43 rfl rfl⟩⟩
theorem ss_X7_111 : go_SS "BitRecogniser$Table" 111 mx_X11_madeOf 1 := ⟨mf_X11_madeOf, go_mem_3 114 rfl rfl, Or.inr ⟨"BitRecogniser", go_nem_4 65 rfl rfl⟩⟩
theorem ss_X8_22 : go_SS "BitRecogniser$Tape" 22 mx_X11_putInt 3 := ⟨mf_X11_putInt, go_mem_2 185 rfl rfl, Or.inr ⟨"BitRecogniser", go_nem_2 184 rfl rfl⟩⟩
theorem ss_X8_29 : go_SS "BitRecogniser$Tape" 29 mx_X11_intAt 2 := ⟨mf_X11_intAt, go_mem_2 204 rfl rfl, Or.inr ⟨"BitRecogniser", go_nem_2 203 rfl rfl⟩⟩
theorem ss_X8_33 : go_SS "BitRecogniser$Tape" 33 mx_X8_symbolOf 1 := ⟨mf_X8_symbolOf, go_mem_2 207 rfl rfl, Or.inl (go_mem_2 206 rfl rfl)⟩
theorem ss_X9_30 : go_SS "BitRecogniser$Told" 30 mx_X11_intAt 2 := ⟨mf_X11_intAt, go_mem_2 204 rfl rfl, Or.inr ⟨"BitRecogniser", go_nem_2 236 rfl rfl⟩⟩
theorem ss_X9_34 : go_SS "BitRecogniser$Told" 34 mx_X11_putInt 3 := ⟨mf_X11_putInt, go_mem_2 185 rfl rfl, Or.inr ⟨"BitRecogniser", go_nem_3 4 rfl rfl⟩⟩
theorem ss_X10_15 : go_SS "BitRecogniser$Vocabulary" 15 mx_X11_putLong 3 := ⟨mf_X11_putLong, go_mem_3 173 rfl rfl, Or.inr ⟨"BitRecogniser", go_nem_5 140 rfl rfl⟩⟩
theorem ss_X10_29 : go_SS "BitRecogniser$Vocabulary" 29 mx_X11_intAt 2 := ⟨mf_X11_intAt, go_mem_2 204 rfl rfl, Or.inr ⟨"BitRecogniser", go_nem_5 141 rfl rfl⟩⟩
theorem ss_X10_41 : go_SS "BitRecogniser$Vocabulary" 41 mx_X11_leftOf 1 := ⟨mf_X11_leftOf, go_mem_3 105 rfl rfl, Or.inr ⟨"BitRecogniser", go_nem_5 146 rfl rfl⟩⟩
theorem ss_X10_48 : go_SS "BitRecogniser$Vocabulary" 48 mx_X11_rightOf 1 := ⟨mf_X11_rightOf, go_mem_3 108 rfl rfl, Or.inr ⟨"BitRecogniser", go_nem_5 149 rfl rfl⟩⟩
theorem ss_X10_51 : go_SS "BitRecogniser$Vocabulary" 51 mx_X11_madeOf 1 := ⟨mf_X11_madeOf, go_mem_3 114 rfl rfl, Or.inr ⟨"BitRecogniser", go_nem_5 150 rfl rfl⟩⟩
theorem ss_X10_57 : go_SS "BitRecogniser$Vocabulary" 57 mx_X11_longAt 2 := ⟨mf_X11_longAt, go_mem_3 162 rfl rfl, Or.inr ⟨"BitRecogniser", go_nem_5 153 rfl rfl⟩⟩
theorem ss_X10_71 : go_SS "BitRecogniser$Vocabulary" 71 mx_J13_bitCount_95d88 1 := ⟨mf_J13_bitCount_95d88, go_mem_5 22 rfl rfl, Or.inl (go_mem_5 170 rfl rfl)⟩
theorem ss_X10_77 : go_SS "BitRecogniser$Vocabulary" 77 mx_J13_numberOfTrailingZeros_95d88 1 := ⟨mf_J13_numberOfTrailingZeros_95d88, go_mem_5 180 rfl rfl, Or.inl (go_mem_5 179 rfl rfl)⟩
theorem ss_X12_144 : go_SS "BitRecogniserModel" 144 mx_X12_within 3 := ⟨mf_X12_within, go_mem_6 169 rfl rfl, Or.inl (go_mem_6 168 rfl rfl)⟩
theorem ss_X12_177 : go_SS "BitRecogniserModel" 177 mx_X12_isSymbolByte 1 := ⟨mf_X12_isSymbolByte, go_mem_6 184 rfl rfl, Or.inl (go_mem_6 183 rfl rfl)⟩
theorem ss_X12_181 : go_SS "BitRecogniserModel" 181 mx_X12_isLetterByte 1 := ⟨mf_X12_isLetterByte, go_mem_6 189 rfl rfl, Or.inl (go_mem_6 188 rfl rfl)⟩
theorem ss_X12_187 : go_SS "BitRecogniserModel" 187 mx_X12_symbolByte 1 := ⟨mf_X12_symbolByte, go_mem_6 202 rfl rfl, Or.inl (go_mem_6 201 rfl rfl)⟩
theorem ss_X12_212 : go_SS "BitRecogniserModel" 212 mx_X12_isSymbol 1 := ⟨mf_X12_isSymbol, go_mem_6 238 rfl rfl, Or.inl (go_mem_6 237 rfl rfl)⟩
theorem ss_X12_241 : go_SS "BitRecogniserModel" 241 mx_X12_has 2 := ⟨mf_X12_has, go_mem_7 82 rfl rfl, Or.inl (go_mem_7 81 rfl rfl)⟩
theorem ss_X12_297 : go_SS "BitRecogniserModel" 297 mx_X12_times 2 := ⟨mf_X12_times, go_mem_7 154 rfl rfl, Or.inl (go_mem_7 153 rfl rfl)⟩
theorem ss_X12_300 : go_SS "BitRecogniserModel" 300 mx_X12_plus 2 := ⟨mf_X12_plus, go_mem_7 159 rfl rfl, Or.inl (go_mem_7 158 rfl rfl)⟩
theorem ss_X12_332 : go_SS "BitRecogniserModel" 332 mx_X12_isPast 2 := ⟨mf_X12_isPast, go_mem_7 202 rfl rfl, Or.inl (go_mem_7 201 rfl rfl)⟩
theorem ss_X12_390 : go_SS "BitRecogniserModel" 390 mx_X12_wordMany 1 := ⟨mf_X12_wordMany, go_mem_8 41 rfl rfl, Or.inl (go_mem_8 40 rfl rfl)⟩
theorem ss_X12_423 : go_SS "BitRecogniserModel" 423 mx_X12_isTray 1 := ⟨mf_X12_isTray, go_mem_8 109 rfl rfl, Or.inl (go_mem_8 108 rfl rfl)⟩
theorem ss_J13_311 : go_SS "java/lang/Long" 311 mx_J6_numberOfTrailingZeros_0f7a4 1 := ⟨mf_J6_numberOfTrailingZeros_0f7a4, go_mem_5 183 rfl rfl, Or.inl (go_mem_5 182 rfl rfl)⟩
theorem sv_X11_119 : go_SV "BitRecogniser" 119 7 mx_X8_append 1 := ⟨mf_X8_append, go_R7, go_T7, 4, ⟨"BitRecogniser$Tape", "append", "(I)V"⟩, rfl, go_mem_2 182 rfl rfl, go_mem_2 181 rfl rfl, Or.inl ⟨rfl, go_mem_2 180 rfl rfl⟩⟩
theorem sv_X11_123 : go_SV "BitRecogniser" 123 8 mx_X9_lowestFree 0 := ⟨mf_X9_lowestFree, go_R8, go_T8, 4, ⟨"BitRecogniser$Told", "lowestFree", "()I"⟩, rfl, go_mem_2 193 rfl rfl, go_mem_2 192 rfl rfl, Or.inl ⟨rfl, go_mem_2 191 rfl rfl⟩⟩
theorem sv_X11_127 : go_SV "BitRecogniser" 127 7 mx_X8_takeRule 1 := ⟨mf_X8_takeRule, go_R7, go_T7, 4, ⟨"BitRecogniser$Tape", "takeRule", "(I)I"⟩, rfl, go_mem_2 197 rfl rfl, go_mem_2 196 rfl rfl, Or.inl ⟨rfl, go_mem_2 195 rfl rfl⟩⟩
theorem sv_X11_134 : go_SV "BitRecogniser" 134 8 mx_X9_hasAlike 1 := ⟨mf_X9_hasAlike, go_R8, go_T8, 4, ⟨"BitRecogniser$Told", "hasAlike", "(I)Z"⟩, rfl, go_mem_2 215 rfl rfl, go_mem_2 214 rfl rfl, Or.inl ⟨rfl, go_mem_2 213 rfl rfl⟩⟩
theorem sv_X11_138 : go_SV "BitRecogniser" 138 10 mx_X11_changing 0 := ⟨mf_X11_changing, go_R10, go_T10, 18, ⟨"BitRecogniser", "changing", "()V"⟩, rfl, go_mem_p 2 rfl rfl, go_mem_2 219 rfl rfl, Or.inl ⟨rfl, go_mem_2 217 rfl rfl⟩⟩
theorem sv_X11_141 : go_SV "BitRecogniser" 141 8 mx_X9_setRule 2 := ⟨mf_X9_setRule, go_R8, go_T8, 4, ⟨"BitRecogniser$Told", "setRule", "(II)V"⟩, rfl, go_mem_3 2 rfl rfl, go_mem_3 1 rfl rfl, Or.inl ⟨rfl, go_mem_3 0 rfl rfl⟩⟩
theorem sv_X11_145 : go_SV "BitRecogniser" 145 7 mx_X8_takeWord 1 := ⟨mf_X8_takeWord, go_R7, go_T7, 4, ⟨"BitRecogniser$Tape", "takeWord", "(I)J"⟩, rfl, go_mem_3 11 rfl rfl, go_mem_3 10 rfl rfl, Or.inl ⟨rfl, go_mem_3 9 rfl rfl⟩⟩
theorem sv_X11_149 : go_SV "BitRecogniser" 149 8 mx_X9_setWord 2 := ⟨mf_X9_setWord, go_R8, go_T8, 4, ⟨"BitRecogniser$Told", "setWord", "(JI)V"⟩, rfl, go_mem_3 15 rfl rfl, go_mem_3 14 rfl rfl, Or.inl ⟨rfl, go_mem_3 13 rfl rfl⟩⟩
theorem sv_X11_156 : go_SV "BitRecogniser" 156 8 mx_X9_ruleAt 1 := ⟨mf_X9_ruleAt, go_R8, go_T8, 4, ⟨"BitRecogniser$Told", "ruleAt", "(I)I"⟩, rfl, go_mem_2 234 rfl rfl, go_mem_2 233 rfl rfl, Or.inl ⟨rfl, go_mem_3 25 rfl rfl⟩⟩
theorem sv_X11_159 : go_SV "BitRecogniser" 159 8 mx_X9_ruleBits 0 := ⟨mf_X9_ruleBits, go_R8, go_T8, 4, ⟨"BitRecogniser$Told", "ruleBits", "()I"⟩, rfl, go_mem_3 28 rfl rfl, go_mem_3 27 rfl rfl, Or.inl ⟨rfl, go_mem_3 26 rfl rfl⟩⟩
theorem sv_X11_167 : go_SV "BitRecogniser" 167 10 mx_X11_isName 1 := ⟨mf_X11_isName, go_R10, go_T10, 18, ⟨"BitRecogniser", "isName", "(I)Z"⟩, rfl, go_mem_p 3 rfl rfl, go_mem_3 42 rfl rfl, Or.inl ⟨rfl, go_mem_3 40 rfl rfl⟩⟩
theorem sv_X11_183 : go_SV "BitRecogniser" 183 10 mx_X11_freshen 0 := ⟨mf_X11_freshen, go_R10, go_T10, 18, ⟨"BitRecogniser", "freshen", "()V"⟩, rfl, go_mem_p 4 rfl rfl, go_mem_3 63 rfl rfl, Or.inl ⟨rfl, go_mem_3 61 rfl rfl⟩⟩
theorem sv_X11_205 : go_SV "BitRecogniser" 205 10 mx_X11_isSymbol 1 := ⟨mf_X11_isSymbol, go_R10, go_T10, 18, ⟨"BitRecogniser", "isSymbol", "(I)Z"⟩, rfl, go_mem_p 13 rfl rfl, go_mem_3 189 rfl rfl, Or.inl ⟨rfl, go_mem_3 187 rfl rfl⟩⟩
theorem sv_X11_220 : go_SV "BitRecogniser" 220 0 mx_X0_reachedFrom 1 := ⟨mf_X0_reachedFrom, go_R0, go_T0, 14, ⟨"BitRecogniser$Binary", "reachedFrom", "(I)I"⟩, rfl, go_mem_3 210 rfl rfl, go_mem_3 209 rfl rfl, Or.inl ⟨rfl, go_mem_3 208 rfl rfl⟩⟩
theorem sv_X11_229 : go_SV "BitRecogniser" 229 1 mx_X1_hasSpan 2 := ⟨mf_X1_hasSpan, go_R1, go_T1, 7, ⟨"BitRecogniser$Chart", "hasSpan", "(II)Z"⟩, rfl, go_mem_3 156 rfl rfl, go_mem_3 155 rfl rfl, Or.inl ⟨rfl, go_mem_3 217 rfl rfl⟩⟩
theorem sv_X11_233 : go_SV "BitRecogniser" 233 1 mx_X1_cellAt 2 := ⟨mf_X1_cellAt, go_R1, go_T1, 7, ⟨"BitRecogniser$Chart", "cellAt", "(II)J"⟩, rfl, go_mem_3 152 rfl rfl, go_mem_3 151 rfl rfl, Or.inl ⟨rfl, go_mem_3 218 rfl rfl⟩⟩
theorem sv_X11_242 : go_SV "BitRecogniser" 242 1 mx_X1_derives 3 := ⟨mf_X1_derives, go_R1, go_T1, 7, ⟨"BitRecogniser$Chart", "derives", "(III)Z"⟩, rfl, go_mem_3 226 rfl rfl, go_mem_3 225 rfl rfl, Or.inl ⟨rfl, go_mem_3 224 rfl rfl⟩⟩
theorem sv_X11_246 : go_SV "BitRecogniser" 246 10 mx_X11_readyRounds 0 := ⟨mf_X11_readyRounds, go_R10, go_T10, 18, ⟨"BitRecogniser", "readyRounds", "()V"⟩, rfl, go_mem_p 14 rfl rfl, go_mem_3 234 rfl rfl, Or.inl ⟨rfl, go_mem_3 232 rfl rfl⟩⟩
theorem sv_X11_249 : go_SV "BitRecogniser" 249 6 mx_X7_valueAt 3 := ⟨mf_X7_valueAt, go_R6, go_T6, 7, ⟨"BitRecogniser$Rounds", "valueAt", "(III)J"⟩, rfl, go_mem_4 104 rfl rfl, go_mem_4 35 rfl rfl, Or.inr (Or.inr ⟨"BitRecogniser$Table", go_mem_4 101 rfl rfl, go_mem_4 102 rfl rfl, ⟨by decide +kernel, by decide +kernel⟩, rfl, Or.inl (go_nem_4 103 rfl rfl)⟩)⟩
theorem sv_X11_255 : go_SV "BitRecogniser" 255 6 mx_X6_greatestAt 2 := ⟨mf_X6_greatestAt, go_R6, go_T6, 7, ⟨"BitRecogniser$Rounds", "greatestAt", "(II)J"⟩, rfl, go_mem_4 112 rfl rfl, go_mem_4 111 rfl rfl, Or.inl ⟨rfl, go_mem_4 110 rfl rfl⟩⟩
theorem sv_X11_264 : go_SV "BitRecogniser" 264 10 mx_X11_isPlace 1 := ⟨mf_X11_isPlace, go_R10, go_T10, 18, ⟨"BitRecogniser", "isPlace", "(I)Z"⟩, rfl, go_mem_p 16 rfl rfl, go_mem_4 123 rfl rfl, Or.inl ⟨rfl, go_mem_4 121 rfl rfl⟩⟩
theorem sv_X11_267 : go_SV "BitRecogniser" 267 1 mx_X1_endsFrom 2 := ⟨mf_X1_endsFrom, go_R1, go_T1, 7, ⟨"BitRecogniser$Chart", "endsFrom", "(II)I"⟩, rfl, go_mem_4 127 rfl rfl, go_mem_4 126 rfl rfl, Or.inl ⟨rfl, go_mem_4 125 rfl rfl⟩⟩
theorem sv_X11_273 : go_SV "BitRecogniser" 273 10 mx_X11_readyForest 0 := ⟨mf_X11_readyForest, go_R10, go_T10, 18, ⟨"BitRecogniser", "readyForest", "()V"⟩, rfl, go_mem_p 17 rfl rfl, go_mem_4 152 rfl rfl, Or.inl ⟨rfl, go_mem_4 150 rfl rfl⟩⟩
theorem sv_X11_276 : go_SV "BitRecogniser" 276 2 mx_X7_valueAt 3 := ⟨mf_X7_valueAt, go_R2, go_T2, 8, ⟨"BitRecogniser$Forest", "valueAt", "(III)J"⟩, rfl, go_mem_4 159 rfl rfl, go_mem_4 35 rfl rfl, Or.inr (Or.inr ⟨"BitRecogniser$Table", go_mem_4 157 rfl rfl, go_mem_4 158 rfl rfl, ⟨by decide +kernel, by decide +kernel⟩, rfl, Or.inl (go_nem_4 103 rfl rfl)⟩)⟩
theorem sv_X11_277 : go_SV "BitRecogniser" 277 2 mx_X2_doubtfulAt 2 := ⟨mf_X2_doubtfulAt, go_R2, go_T2, 8, ⟨"BitRecogniser$Forest", "doubtfulAt", "(II)I"⟩, rfl, go_mem_4 166 rfl rfl, go_mem_4 165 rfl rfl, Or.inl ⟨rfl, go_mem_4 164 rfl rfl⟩⟩
theorem sv_X11_280 : go_SV "BitRecogniser" 280 10 mx_X11_readyTree 1 := ⟨mf_X11_readyTree, go_R10, go_T10, 18, ⟨"BitRecogniser", "readyTree", "(I)Z"⟩, rfl, go_mem_p 18 rfl rfl, go_mem_4 175 rfl rfl, Or.inl ⟨rfl, go_mem_4 173 rfl rfl⟩⟩
theorem sv_X11_286 : go_SV "BitRecogniser" 286 3 mx_X3_tell 2 := ⟨mf_X3_tell, go_R3, go_T3, 19, ⟨"BitRecogniser$Listing", "tell", "(II)I"⟩, rfl, go_mem_4 234 rfl rfl, go_mem_4 233 rfl rfl, Or.inl ⟨rfl, go_mem_5 12 rfl rfl⟩⟩
theorem sv_X11_289 : go_SV "BitRecogniser" 289 10 mx_X11_treesOfWord 0 := ⟨mf_X11_treesOfWord, go_R10, go_T10, 18, ⟨"BitRecogniser", "treesOfWord", "()J"⟩, rfl, go_mem_p 19 rfl rfl, go_mem_4 179 rfl rfl, Or.inl ⟨rfl, go_mem_4 177 rfl rfl⟩⟩
theorem sv_X11_293 : go_SV "BitRecogniser" 293 0 mx_X0_build 2 := ⟨mf_X0_build, go_R0, go_T0, 14, ⟨"BitRecogniser$Binary", "build", "(LBitRecogniser$Told;I)V"⟩, rfl, go_mem_3 67 rfl rfl, go_mem_3 66 rfl rfl, Or.inl ⟨rfl, go_mem_3 65 rfl rfl⟩⟩
theorem sv_X11_297 : go_SV "BitRecogniser" 297 1 mx_X1_readWord 2 := ⟨mf_X1_readWord, go_R1, go_T1, 7, ⟨"BitRecogniser$Chart", "readWord", "(LBitRecogniser$Told;Z)V"⟩, rfl, go_mem_3 133 rfl rfl, go_mem_3 132 rfl rfl, Or.inl ⟨rfl, go_mem_3 131 rfl rfl⟩⟩
theorem sv_X11_301 : go_SV "BitRecogniser" 301 1 mx_X1_fill 2 := ⟨mf_X1_fill, go_R1, go_T1, 7, ⟨"BitRecogniser$Chart", "fill", "(LBitRecogniser$Binary;I)V"⟩, rfl, go_mem_3 143 rfl rfl, go_mem_3 142 rfl rfl, Or.inl ⟨rfl, go_mem_3 141 rfl rfl⟩⟩
theorem sv_X11_310 : go_SV "BitRecogniser" 310 3 mx_X3_makeForm 1 := ⟨mf_X3_makeForm, go_R3, go_T3, 19, ⟨"BitRecogniser$Listing", "makeForm", "(I)V"⟩, rfl, go_mem_5 33 rfl rfl, go_mem_5 32 rfl rfl, Or.inl ⟨rfl, go_mem_5 31 rfl rfl⟩⟩
theorem sv_X11_319 : go_SV "BitRecogniser" 319 1 mx_X1_countPieces 1 := ⟨mf_X1_countPieces, go_R1, go_T1, 7, ⟨"BitRecogniser$Chart", "countPieces", "(I)I"⟩, rfl, go_mem_5 53 rfl rfl, go_mem_5 52 rfl rfl, Or.inl ⟨rfl, go_mem_5 51 rfl rfl⟩⟩
theorem sv_X11_322 : go_SV "BitRecogniser" 322 1 mx_X1_endOfPiece 2 := ⟨mf_X1_endOfPiece, go_R1, go_T1, 7, ⟨"BitRecogniser$Chart", "endOfPiece", "(II)I"⟩, rfl, go_mem_5 57 rfl rfl, go_mem_5 56 rfl rfl, Or.inl ⟨rfl, go_mem_5 55 rfl rfl⟩⟩
theorem sv_X11_325 : go_SV "BitRecogniser" 325 8 mx_X9_letterAt 1 := ⟨mf_X9_letterAt, go_R8, go_T8, 4, ⟨"BitRecogniser$Told", "letterAt", "(I)I"⟩, rfl, go_mem_3 137 rfl rfl, go_mem_3 136 rfl rfl, Or.inl ⟨rfl, go_mem_5 71 rfl rfl⟩⟩
theorem sv_X11_328 : go_SV "BitRecogniser" 328 1 mx_X1_beginnersOf 3 := ⟨mf_X1_beginnersOf, go_R1, go_T1, 7, ⟨"BitRecogniser$Chart", "beginnersOf", "(LBitRecogniser$Binary;IJ)J"⟩, rfl, go_mem_5 74 rfl rfl, go_mem_5 73 rfl rfl, Or.inl ⟨rfl, go_mem_5 72 rfl rfl⟩⟩
theorem sv_X11_332 : go_SV "BitRecogniser" 332 10 mx_X11_readyAnyWord 0 := ⟨mf_X11_readyAnyWord, go_R10, go_T10, 18, ⟨"BitRecogniser", "readyAnyWord", "()V"⟩, rfl, go_mem_p 32 rfl rfl, go_mem_5 92 rfl rfl, Or.inl ⟨rfl, go_mem_5 90 rfl rfl⟩⟩
theorem sv_X11_340 : go_SV "BitRecogniser" 340 2 mx_X7_fill 1 := ⟨mf_X7_fill, go_R2, go_T2, 8, ⟨"BitRecogniser$Forest", "fill", "(I)V"⟩, rfl, go_mem_4 156 rfl rfl, go_mem_4 0 rfl rfl, Or.inr (Or.inr ⟨"BitRecogniser$Table", go_mem_4 154 rfl rfl, go_mem_4 155 rfl rfl, ⟨by decide +kernel, by decide +kernel⟩, rfl, Or.inl (go_nem_3 238 rfl rfl)⟩)⟩
theorem sv_X11_342 : go_SV "BitRecogniser" 342 10 mx_X11_nearestWord 0 := ⟨mf_X11_nearestWord, go_R10, go_T10, 18, ⟨"BitRecogniser", "nearestWord", "()J"⟩, rfl, go_mem_p 33 rfl rfl, go_mem_5 109 rfl rfl, Or.inl ⟨rfl, go_mem_5 107 rfl rfl⟩⟩
theorem sv_X11_352 : go_SV "BitRecogniser" 352 10 mx_X11_readyVocabulary 0 := ⟨mf_X11_readyVocabulary, go_R10, go_T10, 18, ⟨"BitRecogniser", "readyVocabulary", "()V"⟩, rfl, go_mem_p 34 rfl rfl, go_mem_5 134 rfl rfl, Or.inl ⟨rfl, go_mem_5 132 rfl rfl⟩⟩
theorem sv_X11_355 : go_SV "BitRecogniser" 355 9 mx_X10_sizeOfSet 2 := ⟨mf_X10_sizeOfSet, go_R9, go_T9, 2, ⟨"BitRecogniser$Vocabulary", "sizeOfSet", "(II)I"⟩, rfl, go_mem_5 168 rfl rfl, go_mem_5 167 rfl rfl, Or.inl ⟨rfl, go_mem_5 166 rfl rfl⟩⟩
theorem sv_X11_358 : go_SV "BitRecogniser" 358 9 mx_X10_letterOfFirst 3 := ⟨mf_X10_letterOfFirst, go_R9, go_T9, 2, ⟨"BitRecogniser$Vocabulary", "letterOfFirst", "(III)I"⟩, rfl, go_mem_5 177 rfl rfl, go_mem_5 176 rfl rfl, Or.inl ⟨rfl, go_mem_5 175 rfl rfl⟩⟩
theorem sv_X11_362 : go_SV "BitRecogniser" 362 10 mx_X11_isTray 1 := ⟨mf_X11_isTray, go_R10, go_T10, 18, ⟨"BitRecogniser", "isTray", "(I)Z"⟩, rfl, go_mem_p 39 rfl rfl, go_mem_5 191 rfl rfl, Or.inl ⟨rfl, go_mem_5 189 rfl rfl⟩⟩
theorem sv_X11_382 : go_SV "BitRecogniser" 382 5 mx_X5_goBack 2 := ⟨mf_X5_goBack, go_R5, go_T5, 5, ⟨"BitRecogniser$Past", "goBack", "(LBitRecogniser$Told;I)V"⟩, rfl, go_mem_5 212 rfl rfl, go_mem_5 211 rfl rfl, Or.inl ⟨rfl, go_mem_5 210 rfl rfl⟩⟩
theorem sv_X11_385 : go_SV "BitRecogniser" 385 5 mx_X5_makeImage 2 := ⟨mf_X5_makeImage, go_R5, go_T5, 5, ⟨"BitRecogniser$Past", "makeImage", "(LBitRecogniser$Told;I)V"⟩, rfl, go_mem_5 220 rfl rfl, go_mem_5 219 rfl rfl, Or.inl ⟨rfl, go_mem_5 218 rfl rfl⟩⟩
theorem sv_X11_388 : go_SV "BitRecogniser" 388 5 mx_X5_takeImage 2 := ⟨mf_X5_takeImage, go_R5, go_T5, 5, ⟨"BitRecogniser$Past", "takeImage", "(LBitRecogniser$Told;I)Z"⟩, rfl, go_mem_5 228 rfl rfl, go_mem_5 227 rfl rfl, Or.inl ⟨rfl, go_mem_5 226 rfl rfl⟩⟩
theorem sv_X11_398 : go_SV "BitRecogniser" 398 0 mx_X0_symbolCount 0 := ⟨mf_X0_symbolCount, go_R0, go_T0, 14, ⟨"BitRecogniser$Binary", "symbolCount", "()I"⟩, rfl, go_mem_3 97 rfl rfl, go_mem_3 96 rfl rfl, Or.inl ⟨rfl, go_mem_3 191 rfl rfl⟩⟩
theorem sv_X11_401 : go_SV "BitRecogniser" 401 5 mx_X5_keep 1 := ⟨mf_X5_keep, go_R5, go_T5, 5, ⟨"BitRecogniser$Past", "keep", "(LBitRecogniser$Told;)V"⟩, rfl, go_mem_2 223 rfl rfl, go_mem_2 222 rfl rfl, Or.inl ⟨rfl, go_mem_2 221 rfl rfl⟩⟩
theorem sv_X11_405 : go_SV "BitRecogniser" 405 0 mx_X0_measure 0 := ⟨mf_X0_measure, go_R0, go_T0, 14, ⟨"BitRecogniser$Binary", "measure", "()V"⟩, rfl, go_mem_3 89 rfl rfl, go_mem_3 88 rfl rfl, Or.inl ⟨rfl, go_mem_3 87 rfl rfl⟩⟩
theorem sv_X11_409 : go_SV "BitRecogniser" 409 6 mx_X7_fill 1 := ⟨mf_X7_fill, go_R6, go_T6, 7, ⟨"BitRecogniser$Rounds", "fill", "(I)V"⟩, rfl, go_mem_3 239 rfl rfl, go_mem_4 0 rfl rfl, Or.inr (Or.inr ⟨"BitRecogniser$Table", go_mem_3 236 rfl rfl, go_mem_3 237 rfl rfl, ⟨by decide +kernel, by decide +kernel⟩, rfl, Or.inl (go_nem_3 238 rfl rfl)⟩)⟩
theorem sv_X11_413 : go_SV "BitRecogniser" 413 1 mx_X1_readAnything 0 := ⟨mf_X1_readAnything, go_R1, go_T1, 7, ⟨"BitRecogniser$Chart", "readAnything", "()V"⟩, rfl, go_mem_5 96 rfl rfl, go_mem_5 95 rfl rfl, Or.inl ⟨rfl, go_mem_5 94 rfl rfl⟩⟩
theorem sv_X11_419 : go_SV "BitRecogniser" 419 9 mx_X10_fill 1 := ⟨mf_X10_fill, go_R9, go_T9, 2, ⟨"BitRecogniser$Vocabulary", "fill", "(LBitRecogniser$Binary;)V"⟩, rfl, go_mem_5 138 rfl rfl, go_mem_5 137 rfl rfl, Or.inl ⟨rfl, go_mem_5 136 rfl rfl⟩⟩
theorem sv_X11_428 : go_SV "BitRecogniser" 428 3 mx_X3_list 1 := ⟨mf_X3_list, go_R3, go_T3, 19, ⟨"BitRecogniser$Listing", "list", "(I)V"⟩, rfl, go_mem_4 183 rfl rfl, go_mem_4 182 rfl rfl, Or.inl ⟨rfl, go_mem_4 181 rfl rfl⟩⟩
theorem sv_X11_432 : go_SV "BitRecogniser" 432 4 mx_X7_fill 1 := ⟨mf_X7_fill, go_R4, go_T4, 8, ⟨"BitRecogniser$Nearest", "fill", "(I)V"⟩, rfl, go_mem_5 113 rfl rfl, go_mem_4 0 rfl rfl, Or.inr (Or.inr ⟨"BitRecogniser$Table", go_mem_5 111 rfl rfl, go_mem_5 112 rfl rfl, ⟨by decide +kernel, by decide +kernel⟩, rfl, Or.inl (go_nem_3 238 rfl rfl)⟩)⟩
theorem sv_X11_433 : go_SV "BitRecogniser" 433 4 mx_X7_valueAt 3 := ⟨mf_X7_valueAt, go_R4, go_T4, 8, ⟨"BitRecogniser$Nearest", "valueAt", "(III)J"⟩, rfl, go_mem_5 116 rfl rfl, go_mem_4 35 rfl rfl, Or.inr (Or.inr ⟨"BitRecogniser$Table", go_mem_5 114 rfl rfl, go_mem_5 115 rfl rfl, ⟨by decide +kernel, by decide +kernel⟩, rfl, Or.inl (go_nem_4 103 rfl rfl)⟩)⟩
theorem sv_X0_56 : go_SV "BitRecogniser$Binary" 56 8 mx_X9_ruleAt 1 := ⟨mf_X9_ruleAt, go_R8, go_T8, 4, ⟨"BitRecogniser$Told", "ruleAt", "(I)I"⟩, rfl, go_mem_2 234 rfl rfl, go_mem_2 233 rfl rfl, Or.inl ⟨rfl, go_mem_3 70 rfl rfl⟩⟩
theorem sv_X0_62 : go_SV "BitRecogniser$Binary" 62 0 mx_X0_addRule 2 := ⟨mf_X0_addRule, go_R0, go_T0, 14, ⟨"BitRecogniser$Binary", "addRule", "(II)V"⟩, rfl, go_mem_p 5 rfl rfl, go_mem_3 73 rfl rfl, Or.inl ⟨rfl, go_mem_3 71 rfl rfl⟩⟩
theorem sv_X0_66 : go_SV "BitRecogniser$Binary" 66 0 mx_X0_followUnits 0 := ⟨mf_X0_followUnits, go_R0, go_T0, 14, ⟨"BitRecogniser$Binary", "followUnits", "()V"⟩, rfl, go_mem_p 7 rfl rfl, go_mem_3 85 rfl rfl, Or.inl ⟨rfl, go_mem_3 83 rfl rfl⟩⟩
theorem sv_X0_83 : go_SV "BitRecogniser$Binary" 83 0 mx_X0_addPair 4 := ⟨mf_X0_addPair, go_R0, go_T0, 14, ⟨"BitRecogniser$Binary", "addPair", "(IIII)V"⟩, rfl, go_mem_p 6 rfl rfl, go_mem_3 81 rfl rfl, Or.inl ⟨rfl, go_mem_3 79 rfl rfl⟩⟩
theorem sv_X0_87 : go_SV "BitRecogniser$Binary" 87 0 mx_X0_measureLengths 0 := ⟨mf_X0_measureLengths, go_R0, go_T0, 14, ⟨"BitRecogniser$Binary", "measureLengths", "()V"⟩, rfl, go_mem_p 8 rfl rfl, go_mem_3 93 rfl rfl, Or.inl ⟨rfl, go_mem_3 91 rfl rfl⟩⟩
theorem sv_X0_90 : go_SV "BitRecogniser$Binary" 90 0 mx_X0_countWays 2 := ⟨mf_X0_countWays, go_R0, go_T0, 14, ⟨"BitRecogniser$Binary", "countWays", "(II)V"⟩, rfl, go_mem_3 126 rfl rfl, go_mem_3 125 rfl rfl, Or.inl ⟨rfl, go_mem_3 124 rfl rfl⟩⟩
theorem sv_X0_93 : go_SV "BitRecogniser$Binary" 93 0 mx_X0_symbolCount 0 := ⟨mf_X0_symbolCount, go_R0, go_T0, 14, ⟨"BitRecogniser$Binary", "symbolCount", "()I"⟩, rfl, go_mem_3 97 rfl rfl, go_mem_3 96 rfl rfl, Or.inl ⟨rfl, go_mem_3 95 rfl rfl⟩⟩
theorem sv_X0_103 : go_SV "BitRecogniser$Binary" 103 0 mx_X0_shortenByPairs 0 := ⟨mf_X0_shortenByPairs, go_R0, go_T0, 14, ⟨"BitRecogniser$Binary", "shortenByPairs", "()Z"⟩, rfl, go_mem_p 9 rfl rfl, go_mem_3 102 rfl rfl, Or.inl ⟨rfl, go_mem_3 100 rfl rfl⟩⟩
theorem sv_X0_107 : go_SV "BitRecogniser$Binary" 107 0 mx_X0_shortenByUnits 0 := ⟨mf_X0_shortenByUnits, go_R0, go_T0, 14, ⟨"BitRecogniser$Binary", "shortenByUnits", "()Z"⟩, rfl, go_mem_p 11 rfl rfl, go_mem_3 122 rfl rfl, Or.inl ⟨rfl, go_mem_3 120 rfl rfl⟩⟩
theorem sv_X0_123 : go_SV "BitRecogniser$Binary" 123 0 mx_X0_shorten 2 := ⟨mf_X0_shorten, go_R0, go_T0, 14, ⟨"BitRecogniser$Binary", "shorten", "(II)Z"⟩, rfl, go_mem_p 10 rfl rfl, go_mem_3 118 rfl rfl, Or.inl ⟨rfl, go_mem_3 116 rfl rfl⟩⟩
theorem sv_X0_131 : go_SV "BitRecogniser$Binary" 131 0 mx_X0_joinAll 2 := ⟨mf_X0_joinAll, go_R0, go_T0, 14, ⟨"BitRecogniser$Binary", "joinAll", "(JJ)J"⟩, rfl, go_mem_3 166 rfl rfl, go_mem_3 165 rfl rfl, Or.inl ⟨rfl, go_mem_5 80 rfl rfl⟩⟩
theorem sv_X0_135 : go_SV "BitRecogniser$Binary" 135 0 mx_X0_liftAll 1 := ⟨mf_X0_liftAll, go_R0, go_T0, 14, ⟨"BitRecogniser$Binary", "liftAll", "(J)J"⟩, rfl, go_mem_3 170 rfl rfl, go_mem_3 169 rfl rfl, Or.inl ⟨rfl, go_mem_5 81 rfl rfl⟩⟩
theorem sv_X1_35 : go_SV "BitRecogniser$Chart" 35 8 mx_X9_letterAt 1 := ⟨mf_X9_letterAt, go_R8, go_T8, 4, ⟨"BitRecogniser$Told", "letterAt", "(I)I"⟩, rfl, go_mem_3 137 rfl rfl, go_mem_3 136 rfl rfl, Or.inl ⟨rfl, go_mem_3 135 rfl rfl⟩⟩
theorem sv_X1_50 : go_SV "BitRecogniser$Chart" 50 1 mx_X1_joinCuts 3 := ⟨mf_X1_joinCuts, go_R1, go_T1, 7, ⟨"BitRecogniser$Chart", "joinCuts", "(LBitRecogniser$Binary;II)J"⟩, rfl, go_mem_p 12 rfl rfl, go_mem_3 148 rfl rfl, Or.inl ⟨rfl, go_mem_3 146 rfl rfl⟩⟩
theorem sv_X1_58 : go_SV "BitRecogniser$Chart" 58 0 mx_X0_liftAll 1 := ⟨mf_X0_liftAll, go_R0, go_T0, 14, ⟨"BitRecogniser$Binary", "liftAll", "(J)J"⟩, rfl, go_mem_3 170 rfl rfl, go_mem_3 169 rfl rfl, Or.inl ⟨rfl, go_mem_3 168 rfl rfl⟩⟩
theorem sv_X1_68 : go_SV "BitRecogniser$Chart" 68 1 mx_X1_cellAt 2 := ⟨mf_X1_cellAt, go_R1, go_T1, 7, ⟨"BitRecogniser$Chart", "cellAt", "(II)J"⟩, rfl, go_mem_3 152 rfl rfl, go_mem_3 151 rfl rfl, Or.inl ⟨rfl, go_mem_3 150 rfl rfl⟩⟩
theorem sv_X1_72 : go_SV "BitRecogniser$Chart" 72 0 mx_X0_joinAll 2 := ⟨mf_X0_joinAll, go_R0, go_T0, 14, ⟨"BitRecogniser$Binary", "joinAll", "(JJ)J"⟩, rfl, go_mem_3 166 rfl rfl, go_mem_3 165 rfl rfl, Or.inl ⟨rfl, go_mem_3 164 rfl rfl⟩⟩
theorem sv_X1_76 : go_SV "BitRecogniser$Chart" 76 1 mx_X1_hasSpan 2 := ⟨mf_X1_hasSpan, go_R1, go_T1, 7, ⟨"BitRecogniser$Chart", "hasSpan", "(II)Z"⟩, rfl, go_mem_3 156 rfl rfl, go_mem_3 155 rfl rfl, Or.inl ⟨rfl, go_mem_3 154 rfl rfl⟩⟩
theorem sv_X1_84 : go_SV "BitRecogniser$Chart" 84 1 mx_X1_derives 3 := ⟨mf_X1_derives, go_R1, go_T1, 7, ⟨"BitRecogniser$Chart", "derives", "(III)Z"⟩, rfl, go_mem_3 226 rfl rfl, go_mem_3 225 rfl rfl, Or.inl ⟨rfl, go_mem_4 129 rfl rfl⟩⟩
theorem sv_X1_88 : go_SV "BitRecogniser$Chart" 88 1 mx_X1_nextEnd 2 := ⟨mf_X1_nextEnd, go_R1, go_T1, 7, ⟨"BitRecogniser$Chart", "nextEnd", "(II)I"⟩, rfl, go_mem_p 31 rfl rfl, go_mem_5 61 rfl rfl, Or.inl ⟨rfl, go_mem_5 59 rfl rfl⟩⟩
theorem sv_X1_92 : go_SV "BitRecogniser$Chart" 92 0 mx_X0_openAll 1 := ⟨mf_X0_openAll, go_R0, go_T0, 14, ⟨"BitRecogniser$Binary", "openAll", "(J)J"⟩, rfl, go_mem_5 78 rfl rfl, go_mem_5 77 rfl rfl, Or.inl ⟨rfl, go_mem_5 76 rfl rfl⟩⟩
theorem sv_X2_29 : go_SV "BitRecogniser$Forest" 29 2 mx_X2_unitsToLetters 1 := ⟨mf_X2_unitsToLetters, go_R2, go_T2, 8, ⟨"BitRecogniser$Forest", "unitsToLetters", "(I)J"⟩, rfl, go_mem_p 15 rfl rfl, go_mem_4 94 rfl rfl, Or.inl ⟨rfl, go_mem_4 92 rfl rfl⟩⟩
theorem sv_X2_54 : go_SV "BitRecogniser$Forest" 54 0 mx_X0_countWays 2 := ⟨mf_X0_countWays, go_R0, go_T0, 14, ⟨"BitRecogniser$Binary", "countWays", "(II)V"⟩, rfl, go_mem_3 126 rfl rfl, go_mem_3 125 rfl rfl, Or.inl ⟨rfl, go_mem_4 214 rfl rfl⟩⟩
theorem sv_X2_69 : go_SV "BitRecogniser$Forest" 69 2 mx_X7_valueAt 3 := ⟨mf_X7_valueAt, go_R2, go_T2, 8, ⟨"BitRecogniser$Forest", "valueAt", "(III)J"⟩, rfl, go_mem_4 159 rfl rfl, go_mem_4 35 rfl rfl, Or.inr (Or.inr ⟨"BitRecogniser$Table", go_mem_4 168 rfl rfl, go_mem_4 158 rfl rfl, ⟨by decide +kernel, by decide +kernel⟩, rfl, Or.inl (go_nem_4 103 rfl rfl)⟩)⟩
theorem sv_X3_59 : go_SV "BitRecogniser$Listing" 59 3 mx_X3_putWaiting 5 := ⟨mf_X3_putWaiting, go_R3, go_T3, 19, ⟨"BitRecogniser$Listing", "putWaiting", "(IIIII)V"⟩, rfl, go_mem_p 20 rfl rfl, go_mem_4 187 rfl rfl, Or.inl ⟨rfl, go_mem_4 185 rfl rfl⟩⟩
theorem sv_X3_63 : go_SV "BitRecogniser$Listing" 63 3 mx_X3_takeWaiting 0 := ⟨mf_X3_takeWaiting, go_R3, go_T3, 19, ⟨"BitRecogniser$Listing", "takeWaiting", "()V"⟩, rfl, go_mem_p 21 rfl rfl, go_mem_4 193 rfl rfl, Or.inl ⟨rfl, go_mem_4 191 rfl rfl⟩⟩
theorem sv_X3_66 : go_SV "BitRecogniser$Listing" 66 3 mx_X3_chooseRule 0 := ⟨mf_X3_chooseRule, go_R3, go_T3, 19, ⟨"BitRecogniser$Listing", "chooseRule", "()I"⟩, rfl, go_mem_p 22 rfl rfl, go_mem_4 199 rfl rfl, Or.inl ⟨rfl, go_mem_4 197 rfl rfl⟩⟩
theorem sv_X3_70 : go_SV "BitRecogniser$Listing" 70 3 mx_X3_putNode 1 := ⟨mf_X3_putNode, go_R3, go_T3, 19, ⟨"BitRecogniser$Listing", "putNode", "(I)I"⟩, rfl, go_mem_p 26 rfl rfl, go_mem_4 230 rfl rfl, Or.inl ⟨rfl, go_mem_4 228 rfl rfl⟩⟩
theorem sv_X3_74 : go_SV "BitRecogniser$Listing" 74 3 mx_X3_chooseCuts 1 := ⟨mf_X3_chooseCuts, go_R3, go_T3, 19, ⟨"BitRecogniser$Listing", "chooseCuts", "(I)V"⟩, rfl, go_mem_p 27 rfl rfl, go_mem_4 238 rfl rfl, Or.inl ⟨rfl, go_mem_4 236 rfl rfl⟩⟩
theorem sv_X3_78 : go_SV "BitRecogniser$Listing" 78 8 mx_X9_ruleAt 1 := ⟨mf_X9_ruleAt, go_R8, go_T8, 4, ⟨"BitRecogniser$Told", "ruleAt", "(I)I"⟩, rfl, go_mem_2 234 rfl rfl, go_mem_2 233 rfl rfl, Or.inl ⟨rfl, go_mem_4 201 rfl rfl⟩⟩
theorem sv_X3_81 : go_SV "BitRecogniser$Listing" 81 3 mx_X3_putParts 2 := ⟨mf_X3_putParts, go_R3, go_T3, 19, ⟨"BitRecogniser$Listing", "putParts", "(II)V"⟩, rfl, go_mem_p 29 rfl rfl, go_mem_5 6 rfl rfl, Or.inl ⟨rfl, go_mem_5 4 rfl rfl⟩⟩
theorem sv_X3_116 : go_SV "BitRecogniser$Listing" 116 3 mx_X3_tell 2 := ⟨mf_X3_tell, go_R3, go_T3, 19, ⟨"BitRecogniser$Listing", "tell", "(II)I"⟩, rfl, go_mem_4 234 rfl rfl, go_mem_4 233 rfl rfl, Or.inl ⟨rfl, go_mem_4 232 rfl rfl⟩⟩
theorem sv_X3_129 : go_SV "BitRecogniser$Listing" 129 3 mx_X3_treesByUnit 1 := ⟨mf_X3_treesByUnit, go_R3, go_T3, 19, ⟨"BitRecogniser$Listing", "treesByUnit", "(I)J"⟩, rfl, go_mem_p 23 rfl rfl, go_mem_4 207 rfl rfl, Or.inl ⟨rfl, go_mem_4 205 rfl rfl⟩⟩
theorem sv_X3_138 : go_SV "BitRecogniser$Listing" 138 3 mx_X3_treesByPair 1 := ⟨mf_X3_treesByPair, go_R3, go_T3, 19, ⟨"BitRecogniser$Listing", "treesByPair", "(I)J"⟩, rfl, go_mem_p 24 rfl rfl, go_mem_4 218 rfl rfl, Or.inl ⟨rfl, go_mem_4 216 rfl rfl⟩⟩
theorem sv_X3_141 : go_SV "BitRecogniser$Listing" 141 3 mx_X3_isHere 1 := ⟨mf_X3_isHere, go_R3, go_T3, 19, ⟨"BitRecogniser$Listing", "isHere", "(J)Z"⟩, rfl, go_mem_p 25 rfl rfl, go_mem_4 226 rfl rfl, Or.inl ⟨rfl, go_mem_4 224 rfl rfl⟩⟩
theorem sv_X3_145 : go_SV "BitRecogniser$Listing" 145 2 mx_X7_valueAt 3 := ⟨mf_X7_valueAt, go_R2, go_T2, 8, ⟨"BitRecogniser$Forest", "valueAt", "(III)J"⟩, rfl, go_mem_4 159 rfl rfl, go_mem_4 35 rfl rfl, Or.inr (Or.inr ⟨"BitRecogniser$Table", go_mem_4 209 rfl rfl, go_mem_4 158 rfl rfl, ⟨by decide +kernel, by decide +kernel⟩, rfl, Or.inl (go_nem_4 103 rfl rfl)⟩)⟩
theorem sv_X3_151 : go_SV "BitRecogniser$Listing" 151 2 mx_X2_treesWithout 4 := ⟨mf_X2_treesWithout, go_R2, go_T2, 8, ⟨"BitRecogniser$Forest", "treesWithout", "(IIII)J"⟩, rfl, go_mem_4 212 rfl rfl, go_mem_4 211 rfl rfl, Or.inl ⟨rfl, go_mem_4 210 rfl rfl⟩⟩
theorem sv_X3_171 : go_SV "BitRecogniser$Listing" 171 3 mx_X3_chooseCut 3 := ⟨mf_X3_chooseCut, go_R3, go_T3, 19, ⟨"BitRecogniser$Listing", "chooseCut", "(IIJ)I"⟩, rfl, go_mem_p 28 rfl rfl, go_mem_5 2 rfl rfl, Or.inl ⟨rfl, go_mem_5 0 rfl rfl⟩⟩
theorem sv_X3_178 : go_SV "BitRecogniser$Listing" 178 3 mx_X3_replaceLeftmost 1 := ⟨mf_X3_replaceLeftmost, go_R3, go_T3, 19, ⟨"BitRecogniser$Listing", "replaceLeftmost", "(I)V"⟩, rfl, go_mem_p 30 rfl rfl, go_mem_5 37 rfl rfl, Or.inl ⟨rfl, go_mem_5 35 rfl rfl⟩⟩
theorem sv_X4_17 : go_SV "BitRecogniser$Nearest" 17 8 mx_X9_letterAt 1 := ⟨mf_X9_letterAt, go_R8, go_T8, 4, ⟨"BitRecogniser$Told", "letterAt", "(I)I"⟩, rfl, go_mem_3 137 rfl rfl, go_mem_3 136 rfl rfl, Or.inl ⟨rfl, go_mem_4 22 rfl rfl⟩⟩
theorem sv_X5_33 : go_SV "BitRecogniser$Past" 33 8 mx_X9_takeFrom 1 := ⟨mf_X9_takeFrom, go_R8, go_T8, 4, ⟨"BitRecogniser$Told", "takeFrom", "(LBitRecogniser$Told;)V"⟩, rfl, go_mem_2 230 rfl rfl, go_mem_2 229 rfl rfl, Or.inl ⟨rfl, go_mem_2 228 rfl rfl⟩⟩
theorem sv_X6_30 : go_SV "BitRecogniser$Rounds" 30 0 mx_X0_symbolCount 0 := ⟨mf_X0_symbolCount, go_R0, go_T0, 14, ⟨"BitRecogniser$Binary", "symbolCount", "()I"⟩, rfl, go_mem_3 97 rfl rfl, go_mem_3 96 rfl rfl, Or.inl ⟨rfl, go_mem_4 114 rfl rfl⟩⟩
theorem sv_X6_36 : go_SV "BitRecogniser$Rounds" 36 6 mx_X7_valueAt 3 := ⟨mf_X7_valueAt, go_R6, go_T6, 7, ⟨"BitRecogniser$Rounds", "valueAt", "(III)J"⟩, rfl, go_mem_4 104 rfl rfl, go_mem_4 35 rfl rfl, Or.inr (Or.inr ⟨"BitRecogniser$Table", go_mem_4 115 rfl rfl, go_mem_4 102 rfl rfl, ⟨by decide +kernel, by decide +kernel⟩, rfl, Or.inl (go_nem_4 103 rfl rfl)⟩)⟩
theorem sv_X7_34_6 : go_SV "BitRecogniser$Table" 34 6 mx_X7_fillSpan 2 := ⟨mf_X7_fillSpan, go_R6, go_T6, 7, ⟨"BitRecogniser$Table", "fillSpan", "(II)V"⟩, rfl, go_mem_s 0 rfl rfl, go_mem_4 4 rfl rfl, Or.inr (Or.inr ⟨"BitRecogniser$Table", go_mem_4 2 rfl rfl, go_mem_8 138 rfl rfl, ⟨by decide +kernel, by decide +kernel⟩, rfl, Or.inr ⟨go_mem_4 4 rfl rfl, mx_X7_fillSpan.2.1, mx_X7_fillSpan.2.2.1, mx_X7_fillSpan.2.2.2, mf_X7_fillSpan.1⟩⟩)⟩
theorem sv_X7_34_2 : go_SV "BitRecogniser$Table" 34 2 mx_X7_fillSpan 2 := ⟨mf_X7_fillSpan, go_R2, go_T2, 8, ⟨"BitRecogniser$Table", "fillSpan", "(II)V"⟩, rfl, go_mem_s 3 rfl rfl, go_mem_4 4 rfl rfl, Or.inr (Or.inr ⟨"BitRecogniser$Table", go_mem_4 2 rfl rfl, go_mem_8 138 rfl rfl, ⟨by decide +kernel, by decide +kernel⟩, rfl, Or.inr ⟨go_mem_4 4 rfl rfl, mx_X7_fillSpan.2.1, mx_X7_fillSpan.2.2.1, mx_X7_fillSpan.2.2.2, mf_X7_fillSpan.1⟩⟩)⟩
theorem sv_X7_34_4 : go_SV "BitRecogniser$Table" 34 4 mx_X7_fillSpan 2 := ⟨mf_X7_fillSpan, go_R4, go_T4, 8, ⟨"BitRecogniser$Table", "fillSpan", "(II)V"⟩, rfl, go_mem_s 6 rfl rfl, go_mem_4 4 rfl rfl, Or.inr (Or.inr ⟨"BitRecogniser$Table", go_mem_4 2 rfl rfl, go_mem_8 138 rfl rfl, ⟨by decide +kernel, by decide +kernel⟩, rfl, Or.inr ⟨go_mem_4 4 rfl rfl, mx_X7_fillSpan.2.1, mx_X7_fillSpan.2.2.1, mx_X7_fillSpan.2.2.2, mf_X7_fillSpan.1⟩⟩)⟩
theorem sv_X7_38 : go_SV "BitRecogniser$Table" 38 0 mx_X0_symbolCount 0 := ⟨mf_X0_symbolCount, go_R0, go_T0, 14, ⟨"BitRecogniser$Binary", "symbolCount", "()I"⟩, rfl, go_mem_3 97 rfl rfl, go_mem_3 96 rfl rfl, Or.inl ⟨rfl, go_mem_4 6 rfl rfl⟩⟩
theorem sv_X7_48_6 : go_SV "BitRecogniser$Table" 48 6 mx_X7_takeLetters 1 := ⟨mf_X7_takeLetters, go_R6, go_T6, 7, ⟨"BitRecogniser$Table", "takeLetters", "(I)V"⟩, rfl, go_mem_s 1 rfl rfl, go_mem_4 10 rfl rfl, Or.inr (Or.inr ⟨"BitRecogniser$Table", go_mem_4 8 rfl rfl, go_mem_8 139 rfl rfl, ⟨by decide +kernel, by decide +kernel⟩, rfl, Or.inr ⟨go_mem_4 10 rfl rfl, mx_X7_takeLetters.2.1, mx_X7_takeLetters.2.2.1, mx_X7_takeLetters.2.2.2, mf_X7_takeLetters.1⟩⟩)⟩
theorem sv_X7_48_2 : go_SV "BitRecogniser$Table" 48 2 mx_X7_takeLetters 1 := ⟨mf_X7_takeLetters, go_R2, go_T2, 8, ⟨"BitRecogniser$Table", "takeLetters", "(I)V"⟩, rfl, go_mem_s 4 rfl rfl, go_mem_4 10 rfl rfl, Or.inr (Or.inr ⟨"BitRecogniser$Table", go_mem_4 8 rfl rfl, go_mem_8 139 rfl rfl, ⟨by decide +kernel, by decide +kernel⟩, rfl, Or.inr ⟨go_mem_4 10 rfl rfl, mx_X7_takeLetters.2.1, mx_X7_takeLetters.2.2.1, mx_X7_takeLetters.2.2.2, mf_X7_takeLetters.1⟩⟩)⟩
theorem sv_X7_48_4 : go_SV "BitRecogniser$Table" 48 4 mx_X7_takeLetters 1 := ⟨mf_X7_takeLetters, go_R4, go_T4, 8, ⟨"BitRecogniser$Table", "takeLetters", "(I)V"⟩, rfl, go_mem_s 7 rfl rfl, go_mem_4 10 rfl rfl, Or.inr (Or.inr ⟨"BitRecogniser$Table", go_mem_4 8 rfl rfl, go_mem_8 139 rfl rfl, ⟨by decide +kernel, by decide +kernel⟩, rfl, Or.inr ⟨go_mem_4 10 rfl rfl, mx_X7_takeLetters.2.1, mx_X7_takeLetters.2.2.1, mx_X7_takeLetters.2.2.2, mf_X7_takeLetters.1⟩⟩)⟩
theorem sv_X7_52_6 : go_SV "BitRecogniser$Table" 52 6 mx_X7_takeCut 3 := ⟨mf_X7_takeCut, go_R6, go_T6, 7, ⟨"BitRecogniser$Table", "takeCut", "(III)V"⟩, rfl, go_mem_s 2 rfl rfl, go_mem_4 28 rfl rfl, Or.inr (Or.inr ⟨"BitRecogniser$Table", go_mem_4 26 rfl rfl, go_mem_8 140 rfl rfl, ⟨by decide +kernel, by decide +kernel⟩, rfl, Or.inr ⟨go_mem_4 28 rfl rfl, mx_X7_takeCut.2.1, mx_X7_takeCut.2.2.1, mx_X7_takeCut.2.2.2, mf_X7_takeCut.1⟩⟩)⟩
theorem sv_X7_52_2 : go_SV "BitRecogniser$Table" 52 2 mx_X7_takeCut 3 := ⟨mf_X7_takeCut, go_R2, go_T2, 8, ⟨"BitRecogniser$Table", "takeCut", "(III)V"⟩, rfl, go_mem_s 5 rfl rfl, go_mem_4 28 rfl rfl, Or.inr (Or.inr ⟨"BitRecogniser$Table", go_mem_4 26 rfl rfl, go_mem_8 140 rfl rfl, ⟨by decide +kernel, by decide +kernel⟩, rfl, Or.inr ⟨go_mem_4 28 rfl rfl, mx_X7_takeCut.2.1, mx_X7_takeCut.2.2.1, mx_X7_takeCut.2.2.2, mf_X7_takeCut.1⟩⟩)⟩
theorem sv_X7_52_4 : go_SV "BitRecogniser$Table" 52 4 mx_X7_takeCut 3 := ⟨mf_X7_takeCut, go_R4, go_T4, 8, ⟨"BitRecogniser$Table", "takeCut", "(III)V"⟩, rfl, go_mem_s 8 rfl rfl, go_mem_4 28 rfl rfl, Or.inr (Or.inr ⟨"BitRecogniser$Table", go_mem_4 26 rfl rfl, go_mem_8 140 rfl rfl, ⟨by decide +kernel, by decide +kernel⟩, rfl, Or.inr ⟨go_mem_4 28 rfl rfl, mx_X7_takeCut.2.1, mx_X7_takeCut.2.2.1, mx_X7_takeCut.2.2.2, mf_X7_takeCut.1⟩⟩)⟩
theorem sv_X7_60_6 : go_SV "BitRecogniser$Table" 60 6 mx_X7_takeUnits 1 := ⟨mf_X7_takeUnits, go_R6, go_T6, 7, ⟨"BitRecogniser$Table", "takeUnits", "(I)V"⟩, rfl, go_mem_4 99 rfl rfl, go_mem_4 86 rfl rfl, Or.inr (Or.inr ⟨"BitRecogniser$Table", go_mem_4 85 rfl rfl, go_mem_4 87 rfl rfl, ⟨by decide +kernel, by decide +kernel⟩, rfl, Or.inr ⟨go_mem_4 86 rfl rfl, mx_X7_takeUnits.2.1, mx_X7_takeUnits.2.2.1, mx_X7_takeUnits.2.2.2, mf_X7_takeUnits.1⟩⟩)⟩
theorem sv_X7_60_2 : go_SV "BitRecogniser$Table" 60 2 mx_X2_takeUnits 1 := ⟨mf_X2_takeUnits, go_R2, go_T2, 8, ⟨"BitRecogniser$Table", "takeUnits", "(I)V"⟩, rfl, go_mem_4 88 rfl rfl, go_mem_4 89 rfl rfl, Or.inr (Or.inr ⟨"BitRecogniser$Table", go_mem_4 85 rfl rfl, go_mem_4 87 rfl rfl, ⟨by decide +kernel, by decide +kernel⟩, rfl, Or.inr ⟨go_mem_4 86 rfl rfl, mx_X7_takeUnits.2.1, mx_X7_takeUnits.2.2.1, mx_X7_takeUnits.2.2.2, mf_X7_takeUnits.1⟩⟩)⟩
theorem sv_X7_60_4 : go_SV "BitRecogniser$Table" 60 4 mx_X7_takeUnits 1 := ⟨mf_X7_takeUnits, go_R4, go_T4, 8, ⟨"BitRecogniser$Table", "takeUnits", "(I)V"⟩, rfl, go_mem_4 98 rfl rfl, go_mem_4 86 rfl rfl, Or.inr (Or.inr ⟨"BitRecogniser$Table", go_mem_4 85 rfl rfl, go_mem_4 87 rfl rfl, ⟨by decide +kernel, by decide +kernel⟩, rfl, Or.inr ⟨go_mem_4 86 rfl rfl, mx_X7_takeUnits.2.1, mx_X7_takeUnits.2.2.1, mx_X7_takeUnits.2.2.2, mf_X7_takeUnits.1⟩⟩)⟩
theorem sv_X7_67 : go_SV "BitRecogniser$Table" 67 1 mx_X1_derives 3 := ⟨mf_X1_derives, go_R1, go_T1, 7, ⟨"BitRecogniser$Chart", "derives", "(III)Z"⟩, rfl, go_mem_3 226 rfl rfl, go_mem_3 225 rfl rfl, Or.inl ⟨rfl, go_mem_4 12 rfl rfl⟩⟩
theorem sv_X7_73_6 : go_SV "BitRecogniser$Table" 73 6 mx_X6_ofLetter 2 := ⟨mf_X6_ofLetter, go_R6, go_T6, 7, ⟨"BitRecogniser$Table", "ofLetter", "(II)J"⟩, rfl, go_mem_4 23 rfl rfl, go_mem_4 24 rfl rfl, Or.inr (Or.inr ⟨"BitRecogniser$Table", go_mem_4 13 rfl rfl, go_mem_4 15 rfl rfl, ⟨by decide +kernel, by decide +kernel⟩, rfl, Or.inl (go_nem_4 14 rfl rfl)⟩)⟩
theorem sv_X7_73_2 : go_SV "BitRecogniser$Table" 73 2 mx_X2_ofLetter 2 := ⟨mf_X2_ofLetter, go_R2, go_T2, 8, ⟨"BitRecogniser$Table", "ofLetter", "(II)J"⟩, rfl, go_mem_4 16 rfl rfl, go_mem_4 17 rfl rfl, Or.inr (Or.inr ⟨"BitRecogniser$Table", go_mem_4 13 rfl rfl, go_mem_4 15 rfl rfl, ⟨by decide +kernel, by decide +kernel⟩, rfl, Or.inl (go_nem_4 14 rfl rfl)⟩)⟩
theorem sv_X7_73_4 : go_SV "BitRecogniser$Table" 73 4 mx_X4_ofLetter 2 := ⟨mf_X4_ofLetter, go_R4, go_T4, 8, ⟨"BitRecogniser$Table", "ofLetter", "(II)J"⟩, rfl, go_mem_4 19 rfl rfl, go_mem_4 20 rfl rfl, Or.inr (Or.inr ⟨"BitRecogniser$Table", go_mem_4 13 rfl rfl, go_mem_4 15 rfl rfl, ⟨by decide +kernel, by decide +kernel⟩, rfl, Or.inl (go_nem_4 14 rfl rfl)⟩)⟩
theorem sv_X7_77 : go_SV "BitRecogniser$Table" 77 1 mx_X1_cellAt 2 := ⟨mf_X1_cellAt, go_R1, go_T1, 7, ⟨"BitRecogniser$Chart", "cellAt", "(II)J"⟩, rfl, go_mem_3 152 rfl rfl, go_mem_3 151 rfl rfl, Or.inl ⟨rfl, go_mem_4 30 rfl rfl⟩⟩
theorem sv_X7_100_6 : go_SV "BitRecogniser$Table" 100 6 mx_X7_valueAt 3 := ⟨mf_X7_valueAt, go_R6, go_T6, 7, ⟨"BitRecogniser$Table", "valueAt", "(III)J"⟩, rfl, go_mem_4 39 rfl rfl, go_mem_4 35 rfl rfl, Or.inr (Or.inr ⟨"BitRecogniser$Table", go_mem_4 34 rfl rfl, go_mem_4 36 rfl rfl, ⟨by decide +kernel, by decide +kernel⟩, rfl, Or.inl (go_nem_4 103 rfl rfl)⟩)⟩
theorem sv_X7_100_2 : go_SV "BitRecogniser$Table" 100 2 mx_X7_valueAt 3 := ⟨mf_X7_valueAt, go_R2, go_T2, 8, ⟨"BitRecogniser$Table", "valueAt", "(III)J"⟩, rfl, go_mem_4 37 rfl rfl, go_mem_4 35 rfl rfl, Or.inr (Or.inr ⟨"BitRecogniser$Table", go_mem_4 34 rfl rfl, go_mem_4 36 rfl rfl, ⟨by decide +kernel, by decide +kernel⟩, rfl, Or.inl (go_nem_4 103 rfl rfl)⟩)⟩
theorem sv_X7_100_4 : go_SV "BitRecogniser$Table" 100 4 mx_X7_valueAt 3 := ⟨mf_X7_valueAt, go_R4, go_T4, 8, ⟨"BitRecogniser$Table", "valueAt", "(III)J"⟩, rfl, go_mem_4 38 rfl rfl, go_mem_4 35 rfl rfl, Or.inr (Or.inr ⟨"BitRecogniser$Table", go_mem_4 34 rfl rfl, go_mem_4 36 rfl rfl, ⟨by decide +kernel, by decide +kernel⟩, rfl, Or.inl (go_nem_4 103 rfl rfl)⟩)⟩
theorem sv_X7_107_6 : go_SV "BitRecogniser$Table" 107 6 mx_X6_ofTwo 3 := ⟨mf_X6_ofTwo, go_R6, go_T6, 7, ⟨"BitRecogniser$Table", "ofTwo", "(JJI)J"⟩, rfl, go_mem_4 59 rfl rfl, go_mem_4 60 rfl rfl, Or.inr (Or.inr ⟨"BitRecogniser$Table", go_mem_4 44 rfl rfl, go_mem_4 46 rfl rfl, ⟨by decide +kernel, by decide +kernel⟩, rfl, Or.inl (go_nem_4 45 rfl rfl)⟩)⟩
theorem sv_X7_107_2 : go_SV "BitRecogniser$Table" 107 2 mx_X2_ofTwo 3 := ⟨mf_X2_ofTwo, go_R2, go_T2, 8, ⟨"BitRecogniser$Table", "ofTwo", "(JJI)J"⟩, rfl, go_mem_4 47 rfl rfl, go_mem_4 48 rfl rfl, Or.inr (Or.inr ⟨"BitRecogniser$Table", go_mem_4 44 rfl rfl, go_mem_4 46 rfl rfl, ⟨by decide +kernel, by decide +kernel⟩, rfl, Or.inl (go_nem_4 45 rfl rfl)⟩)⟩
theorem sv_X7_107_4 : go_SV "BitRecogniser$Table" 107 4 mx_X4_ofTwo 3 := ⟨mf_X4_ofTwo, go_R4, go_T4, 8, ⟨"BitRecogniser$Table", "ofTwo", "(JJI)J"⟩, rfl, go_mem_4 55 rfl rfl, go_mem_4 56 rfl rfl, Or.inr (Or.inr ⟨"BitRecogniser$Table", go_mem_4 44 rfl rfl, go_mem_4 46 rfl rfl, ⟨by decide +kernel, by decide +kernel⟩, rfl, Or.inl (go_nem_4 45 rfl rfl)⟩)⟩
theorem sv_X7_114_6 : go_SV "BitRecogniser$Table" 114 6 mx_X6_merge 2 := ⟨mf_X6_merge, go_R6, go_T6, 7, ⟨"BitRecogniser$Table", "merge", "(JJ)J"⟩, rfl, go_mem_4 81 rfl rfl, go_mem_4 82 rfl rfl, Or.inr (Or.inr ⟨"BitRecogniser$Table", go_mem_4 66 rfl rfl, go_mem_4 68 rfl rfl, ⟨by decide +kernel, by decide +kernel⟩, rfl, Or.inl (go_nem_4 67 rfl rfl)⟩)⟩
theorem sv_X7_114_2 : go_SV "BitRecogniser$Table" 114 2 mx_X2_merge 2 := ⟨mf_X2_merge, go_R2, go_T2, 8, ⟨"BitRecogniser$Table", "merge", "(JJ)J"⟩, rfl, go_mem_4 69 rfl rfl, go_mem_4 70 rfl rfl, Or.inr (Or.inr ⟨"BitRecogniser$Table", go_mem_4 66 rfl rfl, go_mem_4 68 rfl rfl, ⟨by decide +kernel, by decide +kernel⟩, rfl, Or.inl (go_nem_4 67 rfl rfl)⟩)⟩
theorem sv_X7_114_4 : go_SV "BitRecogniser$Table" 114 4 mx_X4_merge 2 := ⟨mf_X4_merge, go_R4, go_T4, 8, ⟨"BitRecogniser$Table", "merge", "(JJ)J"⟩, rfl, go_mem_4 75 rfl rfl, go_mem_4 76 rfl rfl, Or.inr (Or.inr ⟨"BitRecogniser$Table", go_mem_4 66 rfl rfl, go_mem_4 68 rfl rfl, ⟨by decide +kernel, by decide +kernel⟩, rfl, Or.inl (go_nem_4 67 rfl rfl)⟩)⟩
theorem sv_X8_26 : go_SV "BitRecogniser$Tape" 26 7 mx_X8_clear 0 := ⟨mf_X8_clear, go_R7, go_T7, 4, ⟨"BitRecogniser$Tape", "clear", "()V"⟩, rfl, go_mem_p 0 rfl rfl, go_mem_2 201 rfl rfl, Or.inl ⟨rfl, go_mem_2 199 rfl rfl⟩⟩
theorem sv_X8_37 : go_SV "BitRecogniser$Tape" 37 7 mx_X8_fail 2 := ⟨mf_X8_fail, go_R7, go_T7, 4, ⟨"BitRecogniser$Tape", "fail", "(II)I"⟩, rfl, go_mem_p 1 rfl rfl, go_mem_2 211 rfl rfl, Or.inl ⟨rfl, go_mem_2 209 rfl rfl⟩⟩
theorem sv_X9_15 : go_SV "BitRecogniser$Told" 15 8 mx_X9_ruleAt 1 := ⟨mf_X9_ruleAt, go_R8, go_T8, 4, ⟨"BitRecogniser$Told", "ruleAt", "(I)I"⟩, rfl, go_mem_2 234 rfl rfl, go_mem_2 233 rfl rfl, Or.inl ⟨rfl, go_mem_2 232 rfl rfl⟩⟩
theorem sv_X10_33 : go_SV "BitRecogniser$Vocabulary" 33 9 mx_X10_joinSets 3 := ⟨mf_X10_joinSets, go_R9, go_T9, 2, ⟨"BitRecogniser$Vocabulary", "joinSets", "(III)V"⟩, rfl, go_mem_p 35 rfl rfl, go_mem_5 144 rfl rfl, Or.inl ⟨rfl, go_mem_5 142 rfl rfl⟩⟩
theorem sv_X10_37 : go_SV "BitRecogniser$Vocabulary" 37 9 mx_X10_liftSets 2 := ⟨mf_X10_liftSets, go_R9, go_T9, 2, ⟨"BitRecogniser$Vocabulary", "liftSets", "(LBitRecogniser$Binary;I)V"⟩, rfl, go_mem_p 37 rfl rfl, go_mem_5 160 rfl rfl, Or.inl ⟨rfl, go_mem_5 158 rfl rfl⟩⟩
theorem sv_X10_61 : go_SV "BitRecogniser$Vocabulary" 61 9 mx_X10_addBits 3 := ⟨mf_X10_addBits, go_R9, go_T9, 2, ⟨"BitRecogniser$Vocabulary", "addBits", "(IIJ)V"⟩, rfl, go_mem_p 36 rfl rfl, go_mem_5 156 rfl rfl, Or.inl ⟨rfl, go_mem_5 154 rfl rfl⟩⟩
theorem sv_X10_68 : go_SV "BitRecogniser$Vocabulary" 68 9 mx_X10_addSet 3 := ⟨mf_X10_addSet, go_R9, go_T9, 2, ⟨"BitRecogniser$Vocabulary", "addSet", "(III)V"⟩, rfl, go_mem_p 38 rfl rfl, go_mem_5 164 rfl rfl, Or.inl ⟨rfl, go_mem_5 162 rfl rfl⟩⟩
theorem sv_L_13 : go_SV "BitRecogniserLaw" 13 10 mx_X11_feed 5 := ⟨mf_X11_feed, go_R10, go_T10, 18, ⟨"BitRecogniser", "feed", "(IIIII)I"⟩, rfl, go_mem_2 178 rfl rfl, go_mem_2 177 rfl rfl, Or.inl ⟨rfl, go_mem_2 176 rfl rfl⟩⟩
theorem sv_L_17 : go_SV "BitRecogniserLaw" 17 11 mx_X12_feed 5 := ⟨mf_X12_feed, go_R11, go_T11, 53, ⟨"BitRecogniserModel", "feed", "(IIIII)I"⟩, rfl, go_mem_6 162 rfl rfl, go_mem_6 161 rfl rfl, Or.inl ⟨rfl, go_mem_6 160 rfl rfl⟩⟩
theorem sv_L_18 : go_SV "BitRecogniserLaw" 18 10 mx_X11_rule 1 := ⟨mf_X11_rule, go_R10, go_T10, 18, ⟨"BitRecogniser", "rule", "(I)I"⟩, rfl, go_mem_2 189 rfl rfl, go_mem_2 188 rfl rfl, Or.inl ⟨rfl, go_mem_2 187 rfl rfl⟩⟩
theorem sv_L_22 : go_SV "BitRecogniserLaw" 22 11 mx_X12_rule 1 := ⟨mf_X12_rule, go_R11, go_T11, 53, ⟨"BitRecogniserModel", "rule", "(I)I"⟩, rfl, go_mem_6 166 rfl rfl, go_mem_6 165 rfl rfl, Or.inl ⟨rfl, go_mem_6 164 rfl rfl⟩⟩
theorem sv_L_23 : go_SV "BitRecogniserLaw" 23 10 mx_X11_word 1 := ⟨mf_X11_word, go_R10, go_T10, 18, ⟨"BitRecogniser", "word", "(I)I"⟩, rfl, go_mem_3 7 rfl rfl, go_mem_3 6 rfl rfl, Or.inl ⟨rfl, go_mem_3 5 rfl rfl⟩⟩
theorem sv_L_26 : go_SV "BitRecogniserLaw" 26 11 mx_X12_word 1 := ⟨mf_X12_word, go_R11, go_T11, 53, ⟨"BitRecogniserModel", "word", "(I)I"⟩, rfl, go_mem_6 214 rfl rfl, go_mem_6 213 rfl rfl, Or.inl ⟨rfl, go_mem_6 212 rfl rfl⟩⟩
theorem sv_L_27 : go_SV "BitRecogniserLaw" 27 10 mx_X11_fault 1 := ⟨mf_X11_fault, go_R10, go_T10, 18, ⟨"BitRecogniser", "fault", "(I)I"⟩, rfl, go_mem_3 19 rfl rfl, go_mem_3 18 rfl rfl, Or.inl ⟨rfl, go_mem_3 17 rfl rfl⟩⟩
theorem sv_L_30 : go_SV "BitRecogniserLaw" 30 11 mx_X12_fault 1 := ⟨mf_X12_fault, go_R11, go_T11, 53, ⟨"BitRecogniserModel", "fault", "(I)I"⟩, rfl, go_mem_6 218 rfl rfl, go_mem_6 217 rfl rfl, Or.inl ⟨rfl, go_mem_6 216 rfl rfl⟩⟩
theorem sv_L_31 : go_SV "BitRecogniserLaw" 31 10 mx_X11_drop 1 := ⟨mf_X11_drop, go_R10, go_T10, 18, ⟨"BitRecogniser", "drop", "(I)I"⟩, rfl, go_mem_3 23 rfl rfl, go_mem_3 22 rfl rfl, Or.inl ⟨rfl, go_mem_3 21 rfl rfl⟩⟩
theorem sv_L_34 : go_SV "BitRecogniserLaw" 34 11 mx_X12_drop 1 := ⟨mf_X12_drop, go_R11, go_T11, 53, ⟨"BitRecogniserModel", "drop", "(I)I"⟩, rfl, go_mem_6 222 rfl rfl, go_mem_6 221 rfl rfl, Or.inl ⟨rfl, go_mem_6 220 rfl rfl⟩⟩
theorem sv_L_35 : go_SV "BitRecogniserLaw" 35 10 mx_X11_start 1 := ⟨mf_X11_start, go_R10, go_T10, 18, ⟨"BitRecogniser", "start", "(I)I"⟩, rfl, go_mem_3 38 rfl rfl, go_mem_3 37 rfl rfl, Or.inl ⟨rfl, go_mem_3 36 rfl rfl⟩⟩
theorem sv_L_38 : go_SV "BitRecogniserLaw" 38 11 mx_X12_start 1 := ⟨mf_X12_start, go_R11, go_T11, 53, ⟨"BitRecogniserModel", "start", "(I)I"⟩, rfl, go_mem_6 235 rfl rfl, go_mem_6 234 rfl rfl, Or.inl ⟨rfl, go_mem_6 233 rfl rfl⟩⟩
theorem sv_L_39 : go_SV "BitRecogniserLaw" 39 10 mx_X11_part 2 := ⟨mf_X11_part, go_R10, go_T10, 18, ⟨"BitRecogniser", "part", "(II)I"⟩, rfl, go_mem_3 46 rfl rfl, go_mem_3 45 rfl rfl, Or.inl ⟨rfl, go_mem_3 44 rfl rfl⟩⟩
theorem sv_L_43 : go_SV "BitRecogniserLaw" 43 11 mx_X12_part 2 := ⟨mf_X12_part, go_R11, go_T11, 53, ⟨"BitRecogniserModel", "part", "(II)I"⟩, rfl, go_mem_7 3 rfl rfl, go_mem_7 2 rfl rfl, Or.inl ⟨rfl, go_mem_7 1 rfl rfl⟩⟩
theorem sv_L_44 : go_SV "BitRecogniserLaw" 44 10 mx_X11_pairs 0 := ⟨mf_X11_pairs, go_R10, go_T10, 18, ⟨"BitRecogniser", "pairs", "()I"⟩, rfl, go_mem_3 59 rfl rfl, go_mem_3 58 rfl rfl, Or.inl ⟨rfl, go_mem_3 57 rfl rfl⟩⟩
theorem sv_L_48 : go_SV "BitRecogniserLaw" 48 11 mx_X12_pairs 0 := ⟨mf_X12_pairs, go_R11, go_T11, 53, ⟨"BitRecogniserModel", "pairs", "()I"⟩, rfl, go_mem_7 7 rfl rfl, go_mem_7 6 rfl rfl, Or.inl ⟨rfl, go_mem_7 5 rfl rfl⟩⟩
theorem sv_L_49 : go_SV "BitRecogniserLaw" 49 10 mx_X11_pair 2 := ⟨mf_X11_pair, go_R10, go_T10, 18, ⟨"BitRecogniser", "pair", "(II)I"⟩, rfl, go_mem_3 177 rfl rfl, go_mem_3 176 rfl rfl, Or.inl ⟨rfl, go_mem_3 175 rfl rfl⟩⟩
theorem sv_L_52 : go_SV "BitRecogniserLaw" 52 11 mx_X12_pair 2 := ⟨mf_X12_pair, go_R11, go_T11, 53, ⟨"BitRecogniserModel", "pair", "(II)I"⟩, rfl, go_mem_7 15 rfl rfl, go_mem_7 14 rfl rfl, Or.inl ⟨rfl, go_mem_7 13 rfl rfl⟩⟩
theorem sv_L_53 : go_SV "BitRecogniserLaw" 53 10 mx_X11_back 2 := ⟨mf_X11_back, go_R10, go_T10, 18, ⟨"BitRecogniser", "back", "(II)I"⟩, rfl, go_mem_3 185 rfl rfl, go_mem_3 184 rfl rfl, Or.inl ⟨rfl, go_mem_3 183 rfl rfl⟩⟩
theorem sv_L_56 : go_SV "BitRecogniserLaw" 56 11 mx_X12_back 2 := ⟨mf_X12_back, go_R11, go_T11, 53, ⟨"BitRecogniserModel", "back", "(II)I"⟩, rfl, go_mem_7 20 rfl rfl, go_mem_7 19 rfl rfl, Or.inl ⟨rfl, go_mem_7 18 rfl rfl⟩⟩
theorem sv_L_57 : go_SV "BitRecogniserLaw" 57 10 mx_X11_units 1 := ⟨mf_X11_units, go_R10, go_T10, 18, ⟨"BitRecogniser", "units", "(I)I"⟩, rfl, go_mem_3 194 rfl rfl, go_mem_3 193 rfl rfl, Or.inl ⟨rfl, go_mem_3 192 rfl rfl⟩⟩
theorem sv_L_60 : go_SV "BitRecogniserLaw" 60 11 mx_X12_units 1 := ⟨mf_X12_units, go_R11, go_T11, 53, ⟨"BitRecogniserModel", "units", "(I)I"⟩, rfl, go_mem_7 25 rfl rfl, go_mem_7 24 rfl rfl, Or.inl ⟨rfl, go_mem_7 23 rfl rfl⟩⟩
theorem sv_L_61 : go_SV "BitRecogniserLaw" 61 10 mx_X11_rounds 0 := ⟨mf_X11_rounds, go_R10, go_T10, 18, ⟨"BitRecogniser", "rounds", "()I"⟩, rfl, go_mem_3 198 rfl rfl, go_mem_3 197 rfl rfl, Or.inl ⟨rfl, go_mem_3 196 rfl rfl⟩⟩
theorem sv_L_64 : go_SV "BitRecogniserLaw" 64 11 mx_X12_rounds 0 := ⟨mf_X12_rounds, go_R11, go_T11, 53, ⟨"BitRecogniserModel", "rounds", "()I"⟩, rfl, go_mem_7 33 rfl rfl, go_mem_7 32 rfl rfl, Or.inl ⟨rfl, go_mem_7 31 rfl rfl⟩⟩
theorem sv_L_65 : go_SV "BitRecogniserLaw" 65 10 mx_X11_least 1 := ⟨mf_X11_least, go_R10, go_T10, 18, ⟨"BitRecogniser", "least", "(I)I"⟩, rfl, go_mem_3 202 rfl rfl, go_mem_3 201 rfl rfl, Or.inl ⟨rfl, go_mem_3 200 rfl rfl⟩⟩
theorem sv_L_68 : go_SV "BitRecogniserLaw" 68 11 mx_X12_least 1 := ⟨mf_X12_least, go_R11, go_T11, 53, ⟨"BitRecogniserModel", "least", "(I)I"⟩, rfl, go_mem_7 37 rfl rfl, go_mem_7 36 rfl rfl, Or.inl ⟨rfl, go_mem_7 35 rfl rfl⟩⟩
theorem sv_L_69 : go_SV "BitRecogniserLaw" 69 10 mx_X11_reached 1 := ⟨mf_X11_reached, go_R10, go_T10, 18, ⟨"BitRecogniser", "reached", "(I)I"⟩, rfl, go_mem_3 206 rfl rfl, go_mem_3 205 rfl rfl, Or.inl ⟨rfl, go_mem_3 204 rfl rfl⟩⟩
theorem sv_L_72 : go_SV "BitRecogniserLaw" 72 11 mx_X12_reached 1 := ⟨mf_X12_reached, go_R11, go_T11, 53, ⟨"BitRecogniserModel", "reached", "(I)I"⟩, rfl, go_mem_7 54 rfl rfl, go_mem_7 53 rfl rfl, Or.inl ⟨rfl, go_mem_7 52 rfl rfl⟩⟩
theorem sv_L_73 : go_SV "BitRecogniserLaw" 73 10 mx_X11_cell 2 := ⟨mf_X11_cell, go_R10, go_T10, 18, ⟨"BitRecogniser", "cell", "(II)J"⟩, rfl, go_mem_3 215 rfl rfl, go_mem_3 214 rfl rfl, Or.inl ⟨rfl, go_mem_3 213 rfl rfl⟩⟩
theorem sv_L_77 : go_SV "BitRecogniserLaw" 77 11 mx_X12_cell 2 := ⟨mf_X12_cell, go_R11, go_T11, 53, ⟨"BitRecogniserModel", "cell", "(II)J"⟩, rfl, go_mem_7 58 rfl rfl, go_mem_7 57 rfl rfl, Or.inl ⟨rfl, go_mem_7 56 rfl rfl⟩⟩
theorem sv_L_78 : go_SV "BitRecogniserLaw" 78 10 mx_X11_accepted 0 := ⟨mf_X11_accepted, go_R10, go_T10, 18, ⟨"BitRecogniser", "accepted", "()I"⟩, rfl, go_mem_3 222 rfl rfl, go_mem_3 221 rfl rfl, Or.inl ⟨rfl, go_mem_3 220 rfl rfl⟩⟩
theorem sv_L_81 : go_SV "BitRecogniserLaw" 81 11 mx_X12_accepted 0 := ⟨mf_X12_accepted, go_R11, go_T11, 53, ⟨"BitRecogniserModel", "accepted", "()I"⟩, rfl, go_mem_7 90 rfl rfl, go_mem_7 89 rfl rfl, Or.inl ⟨rfl, go_mem_7 88 rfl rfl⟩⟩
theorem sv_L_82 : go_SV "BitRecogniserLaw" 82 10 mx_X11_round 3 := ⟨mf_X11_round, go_R10, go_T10, 18, ⟨"BitRecogniser", "round", "(III)I"⟩, rfl, go_mem_3 230 rfl rfl, go_mem_3 229 rfl rfl, Or.inl ⟨rfl, go_mem_3 228 rfl rfl⟩⟩
theorem sv_L_86 : go_SV "BitRecogniserLaw" 86 11 mx_X12_round 3 := ⟨mf_X12_round, go_R11, go_T11, 53, ⟨"BitRecogniserModel", "round", "(III)I"⟩, rfl, go_mem_7 102 rfl rfl, go_mem_7 101 rfl rfl, Or.inl ⟨rfl, go_mem_7 100 rfl rfl⟩⟩
theorem sv_L_87 : go_SV "BitRecogniserLaw" 87 10 mx_X11_last 0 := ⟨mf_X11_last, go_R10, go_T10, 18, ⟨"BitRecogniser", "last", "()I"⟩, rfl, go_mem_4 107 rfl rfl, go_mem_4 106 rfl rfl, Or.inl ⟨rfl, go_mem_4 105 rfl rfl⟩⟩
theorem sv_L_90 : go_SV "BitRecogniserLaw" 90 11 mx_X12_last 0 := ⟨mf_X12_last, go_R11, go_T11, 53, ⟨"BitRecogniserModel", "last", "()I"⟩, rfl, go_mem_7 110 rfl rfl, go_mem_7 109 rfl rfl, Or.inl ⟨rfl, go_mem_7 108 rfl rfl⟩⟩
theorem sv_L_91 : go_SV "BitRecogniserLaw" 91 10 mx_X11_product 3 := ⟨mf_X11_product, go_R10, go_T10, 18, ⟨"BitRecogniser", "product", "(III)I"⟩, rfl, go_mem_4 119 rfl rfl, go_mem_4 118 rfl rfl, Or.inl ⟨rfl, go_mem_4 117 rfl rfl⟩⟩
theorem sv_L_94 : go_SV "BitRecogniserLaw" 94 11 mx_X12_product 3 := ⟨mf_X12_product, go_R11, go_T11, 53, ⟨"BitRecogniserModel", "product", "(III)I"⟩, rfl, go_mem_7 114 rfl rfl, go_mem_7 113 rfl rfl, Or.inl ⟨rfl, go_mem_7 112 rfl rfl⟩⟩
theorem sv_L_95 : go_SV "BitRecogniserLaw" 95 10 mx_X11_cuts 4 := ⟨mf_X11_cuts, go_R10, go_T10, 18, ⟨"BitRecogniser", "cuts", "(IIII)I"⟩, rfl, go_mem_4 132 rfl rfl, go_mem_4 131 rfl rfl, Or.inl ⟨rfl, go_mem_4 130 rfl rfl⟩⟩
theorem sv_L_99 : go_SV "BitRecogniserLaw" 99 11 mx_X12_cuts 4 := ⟨mf_X12_cuts, go_R11, go_T11, 53, ⟨"BitRecogniserModel", "cuts", "(IIII)I"⟩, rfl, go_mem_7 130 rfl rfl, go_mem_7 129 rfl rfl, Or.inl ⟨rfl, go_mem_7 128 rfl rfl⟩⟩
theorem sv_L_100 : go_SV "BitRecogniserLaw" 100 10 mx_X11_row 2 := ⟨mf_X11_row, go_R10, go_T10, 18, ⟨"BitRecogniser", "row", "(II)I"⟩, rfl, go_mem_4 136 rfl rfl, go_mem_4 135 rfl rfl, Or.inl ⟨rfl, go_mem_4 134 rfl rfl⟩⟩
theorem sv_L_103 : go_SV "BitRecogniserLaw" 103 11 mx_X12_row 2 := ⟨mf_X12_row, go_R11, go_T11, 53, ⟨"BitRecogniserModel", "row", "(II)I"⟩, rfl, go_mem_7 126 rfl rfl, go_mem_7 125 rfl rfl, Or.inl ⟨rfl, go_mem_7 124 rfl rfl⟩⟩
theorem sv_L_104 : go_SV "BitRecogniserLaw" 104 10 mx_X11_spans 2 := ⟨mf_X11_spans, go_R10, go_T10, 18, ⟨"BitRecogniser", "spans", "(II)I"⟩, rfl, go_mem_4 140 rfl rfl, go_mem_4 139 rfl rfl, Or.inl ⟨rfl, go_mem_4 138 rfl rfl⟩⟩
theorem sv_L_107 : go_SV "BitRecogniserLaw" 107 11 mx_X12_spans 2 := ⟨mf_X12_spans, go_R11, go_T11, 53, ⟨"BitRecogniserModel", "spans", "(II)I"⟩, rfl, go_mem_7 134 rfl rfl, go_mem_7 133 rfl rfl, Or.inl ⟨rfl, go_mem_7 132 rfl rfl⟩⟩
theorem sv_L_108 : go_SV "BitRecogniserLaw" 108 10 mx_X11_trees 3 := ⟨mf_X11_trees, go_R10, go_T10, 18, ⟨"BitRecogniser", "trees", "(III)J"⟩, rfl, go_mem_4 148 rfl rfl, go_mem_4 147 rfl rfl, Or.inl ⟨rfl, go_mem_4 146 rfl rfl⟩⟩
theorem sv_L_112 : go_SV "BitRecogniserLaw" 112 11 mx_X12_trees 3 := ⟨mf_X12_trees, go_R11, go_T11, 53, ⟨"BitRecogniserModel", "trees", "(III)J"⟩, rfl, go_mem_7 139 rfl rfl, go_mem_7 138 rfl rfl, Or.inl ⟨rfl, go_mem_7 137 rfl rfl⟩⟩
theorem sv_L_113 : go_SV "BitRecogniserLaw" 113 10 mx_X11_doubtful 1 := ⟨mf_X11_doubtful, go_R10, go_T10, 18, ⟨"BitRecogniser", "doubtful", "(I)I"⟩, rfl, go_mem_4 162 rfl rfl, go_mem_4 161 rfl rfl, Or.inl ⟨rfl, go_mem_4 160 rfl rfl⟩⟩
theorem sv_L_116 : go_SV "BitRecogniserLaw" 116 11 mx_X12_doubtful 1 := ⟨mf_X12_doubtful, go_R11, go_T11, 53, ⟨"BitRecogniserModel", "doubtful", "(I)I"⟩, rfl, go_mem_7 175 rfl rfl, go_mem_7 174 rfl rfl, Or.inl ⟨rfl, go_mem_7 173 rfl rfl⟩⟩
theorem sv_L_117 : go_SV "BitRecogniserLaw" 117 10 mx_X11_nodes 0 := ⟨mf_X11_nodes, go_R10, go_T10, 18, ⟨"BitRecogniser", "nodes", "()I"⟩, rfl, go_mem_4 171 rfl rfl, go_mem_4 170 rfl rfl, Or.inl ⟨rfl, go_mem_4 169 rfl rfl⟩⟩
theorem sv_L_120 : go_SV "BitRecogniserLaw" 120 11 mx_X12_nodes 0 := ⟨mf_X12_nodes, go_R11, go_T11, 53, ⟨"BitRecogniserModel", "nodes", "()I"⟩, rfl, go_mem_7 187 rfl rfl, go_mem_7 186 rfl rfl, Or.inl ⟨rfl, go_mem_7 185 rfl rfl⟩⟩
theorem sv_L_121 : go_SV "BitRecogniserLaw" 121 10 mx_X11_node 2 := ⟨mf_X11_node, go_R10, go_T10, 18, ⟨"BitRecogniser", "node", "(II)I"⟩, rfl, go_mem_5 10 rfl rfl, go_mem_5 9 rfl rfl, Or.inl ⟨rfl, go_mem_5 8 rfl rfl⟩⟩
theorem sv_L_124 : go_SV "BitRecogniserLaw" 124 11 mx_X12_node 2 := ⟨mf_X12_node, go_R11, go_T11, 53, ⟨"BitRecogniserModel", "node", "(II)I"⟩, rfl, go_mem_7 214 rfl rfl, go_mem_7 213 rfl rfl, Or.inl ⟨rfl, go_mem_7 212 rfl rfl⟩⟩
theorem sv_L_125 : go_SV "BitRecogniserLaw" 125 10 mx_X11_tree 3 := ⟨mf_X11_tree, go_R10, go_T10, 18, ⟨"BitRecogniser", "tree", "(III)I"⟩, rfl, go_mem_5 15 rfl rfl, go_mem_5 14 rfl rfl, Or.inl ⟨rfl, go_mem_5 13 rfl rfl⟩⟩
theorem sv_L_128 : go_SV "BitRecogniserLaw" 128 11 mx_X12_tree 3 := ⟨mf_X12_tree, go_R11, go_T11, 53, ⟨"BitRecogniserModel", "tree", "(III)I"⟩, rfl, go_mem_7 223 rfl rfl, go_mem_7 222 rfl rfl, Or.inl ⟨rfl, go_mem_7 221 rfl rfl⟩⟩
theorem sv_L_129 : go_SV "BitRecogniserLaw" 129 10 mx_X11_loss 1 := ⟨mf_X11_loss, go_R10, go_T10, 18, ⟨"BitRecogniser", "loss", "(I)I"⟩, rfl, go_mem_5 19 rfl rfl, go_mem_5 18 rfl rfl, Or.inl ⟨rfl, go_mem_5 17 rfl rfl⟩⟩
theorem sv_L_132 : go_SV "BitRecogniserLaw" 132 11 mx_X12_loss 1 := ⟨mf_X12_loss, go_R11, go_T11, 53, ⟨"BitRecogniserModel", "loss", "(I)I"⟩, rfl, go_mem_7 179 rfl rfl, go_mem_7 178 rfl rfl, Or.inl ⟨rfl, go_mem_7 177 rfl rfl⟩⟩
theorem sv_L_133 : go_SV "BitRecogniserLaw" 133 10 mx_X11_form 2 := ⟨mf_X11_form, go_R10, go_T10, 18, ⟨"BitRecogniser", "form", "(II)I"⟩, rfl, go_mem_5 29 rfl rfl, go_mem_5 28 rfl rfl, Or.inl ⟨rfl, go_mem_5 27 rfl rfl⟩⟩
theorem sv_L_136 : go_SV "BitRecogniserLaw" 136 11 mx_X12_form 2 := ⟨mf_X12_form, go_R11, go_T11, 53, ⟨"BitRecogniserModel", "form", "(II)I"⟩, rfl, go_mem_7 228 rfl rfl, go_mem_7 227 rfl rfl, Or.inl ⟨rfl, go_mem_7 226 rfl rfl⟩⟩
theorem sv_L_137 : go_SV "BitRecogniserLaw" 137 10 mx_X11_length 1 := ⟨mf_X11_length, go_R10, go_T10, 18, ⟨"BitRecogniser", "length", "(I)I"⟩, rfl, go_mem_5 41 rfl rfl, go_mem_5 40 rfl rfl, Or.inl ⟨rfl, go_mem_5 39 rfl rfl⟩⟩
theorem sv_L_140 : go_SV "BitRecogniserLaw" 140 11 mx_X12_length 1 := ⟨mf_X12_length, go_R11, go_T11, 53, ⟨"BitRecogniserModel", "length", "(I)I"⟩, rfl, go_mem_7 236 rfl rfl, go_mem_7 235 rfl rfl, Or.inl ⟨rfl, go_mem_7 234 rfl rfl⟩⟩
theorem sv_L_141 : go_SV "BitRecogniserLaw" 141 10 mx_X11_beginnings 0 := ⟨mf_X11_beginnings, go_R10, go_T10, 18, ⟨"BitRecogniser", "beginnings", "()I"⟩, rfl, go_mem_5 45 rfl rfl, go_mem_5 44 rfl rfl, Or.inl ⟨rfl, go_mem_5 43 rfl rfl⟩⟩
theorem sv_L_144 : go_SV "BitRecogniserLaw" 144 11 mx_X12_beginnings 0 := ⟨mf_X12_beginnings, go_R11, go_T11, 53, ⟨"BitRecogniserModel", "beginnings", "()I"⟩, rfl, go_mem_8 0 rfl rfl, go_mem_7 239 rfl rfl, Or.inl ⟨rfl, go_mem_7 238 rfl rfl⟩⟩
theorem sv_L_145 : go_SV "BitRecogniserLaw" 145 10 mx_X11_pieces 1 := ⟨mf_X11_pieces, go_R10, go_T10, 18, ⟨"BitRecogniser", "pieces", "(I)I"⟩, rfl, go_mem_5 49 rfl rfl, go_mem_5 48 rfl rfl, Or.inl ⟨rfl, go_mem_5 47 rfl rfl⟩⟩
theorem sv_L_148 : go_SV "BitRecogniserLaw" 148 11 mx_X12_pieces 1 := ⟨mf_X12_pieces, go_R11, go_T11, 53, ⟨"BitRecogniserModel", "pieces", "(I)I"⟩, rfl, go_mem_8 4 rfl rfl, go_mem_8 3 rfl rfl, Or.inl ⟨rfl, go_mem_8 2 rfl rfl⟩⟩
theorem sv_L_149 : go_SV "BitRecogniserLaw" 149 10 mx_X11_turned 0 := ⟨mf_X11_turned, go_R10, go_T10, 18, ⟨"BitRecogniser", "turned", "()I"⟩, rfl, go_mem_5 65 rfl rfl, go_mem_5 64 rfl rfl, Or.inl ⟨rfl, go_mem_5 63 rfl rfl⟩⟩
theorem sv_L_152 : go_SV "BitRecogniserLaw" 152 11 mx_X12_turned 0 := ⟨mf_X12_turned, go_R11, go_T11, 53, ⟨"BitRecogniserModel", "turned", "()I"⟩, rfl, go_mem_8 53 rfl rfl, go_mem_8 52 rfl rfl, Or.inl ⟨rfl, go_mem_8 51 rfl rfl⟩⟩
theorem sv_L_153 : go_SV "BitRecogniserLaw" 153 10 mx_X11_viable 0 := ⟨mf_X11_viable, go_R10, go_T10, 18, ⟨"BitRecogniser", "viable", "()I"⟩, rfl, go_mem_5 69 rfl rfl, go_mem_5 68 rfl rfl, Or.inl ⟨rfl, go_mem_5 67 rfl rfl⟩⟩
theorem sv_L_156 : go_SV "BitRecogniserLaw" 156 11 mx_X12_viable 0 := ⟨mf_X12_viable, go_R11, go_T11, 53, ⟨"BitRecogniserModel", "viable", "()I"⟩, rfl, go_mem_8 57 rfl rfl, go_mem_8 56 rfl rfl, Or.inl ⟨rfl, go_mem_8 55 rfl rfl⟩⟩
theorem sv_L_157 : go_SV "BitRecogniserLaw" 157 10 mx_X11_next 0 := ⟨mf_X11_next, go_R10, go_T10, 18, ⟨"BitRecogniser", "next", "()I"⟩, rfl, go_mem_5 84 rfl rfl, go_mem_5 83 rfl rfl, Or.inl ⟨rfl, go_mem_5 82 rfl rfl⟩⟩
theorem sv_L_160 : go_SV "BitRecogniserLaw" 160 11 mx_X12_next 0 := ⟨mf_X12_next, go_R11, go_T11, 53, ⟨"BitRecogniserModel", "next", "()I"⟩, rfl, go_mem_8 81 rfl rfl, go_mem_8 80 rfl rfl, Or.inl ⟨rfl, go_mem_8 79 rfl rfl⟩⟩
theorem sv_L_161 : go_SV "BitRecogniserLaw" 161 10 mx_X11_lengths 1 := ⟨mf_X11_lengths, go_R10, go_T10, 18, ⟨"BitRecogniser", "lengths", "(I)I"⟩, rfl, go_mem_5 88 rfl rfl, go_mem_5 87 rfl rfl, Or.inl ⟨rfl, go_mem_5 86 rfl rfl⟩⟩
theorem sv_L_164 : go_SV "BitRecogniserLaw" 164 11 mx_X12_lengths 1 := ⟨mf_X12_lengths, go_R11, go_T11, 53, ⟨"BitRecogniserModel", "lengths", "(I)I"⟩, rfl, go_mem_8 85 rfl rfl, go_mem_8 84 rfl rfl, Or.inl ⟨rfl, go_mem_8 83 rfl rfl⟩⟩
theorem sv_L_165 : go_SV "BitRecogniserLaw" 165 10 mx_X11_shapes 2 := ⟨mf_X11_shapes, go_R10, go_T10, 18, ⟨"BitRecogniser", "shapes", "(II)J"⟩, rfl, go_mem_5 100 rfl rfl, go_mem_5 99 rfl rfl, Or.inl ⟨rfl, go_mem_5 98 rfl rfl⟩⟩
theorem sv_L_168 : go_SV "BitRecogniserLaw" 168 11 mx_X12_shapes 2 := ⟨mf_X12_shapes, go_R11, go_T11, 53, ⟨"BitRecogniserModel", "shapes", "(II)J"⟩, rfl, go_mem_8 93 rfl rfl, go_mem_8 92 rfl rfl, Or.inl ⟨rfl, go_mem_8 91 rfl rfl⟩⟩
theorem sv_L_169 : go_SV "BitRecogniserLaw" 169 10 mx_X11_changes 0 := ⟨mf_X11_changes, go_R10, go_T10, 18, ⟨"BitRecogniser", "changes", "()I"⟩, rfl, go_mem_5 105 rfl rfl, go_mem_5 104 rfl rfl, Or.inl ⟨rfl, go_mem_5 103 rfl rfl⟩⟩
theorem sv_L_172 : go_SV "BitRecogniserLaw" 172 11 mx_X12_changes 0 := ⟨mf_X12_changes, go_R11, go_T11, 53, ⟨"BitRecogniserModel", "changes", "()I"⟩, rfl, go_mem_8 8 rfl rfl, go_mem_8 7 rfl rfl, Or.inl ⟨rfl, go_mem_8 6 rfl rfl⟩⟩
theorem sv_L_173 : go_SV "BitRecogniserLaw" 173 10 mx_X11_changed 1 := ⟨mf_X11_changed, go_R10, go_T10, 18, ⟨"BitRecogniser", "changed", "(I)I"⟩, rfl, go_mem_5 122 rfl rfl, go_mem_5 121 rfl rfl, Or.inl ⟨rfl, go_mem_5 120 rfl rfl⟩⟩
theorem sv_L_176 : go_SV "BitRecogniserLaw" 176 11 mx_X12_changed 1 := ⟨mf_X12_changed, go_R11, go_T11, 53, ⟨"BitRecogniserModel", "changed", "(I)I"⟩, rfl, go_mem_8 34 rfl rfl, go_mem_8 33 rfl rfl, Or.inl ⟨rfl, go_mem_8 32 rfl rfl⟩⟩
theorem sv_L_177 : go_SV "BitRecogniserLaw" 177 10 mx_X11_words 1 := ⟨mf_X11_words, go_R10, go_T10, 18, ⟨"BitRecogniser", "words", "(I)I"⟩, rfl, go_mem_5 130 rfl rfl, go_mem_5 129 rfl rfl, Or.inl ⟨rfl, go_mem_5 128 rfl rfl⟩⟩
theorem sv_L_180 : go_SV "BitRecogniserLaw" 180 11 mx_X12_words 1 := ⟨mf_X12_words, go_R11, go_T11, 53, ⟨"BitRecogniserModel", "words", "(I)I"⟩, rfl, go_mem_8 38 rfl rfl, go_mem_8 37 rfl rfl, Or.inl ⟨rfl, go_mem_8 36 rfl rfl⟩⟩
theorem sv_L_181 : go_SV "BitRecogniserLaw" 181 10 mx_X11_first 2 := ⟨mf_X11_first, go_R10, go_T10, 18, ⟨"BitRecogniser", "first", "(II)I"⟩, rfl, go_mem_5 173 rfl rfl, go_mem_5 172 rfl rfl, Or.inl ⟨rfl, go_mem_5 171 rfl rfl⟩⟩
theorem sv_L_184 : go_SV "BitRecogniserLaw" 184 11 mx_X12_first 2 := ⟨mf_X12_first, go_R11, go_T11, 53, ⟨"BitRecogniserModel", "first", "(II)I"⟩, rfl, go_mem_8 49 rfl rfl, go_mem_8 48 rfl rfl, Or.inl ⟨rfl, go_mem_8 47 rfl rfl⟩⟩
theorem sv_L_185 : go_SV "BitRecogniserLaw" 185 10 mx_X11_tray 2 := ⟨mf_X11_tray, go_R10, go_T10, 18, ⟨"BitRecogniser", "tray", "(II)I"⟩, rfl, go_mem_5 187 rfl rfl, go_mem_5 186 rfl rfl, Or.inl ⟨rfl, go_mem_5 185 rfl rfl⟩⟩
theorem sv_L_188 : go_SV "BitRecogniserLaw" 188 11 mx_X12_tray 2 := ⟨mf_X12_tray, go_R11, go_T11, 53, ⟨"BitRecogniserModel", "tray", "(II)I"⟩, rfl, go_mem_8 106 rfl rfl, go_mem_8 105 rfl rfl, Or.inl ⟨rfl, go_mem_8 104 rfl rfl⟩⟩
theorem sv_L_189 : go_SV "BitRecogniserLaw" 189 10 mx_X11_copy 3 := ⟨mf_X11_copy, go_R10, go_T10, 18, ⟨"BitRecogniser", "copy", "(III)I"⟩, rfl, go_mem_5 197 rfl rfl, go_mem_5 196 rfl rfl, Or.inl ⟨rfl, go_mem_5 195 rfl rfl⟩⟩
theorem sv_L_192 : go_SV "BitRecogniserLaw" 192 11 mx_X12_copy 3 := ⟨mf_X12_copy, go_R11, go_T11, 53, ⟨"BitRecogniserModel", "copy", "(III)I"⟩, rfl, go_mem_8 114 rfl rfl, go_mem_8 113 rfl rfl, Or.inl ⟨rfl, go_mem_8 112 rfl rfl⟩⟩
theorem sv_L_193 : go_SV "BitRecogniserLaw" 193 10 mx_X11_number 2 := ⟨mf_X11_number, go_R10, go_T10, 18, ⟨"BitRecogniser", "number", "(II)J"⟩, rfl, go_mem_5 201 rfl rfl, go_mem_5 200 rfl rfl, Or.inl ⟨rfl, go_mem_5 199 rfl rfl⟩⟩
theorem sv_L_196 : go_SV "BitRecogniserLaw" 196 11 mx_X12_number 2 := ⟨mf_X12_number, go_R11, go_T11, 53, ⟨"BitRecogniserModel", "number", "(II)J"⟩, rfl, go_mem_8 118 rfl rfl, go_mem_8 117 rfl rfl, Or.inl ⟨rfl, go_mem_8 116 rfl rfl⟩⟩
theorem sv_L_197 : go_SV "BitRecogniserLaw" 197 10 mx_X11_undo 1 := ⟨mf_X11_undo, go_R10, go_T10, 18, ⟨"BitRecogniser", "undo", "(I)I"⟩, rfl, go_mem_5 208 rfl rfl, go_mem_5 207 rfl rfl, Or.inl ⟨rfl, go_mem_5 206 rfl rfl⟩⟩
theorem sv_L_200 : go_SV "BitRecogniserLaw" 200 11 mx_X12_undo 1 := ⟨mf_X12_undo, go_R11, go_T11, 53, ⟨"BitRecogniserModel", "undo", "(I)I"⟩, rfl, go_mem_8 123 rfl rfl, go_mem_8 122 rfl rfl, Or.inl ⟨rfl, go_mem_8 121 rfl rfl⟩⟩
theorem sv_L_201 : go_SV "BitRecogniserLaw" 201 10 mx_X11_image 1 := ⟨mf_X11_image, go_R10, go_T10, 18, ⟨"BitRecogniser", "image", "(I)I"⟩, rfl, go_mem_5 216 rfl rfl, go_mem_5 215 rfl rfl, Or.inl ⟨rfl, go_mem_5 214 rfl rfl⟩⟩
theorem sv_L_204 : go_SV "BitRecogniserLaw" 204 11 mx_X12_image 1 := ⟨mf_X12_image, go_R11, go_T11, 53, ⟨"BitRecogniserModel", "image", "(I)I"⟩, rfl, go_mem_8 128 rfl rfl, go_mem_8 127 rfl rfl, Or.inl ⟨rfl, go_mem_8 126 rfl rfl⟩⟩
theorem sv_L_205 : go_SV "BitRecogniserLaw" 205 10 mx_X11_restore 1 := ⟨mf_X11_restore, go_R10, go_T10, 18, ⟨"BitRecogniser", "restore", "(I)I"⟩, rfl, go_mem_5 224 rfl rfl, go_mem_5 223 rfl rfl, Or.inl ⟨rfl, go_mem_5 222 rfl rfl⟩⟩
theorem sv_L_208 : go_SV "BitRecogniserLaw" 208 11 mx_X12_restore 1 := ⟨mf_X12_restore, go_R11, go_T11, 53, ⟨"BitRecogniserModel", "restore", "(I)I"⟩, rfl, go_mem_8 132 rfl rfl, go_mem_8 131 rfl rfl, Or.inl ⟨rfl, go_mem_8 130 rfl rfl⟩⟩
theorem sv_L_209 : go_SV "BitRecogniserLaw" 209 10 mx_X11_count 1 := ⟨mf_X11_count, go_R10, go_T10, 18, ⟨"BitRecogniser", "count", "(I)I"⟩, rfl, go_mem_5 232 rfl rfl, go_mem_5 231 rfl rfl, Or.inl ⟨rfl, go_mem_5 230 rfl rfl⟩⟩
theorem sv_L_212 : go_SV "BitRecogniserLaw" 212 11 mx_X12_count 1 := ⟨mf_X12_count, go_R11, go_T11, 53, ⟨"BitRecogniserModel", "count", "(I)I"⟩, rfl, go_mem_8 136 rfl rfl, go_mem_8 135 rfl rfl, Or.inl ⟨rfl, go_mem_8 134 rfl rfl⟩⟩
theorem sv_X12_148 : go_SV "BitRecogniserModel" 148 11 mx_X12_longOf 1 := ⟨mf_X12_longOf, go_R11, go_T11, 53, ⟨"BitRecogniserModel", "longOf", "(I)I"⟩, rfl, go_mem_p 40 rfl rfl, go_mem_6 173 rfl rfl, Or.inl ⟨rfl, go_mem_6 171 rfl rfl⟩⟩
theorem sv_X12_173 : go_SV "BitRecogniserModel" 173 11 mx_X12_fails 2 := ⟨mf_X12_fails, go_R11, go_T11, 53, ⟨"BitRecogniserModel", "fails", "(II)I"⟩, rfl, go_mem_p 42 rfl rfl, go_mem_6 181 rfl rfl, Or.inl ⟨rfl, go_mem_6 179 rfl rfl⟩⟩
theorem sv_X12_184 : go_SV "BitRecogniserModel" 184 11 mx_X12_symbolOf 1 := ⟨mf_X12_symbolOf, go_R11, go_T11, 53, ⟨"BitRecogniserModel", "symbolOf", "(I)I"⟩, rfl, go_mem_p 44 rfl rfl, go_mem_6 199 rfl rfl, Or.inl ⟨rfl, go_mem_6 197 rfl rfl⟩⟩
theorem sv_X12_190 : go_SV "BitRecogniserModel" 190 11 mx_X12_partOf 2 := ⟨mf_X12_partOf, go_R11, go_T11, 53, ⟨"BitRecogniserModel", "partOf", "(II)I"⟩, rfl, go_mem_p 45 rfl rfl, go_mem_6 206 rfl rfl, Or.inl ⟨rfl, go_mem_6 204 rfl rfl⟩⟩
theorem sv_X12_193 : go_SV "BitRecogniserModel" 193 11 mx_X12_faultOfRule 1 := ⟨mf_X12_faultOfRule, go_R11, go_T11, 53, ⟨"BitRecogniserModel", "faultOfRule", "(I)I"⟩, rfl, go_mem_p 41 rfl rfl, go_mem_6 177 rfl rfl, Or.inl ⟨rfl, go_mem_6 175 rfl rfl⟩⟩
theorem sv_X12_196 : go_SV "BitRecogniserModel" 196 11 mx_X12_isAlike 2 := ⟨mf_X12_isAlike, go_R11, go_T11, 53, ⟨"BitRecogniserModel", "isAlike", "(II)Z"⟩, rfl, go_mem_p 43 rfl rfl, go_mem_6 195 rfl rfl, Or.inl ⟨rfl, go_mem_6 193 rfl rfl⟩⟩
theorem sv_X12_200 : go_SV "BitRecogniserModel" 200 11 mx_X12_notes 0 := ⟨mf_X12_notes, go_R11, go_T11, 53, ⟨"BitRecogniserModel", "notes", "()V"⟩, rfl, go_mem_p 46 rfl rfl, go_mem_6 210 rfl rfl, Or.inl ⟨rfl, go_mem_6 208 rfl rfl⟩⟩
theorem sv_X12_203 : go_SV "BitRecogniserModel" 203 11 mx_X12_isRule 1 := ⟨mf_X12_isRule, go_R11, go_T11, 53, ⟨"BitRecogniserModel", "isRule", "(I)Z"⟩, rfl, go_mem_p 47 rfl rfl, go_mem_6 226 rfl rfl, Or.inl ⟨rfl, go_mem_6 224 rfl rfl⟩⟩
theorem sv_X12_206 : go_SV "BitRecogniserModel" 206 11 mx_X12_ruleMany 0 := ⟨mf_X12_ruleMany, go_R11, go_T11, 53, ⟨"BitRecogniserModel", "ruleMany", "()I"⟩, rfl, go_mem_p 48 rfl rfl, go_mem_6 231 rfl rfl, Or.inl ⟨rfl, go_mem_6 229 rfl rfl⟩⟩
theorem sv_X12_221 : go_SV "BitRecogniserModel" 221 11 mx_X12_laysPairs 0 := ⟨mf_X12_laysPairs, go_R11, go_T11, 53, ⟨"BitRecogniserModel", "laysPairs", "()V"⟩, rfl, go_mem_p 49 rfl rfl, go_mem_7 11 rfl rfl, Or.inl ⟨rfl, go_mem_7 9 rfl rfl⟩⟩
theorem sv_X12_228 : go_SV "BitRecogniserModel" 228 11 mx_X12_unitsFrom 1 := ⟨mf_X12_unitsFrom, go_R11, go_T11, 53, ⟨"BitRecogniserModel", "unitsFrom", "(I)I"⟩, rfl, go_mem_p 50 rfl rfl, go_mem_7 29 rfl rfl, Or.inl ⟨rfl, go_mem_7 27 rfl rfl⟩⟩
theorem sv_X12_232 : go_SV "BitRecogniserModel" 232 11 mx_X12_sumFrom 2 := ⟨mf_X12_sumFrom, go_R11, go_T11, 53, ⟨"BitRecogniserModel", "sumFrom", "(II)I"⟩, rfl, go_mem_p 53 rfl rfl, go_mem_7 50 rfl rfl, Or.inl ⟨rfl, go_mem_7 48 rfl rfl⟩⟩
theorem sv_X12_235 : go_SV "BitRecogniserModel" 235 11 mx_X12_isAny 1 := ⟨mf_X12_isAny, go_R11, go_T11, 53, ⟨"BitRecogniserModel", "isAny", "(I)Z"⟩, rfl, go_mem_p 51 rfl rfl, go_mem_7 41 rfl rfl, Or.inl ⟨rfl, go_mem_7 39 rfl rfl⟩⟩
theorem sv_X12_238 : go_SV "BitRecogniserModel" 238 11 mx_X12_laysLeast 0 := ⟨mf_X12_laysLeast, go_R11, go_T11, 53, ⟨"BitRecogniserModel", "laysLeast", "()V"⟩, rfl, go_mem_p 52 rfl rfl, go_mem_7 45 rfl rfl, Or.inl ⟨rfl, go_mem_7 43 rfl rfl⟩⟩
theorem sv_X12_245 : go_SV "BitRecogniserModel" 245 11 mx_X12_made 2 := ⟨mf_X12_made, go_R11, go_T11, 53, ⟨"BitRecogniserModel", "made", "(JJ)J"⟩, rfl, go_mem_p 58 rfl rfl, go_mem_7 79 rfl rfl, Or.inl ⟨rfl, go_mem_7 77 rfl rfl⟩⟩
theorem sv_X12_249 : go_SV "BitRecogniserModel" 249 11 mx_X12_closed 1 := ⟨mf_X12_closed, go_R11, go_T11, 53, ⟨"BitRecogniserModel", "closed", "(J)J"⟩, rfl, go_mem_p 59 rfl rfl, go_mem_7 86 rfl rfl, Or.inl ⟨rfl, go_mem_7 84 rfl rfl⟩⟩
theorem sv_X12_253 : go_SV "BitRecogniserModel" 253 11 mx_X12_letters 0 := ⟨mf_X12_letters, go_R11, go_T11, 53, ⟨"BitRecogniserModel", "letters", "()I"⟩, rfl, go_mem_p 55 rfl rfl, go_mem_7 66 rfl rfl, Or.inl ⟨rfl, go_mem_7 64 rfl rfl⟩⟩
theorem sv_X12_256 : go_SV "BitRecogniserModel" 256 11 mx_X12_laysCells 1 := ⟨mf_X12_laysCells, go_R11, go_T11, 53, ⟨"BitRecogniserModel", "laysCells", "(I)V"⟩, rfl, go_mem_p 57 rfl rfl, go_mem_7 75 rfl rfl, Or.inl ⟨rfl, go_mem_7 73 rfl rfl⟩⟩
theorem sv_X12_260 : go_SV "BitRecogniserModel" 260 11 mx_X12_isSpan 2 := ⟨mf_X12_isSpan, go_R11, go_T11, 53, ⟨"BitRecogniserModel", "isSpan", "(II)Z"⟩, rfl, go_mem_p 54 rfl rfl, go_mem_7 62 rfl rfl, Or.inl ⟨rfl, go_mem_7 60 rfl rfl⟩⟩
theorem sv_X12_265 : go_SV "BitRecogniserModel" 265 11 mx_X12_lays 0 := ⟨mf_X12_lays, go_R11, go_T11, 53, ⟨"BitRecogniserModel", "lays", "()V"⟩, rfl, go_mem_p 56 rfl rfl, go_mem_7 71 rfl rfl, Or.inl ⟨rfl, go_mem_7 69 rfl rfl⟩⟩
theorem sv_X12_268 : go_SV "BitRecogniserModel" 268 11 mx_X12_doesDerive 3 := ⟨mf_X12_doesDerive, go_R11, go_T11, 53, ⟨"BitRecogniserModel", "doesDerive", "(III)Z"⟩, rfl, go_mem_p 61 rfl rfl, go_mem_7 98 rfl rfl, Or.inl ⟨rfl, go_mem_7 96 rfl rfl⟩⟩
theorem sv_X12_272 : go_SV "BitRecogniserModel" 272 11 mx_X12_isAccepted 0 := ⟨mf_X12_isAccepted, go_R11, go_T11, 53, ⟨"BitRecogniserModel", "isAccepted", "()Z"⟩, rfl, go_mem_p 60 rfl rfl, go_mem_7 94 rfl rfl, Or.inl ⟨rfl, go_mem_7 92 rfl rfl⟩⟩
theorem sv_X12_276 : go_SV "BitRecogniserModel" 276 11 mx_X12_goesRound 1 := ⟨mf_X12_goesRound, go_R11, go_T11, 53, ⟨"BitRecogniserModel", "goesRound", "(I)Z"⟩, rfl, go_mem_p 62 rfl rfl, go_mem_7 106 rfl rfl, Or.inl ⟨rfl, go_mem_7 104 rfl rfl⟩⟩
theorem sv_X12_279 : go_SV "BitRecogniserModel" 279 11 mx_X12_isPlace 1 := ⟨mf_X12_isPlace, go_R11, go_T11, 53, ⟨"BitRecogniserModel", "isPlace", "(I)Z"⟩, rfl, go_mem_p 63 rfl rfl, go_mem_7 118 rfl rfl, Or.inl ⟨rfl, go_mem_7 116 rfl rfl⟩⟩
theorem sv_X12_282 : go_SV "BitRecogniserModel" 282 11 mx_X12_cutMany 4 := ⟨mf_X12_cutMany, go_R11, go_T11, 53, ⟨"BitRecogniserModel", "cutMany", "(IIII)I"⟩, rfl, go_mem_p 64 rfl rfl, go_mem_7 122 rfl rfl, Or.inl ⟨rfl, go_mem_7 120 rfl rfl⟩⟩
theorem sv_X12_294 : go_SV "BitRecogniserModel" 294 11 mx_X12_isUnitOf 2 := ⟨mf_X12_isUnitOf, go_R11, go_T11, 53, ⟨"BitRecogniserModel", "isUnitOf", "(II)Z"⟩, rfl, go_mem_p 69 rfl rfl, go_mem_7 167 rfl rfl, Or.inl ⟨rfl, go_mem_7 165 rfl rfl⟩⟩
theorem sv_X12_303 : go_SV "BitRecogniserModel" 303 11 mx_X12_partWays 3 := ⟨mf_X12_partWays, go_R11, go_T11, 53, ⟨"BitRecogniserModel", "partWays", "(III)J"⟩, rfl, go_mem_p 67 rfl rfl, go_mem_7 151 rfl rfl, Or.inl ⟨rfl, go_mem_7 149 rfl rfl⟩⟩
theorem sv_X12_307 : go_SV "BitRecogniserModel" 307 11 mx_X12_laysFit 3 := ⟨mf_X12_laysFit, go_R11, go_T11, 53, ⟨"BitRecogniserModel", "laysFit", "(III)V"⟩, rfl, go_mem_p 66 rfl rfl, go_mem_7 147 rfl rfl, Or.inl ⟨rfl, go_mem_7 145 rfl rfl⟩⟩
theorem sv_X12_311 : go_SV "BitRecogniserModel" 311 11 mx_X12_laysPaths 2 := ⟨mf_X12_laysPaths, go_R11, go_T11, 53, ⟨"BitRecogniserModel", "laysPaths", "(II)V"⟩, rfl, go_mem_p 68 rfl rfl, go_mem_7 163 rfl rfl, Or.inl ⟨rfl, go_mem_7 161 rfl rfl⟩⟩
theorem sv_X12_315 : go_SV "BitRecogniserModel" 315 11 mx_X12_sumOfPaths 3 := ⟨mf_X12_sumOfPaths, go_R11, go_T11, 53, ⟨"BitRecogniserModel", "sumOfPaths", "([JII)J"⟩, rfl, go_mem_p 70 rfl rfl, go_mem_7 171 rfl rfl, Or.inl ⟨rfl, go_mem_7 169 rfl rfl⟩⟩
theorem sv_X12_319 : go_SV "BitRecogniserModel" 319 11 mx_X12_laysTrees 0 := ⟨mf_X12_laysTrees, go_R11, go_T11, 53, ⟨"BitRecogniserModel", "laysTrees", "()V"⟩, rfl, go_mem_p 65 rfl rfl, go_mem_7 143 rfl rfl, Or.inl ⟨rfl, go_mem_7 141 rfl rfl⟩⟩
theorem sv_X12_322 : go_SV "BitRecogniserModel" 322 11 mx_X12_derivedMany 0 := ⟨mf_X12_derivedMany, go_R11, go_T11, 53, ⟨"BitRecogniserModel", "derivedMany", "()I"⟩, rfl, go_mem_p 71 rfl rfl, go_mem_7 183 rfl rfl, Or.inl ⟨rfl, go_mem_7 181 rfl rfl⟩⟩
theorem sv_X12_339 : go_SV "BitRecogniserModel" 339 11 mx_X12_waits 5 := ⟨mf_X12_waits, go_R11, go_T11, 53, ⟨"BitRecogniserModel", "waits", "(IIIII)V"⟩, rfl, go_mem_p 73 rfl rfl, go_mem_7 195 rfl rfl, Or.inl ⟨rfl, go_mem_7 193 rfl rfl⟩⟩
theorem sv_X12_342 : go_SV "BitRecogniserModel" 342 11 mx_X12_waysWith 4 := ⟨mf_X12_waysWith, go_R11, go_T11, 53, ⟨"BitRecogniserModel", "waysWith", "(IIII)J"⟩, rfl, go_mem_p 74 rfl rfl, go_mem_7 199 rfl rfl, Or.inl ⟨rfl, go_mem_7 197 rfl rfl⟩⟩
theorem sv_X12_346 : go_SV "BitRecogniserModel" 346 11 mx_X12_laysEnds 3 := ⟨mf_X12_laysEnds, go_R11, go_T11, 53, ⟨"BitRecogniserModel", "laysEnds", "(III)V"⟩, rfl, go_mem_p 75 rfl rfl, go_mem_7 206 rfl rfl, Or.inl ⟨rfl, go_mem_7 204 rfl rfl⟩⟩
theorem sv_X12_349 : go_SV "BitRecogniserModel" 349 11 mx_X12_splits 1 := ⟨mf_X12_splits, go_R11, go_T11, 53, ⟨"BitRecogniserModel", "splits", "(I)V"⟩, rfl, go_mem_p 76 rfl rfl, go_mem_7 210 rfl rfl, Or.inl ⟨rfl, go_mem_7 208 rfl rfl⟩⟩
theorem sv_X12_352 : go_SV "BitRecogniserModel" 352 11 mx_X12_laysTree 1 := ⟨mf_X12_laysTree, go_R11, go_T11, 53, ⟨"BitRecogniserModel", "laysTree", "(J)V"⟩, rfl, go_mem_p 72 rfl rfl, go_mem_7 191 rfl rfl, Or.inl ⟨rfl, go_mem_7 189 rfl rfl⟩⟩
theorem sv_X12_358 : go_SV "BitRecogniserModel" 358 11 mx_X12_nodeBy 2 := ⟨mf_X12_nodeBy, go_R11, go_T11, 53, ⟨"BitRecogniserModel", "nodeBy", "(II)I"⟩, rfl, go_mem_p 77 rfl rfl, go_mem_7 219 rfl rfl, Or.inl ⟨rfl, go_mem_7 217 rfl rfl⟩⟩
theorem sv_X12_366 : go_SV "BitRecogniserModel" 366 11 mx_X12_laysForm 1 := ⟨mf_X12_laysForm, go_R11, go_T11, 53, ⟨"BitRecogniserModel", "laysForm", "(I)Z"⟩, rfl, go_mem_p 78 rfl rfl, go_mem_7 232 rfl rfl, Or.inl ⟨rfl, go_mem_7 230 rfl rfl⟩⟩
theorem sv_X12_369 : go_SV "BitRecogniserModel" 369 11 mx_X12_costAt 3 := ⟨mf_X12_costAt, go_R11, go_T11, 53, ⟨"BitRecogniserModel", "costAt", "(III)I"⟩, rfl, go_mem_p 82 rfl rfl, go_mem_8 26 rfl rfl, Or.inl ⟨rfl, go_mem_8 24 rfl rfl⟩⟩
theorem sv_X12_377 : go_SV "BitRecogniserModel" 377 11 mx_X12_letterCost 2 := ⟨mf_X12_letterCost, go_R11, go_T11, 53, ⟨"BitRecogniserModel", "letterCost", "(II)I"⟩, rfl, go_mem_p 81 rfl rfl, go_mem_8 22 rfl rfl, Or.inl ⟨rfl, go_mem_8 20 rfl rfl⟩⟩
theorem sv_X12_380 : go_SV "BitRecogniserModel" 380 11 mx_X12_lowers 4 := ⟨mf_X12_lowers, go_R11, go_T11, 53, ⟨"BitRecogniserModel", "lowers", "(IIII)V"⟩, rfl, go_mem_p 83 rfl rfl, go_mem_8 30 rfl rfl, Or.inl ⟨rfl, go_mem_8 28 rfl rfl⟩⟩
theorem sv_X12_384 : go_SV "BitRecogniserModel" 384 11 mx_X12_freesAll 0 := ⟨mf_X12_freesAll, go_R11, go_T11, 53, ⟨"BitRecogniserModel", "freesAll", "()V"⟩, rfl, go_mem_p 79 rfl rfl, go_mem_8 12 rfl rfl, Or.inl ⟨rfl, go_mem_8 10 rfl rfl⟩⟩
theorem sv_X12_387 : go_SV "BitRecogniserModel" 387 11 mx_X12_fewestOthers 0 := ⟨mf_X12_fewestOthers, go_R11, go_T11, 53, ⟨"BitRecogniserModel", "fewestOthers", "()I"⟩, rfl, go_mem_p 80 rfl rfl, go_mem_8 16 rfl rfl, Or.inl ⟨rfl, go_mem_8 14 rfl rfl⟩⟩
theorem sv_X12_393 : go_SV "BitRecogniserModel" 393 11 mx_X12_isWord 2 := ⟨mf_X12_isWord, go_R11, go_T11, 53, ⟨"BitRecogniserModel", "isWord", "(II)Z"⟩, rfl, go_mem_p 84 rfl rfl, go_mem_8 45 rfl rfl, Or.inl ⟨rfl, go_mem_8 43 rfl rfl⟩⟩
theorem sv_X12_396 : go_SV "BitRecogniserModel" 396 11 mx_X12_isProductive 1 := ⟨mf_X12_isProductive, go_R11, go_T11, 53, ⟨"BitRecogniserModel", "isProductive", "(I)Z"⟩, rfl, go_mem_p 86 rfl rfl, go_mem_8 65 rfl rfl, Or.inl ⟨rfl, go_mem_8 63 rfl rfl⟩⟩
theorem sv_X12_399 : go_SV "BitRecogniserModel" 399 11 mx_X12_partBegins 3 := ⟨mf_X12_partBegins, go_R11, go_T11, 53, ⟨"BitRecogniserModel", "partBegins", "(III)Z"⟩, rfl, go_mem_p 88 rfl rfl, go_mem_8 73 rfl rfl, Or.inl ⟨rfl, go_mem_8 71 rfl rfl⟩⟩
theorem sv_X12_402 : go_SV "BitRecogniserModel" 402 11 mx_X12_isRestProductive 2 := ⟨mf_X12_isRestProductive, go_R11, go_T11, 53, ⟨"BitRecogniserModel", "isRestProductive", "(II)Z"⟩, rfl, go_mem_p 89 rfl rfl, go_mem_8 77 rfl rfl, Or.inl ⟨rfl, go_mem_8 75 rfl rfl⟩⟩
theorem sv_X12_405 : go_SV "BitRecogniserModel" 405 11 mx_X12_ruleBegins 3 := ⟨mf_X12_ruleBegins, go_R11, go_T11, 53, ⟨"BitRecogniserModel", "ruleBegins", "(III)Z"⟩, rfl, go_mem_p 87 rfl rfl, go_mem_8 69 rfl rfl, Or.inl ⟨rfl, go_mem_8 67 rfl rfl⟩⟩
theorem sv_X12_408 : go_SV "BitRecogniserModel" 408 11 mx_X12_isViable 1 := ⟨mf_X12_isViable, go_R11, go_T11, 53, ⟨"BitRecogniserModel", "isViable", "(I)Z"⟩, rfl, go_mem_p 85 rfl rfl, go_mem_8 61 rfl rfl, Or.inl ⟨rfl, go_mem_8 59 rfl rfl⟩⟩
theorem sv_X12_411 : go_SV "BitRecogniserModel" 411 11 mx_X12_lengthsFrom 2 := ⟨mf_X12_lengthsFrom, go_R11, go_T11, 53, ⟨"BitRecogniserModel", "lengthsFrom", "(II)I"⟩, rfl, go_mem_p 90 rfl rfl, go_mem_8 89 rfl rfl, Or.inl ⟨rfl, go_mem_8 87 rfl rfl⟩⟩
theorem sv_X12_414 : go_SV "BitRecogniserModel" 414 11 mx_X12_partBy 2 := ⟨mf_X12_partBy, go_R11, go_T11, 53, ⟨"BitRecogniserModel", "partBy", "(II)J"⟩, rfl, go_mem_p 92 rfl rfl, go_mem_8 102 rfl rfl, Or.inl ⟨rfl, go_mem_8 100 rfl rfl⟩⟩
theorem sv_X12_420 : go_SV "BitRecogniserModel" 420 11 mx_X12_ruleBy 2 := ⟨mf_X12_ruleBy, go_R11, go_T11, 53, ⟨"BitRecogniserModel", "ruleBy", "(II)J"⟩, rfl, go_mem_p 91 rfl rfl, go_mem_8 98 rfl rfl, Or.inl ⟨rfl, go_mem_8 96 rfl rfl⟩⟩
theorem zx_L : Cond.initialized "BitRecogniserLaw" ∈ go_tbl := go_mem_1 0 rfl rfl
theorem zx_X11 : Cond.initialized "BitRecogniser" ∈ go_tbl := go_mem_1 1 rfl rfl
theorem zx_X8 : Cond.initialized "BitRecogniser$Tape" ∈ go_tbl := go_mem_1 2 rfl rfl
theorem zx_X9 : Cond.initialized "BitRecogniser$Told" ∈ go_tbl := go_mem_1 3 rfl rfl
theorem zx_X5 : Cond.initialized "BitRecogniser$Past" ∈ go_tbl := go_mem_1 4 rfl rfl
theorem zx_X0 : Cond.initialized "BitRecogniser$Binary" ∈ go_tbl := go_mem_1 5 rfl rfl
theorem zx_X1 : Cond.initialized "BitRecogniser$Chart" ∈ go_tbl := go_mem_1 6 rfl rfl
theorem zx_X7 : Cond.initialized "BitRecogniser$Table" ∈ go_tbl := go_mem_1 7 rfl rfl
theorem zx_X6 : Cond.initialized "BitRecogniser$Rounds" ∈ go_tbl := go_mem_1 8 rfl rfl
theorem zx_X2 : Cond.initialized "BitRecogniser$Forest" ∈ go_tbl := go_mem_1 9 rfl rfl
theorem zx_X3 : Cond.initialized "BitRecogniser$Listing" ∈ go_tbl := go_mem_1 10 rfl rfl
theorem zx_X4 : Cond.initialized "BitRecogniser$Nearest" ∈ go_tbl := go_mem_1 11 rfl rfl
theorem zx_X10 : Cond.initialized "BitRecogniser$Vocabulary" ∈ go_tbl := go_mem_1 12 rfl rfl
theorem zx_X12 : Cond.initialized "BitRecogniserModel" ∈ go_tbl := go_mem_1 13 rfl rfl
theorem zx_J9 : Cond.initialized "java/lang/Math" ∈ go_tbl := go_mem_1 14 rfl rfl
theorem zx_J6 : Cond.initialized "java/lang/Integer" ∈ go_tbl := go_mem_1 15 rfl rfl
theorem zx_J13 : Cond.initialized "java/lang/Long" ∈ go_tbl := go_mem_1 16 rfl rfl
theorem lx_L_7 : Cond.classLink "BitRecogniserLaw" 7 "BitRecogniser" ∈ go_tbl := go_mem_1 17 rfl rfl
theorem nx_X11 : Cond.instantiable "BitRecogniser" 18 ∈ go_tbl := go_mem_1 18 rfl rfl
theorem lx_X11_9 : Cond.classLink "BitRecogniser" 9 "BitRecogniser$Tape" ∈ go_tbl := go_mem_1 25 rfl rfl
theorem nx_X8 : Cond.instantiable "BitRecogniser$Tape" 4 ∈ go_tbl := go_mem_1 26 rfl rfl
theorem ax_int : Cond.arrayClass .int ∈ go_tbl := go_mem_1 47 rfl rfl
theorem lx_X11_16 : Cond.classLink "BitRecogniser" 16 "BitRecogniser$Told" ∈ go_tbl := go_mem_1 48 rfl rfl
theorem nx_X9 : Cond.instantiable "BitRecogniser$Told" 4 ∈ go_tbl := go_mem_1 49 rfl rfl
theorem lx_X11_23 : Cond.classLink "BitRecogniser" 23 "BitRecogniser$Past" ∈ go_tbl := go_mem_1 72 rfl rfl
theorem nx_X5 : Cond.instantiable "BitRecogniser$Past" 5 ∈ go_tbl := go_mem_1 73 rfl rfl
theorem lx_X5_9 : Cond.classLink "BitRecogniser$Past" 9 "BitRecogniser$Told" ∈ go_tbl := go_mem_1 78 rfl rfl
theorem ax_boolean : Cond.arrayClass .boolean ∈ go_tbl := go_mem_1 98 rfl rfl
theorem lx_X11_30 : Cond.classLink "BitRecogniser" 30 "BitRecogniser$Binary" ∈ go_tbl := go_mem_1 99 rfl rfl
theorem nx_X0 : Cond.instantiable "BitRecogniser$Binary" 14 ∈ go_tbl := go_mem_1 100 rfl rfl
theorem lx_X11_37 : Cond.classLink "BitRecogniser" 37 "BitRecogniser$Chart" ∈ go_tbl := go_mem_1 168 rfl rfl
theorem nx_X1 : Cond.instantiable "BitRecogniser$Chart" 7 ∈ go_tbl := go_mem_1 169 rfl rfl
theorem ax_long : Cond.arrayClass .long ∈ go_tbl := go_mem_1 196 rfl rfl
theorem lx_X11_46 : Cond.classLink "BitRecogniser" 46 "BitRecogniser$Rounds" ∈ go_tbl := go_mem_1 197 rfl rfl
theorem nx_X6 : Cond.instantiable "BitRecogniser$Rounds" 7 ∈ go_tbl := go_mem_1 198 rfl rfl
theorem kx_X6_3 : Cond.constantLong "BitRecogniser$Rounds" 3 (Int64.ofInt (-1)) ∈ go_tbl := go_mem_1 202 rfl rfl
theorem lx_X11_55 : Cond.classLink "BitRecogniser" 55 "BitRecogniser$Forest" ∈ go_tbl := go_mem_2 6 rfl rfl
theorem nx_X2 : Cond.instantiable "BitRecogniser$Forest" 8 ∈ go_tbl := go_mem_2 7 rfl rfl
theorem lx_X11_64 : Cond.classLink "BitRecogniser" 64 "BitRecogniser$Listing" ∈ go_tbl := go_mem_2 23 rfl rfl
theorem nx_X3 : Cond.instantiable "BitRecogniser$Listing" 19 ∈ go_tbl := go_mem_2 24 rfl rfl
theorem lx_X11_79 : Cond.classLink "BitRecogniser" 79 "BitRecogniser$Nearest" ∈ go_tbl := go_mem_2 90 rfl rfl
theorem nx_X4 : Cond.instantiable "BitRecogniser$Nearest" 8 ∈ go_tbl := go_mem_2 91 rfl rfl
theorem kx_X4_5 : Cond.constantLong "BitRecogniser$Nearest" 5 (Int64.ofInt (-1)) ∈ go_tbl := go_mem_2 95 rfl rfl
theorem lx_X11_88 : Cond.classLink "BitRecogniser" 88 "BitRecogniser$Vocabulary" ∈ go_tbl := go_mem_2 108 rfl rfl
theorem nx_X10 : Cond.instantiable "BitRecogniser$Vocabulary" 2 ∈ go_tbl := go_mem_2 109 rfl rfl
theorem kx_J6_265 : Cond.constant "java/lang/Integer" 265 (Int32.ofInt 1431655765) ∈ go_tbl := go_mem_3 33 rfl rfl
theorem kx_J6_266 : Cond.constant "java/lang/Integer" 266 (Int32.ofInt 858993459) ∈ go_tbl := go_mem_3 34 rfl rfl
theorem kx_J6_267 : Cond.constant "java/lang/Integer" 267 (Int32.ofInt 252645135) ∈ go_tbl := go_mem_3 35 rfl rfl
theorem kx_X0_97 : Cond.constantLong "BitRecogniser$Binary" 97 (Int64.ofInt 16128) ∈ go_tbl := go_mem_3 99 rfl rfl
theorem kx_X9_38 : Cond.constantLong "BitRecogniser$Told" 38 (Int64.ofInt 7) ∈ go_tbl := go_mem_3 139 rfl rfl
theorem kx_X11_227 : Cond.constantLong "BitRecogniser" 227 (Int64.ofInt 255) ∈ go_tbl := go_mem_3 212 rfl rfl
theorem kx_X11_237 : Cond.constantLong "BitRecogniser" 237 (Int64.ofInt (-2)) ∈ go_tbl := go_mem_3 219 rfl rfl
theorem kx_X2_73 : Cond.constantLong "BitRecogniser$Forest" 73 (Int64.ofInt (-7)) ∈ go_tbl := go_mem_4 53 rfl rfl
theorem kx_X2_75 : Cond.constantLong "BitRecogniser$Forest" 75 (Int64.ofInt 9223372036854775807) ∈ go_tbl := go_mem_4 54 rfl rfl
theorem kx_X4_23 : Cond.constantLong "BitRecogniser$Nearest" 23 (Int64.ofInt 4398046511103) ∈ go_tbl := go_mem_4 58 rfl rfl
theorem kx_X11_253 : Cond.constantLong "BitRecogniser" 253 (Int64.ofInt (-1)) ∈ go_tbl := go_mem_4 109 rfl rfl
theorem kx_J6_264 : Cond.constant "java/lang/Integer" 264 (Int32.ofInt 65536) ∈ go_tbl := go_mem_4 145 rfl rfl
theorem kx_J13_314 : Cond.constantLong "java/lang/Long" 314 (Int64.ofInt 6148914691236517205) ∈ go_tbl := go_mem_5 24 rfl rfl
theorem kx_J13_316 : Cond.constantLong "java/lang/Long" 316 (Int64.ofInt 3689348814741910323) ∈ go_tbl := go_mem_5 25 rfl rfl
theorem kx_J13_318 : Cond.constantLong "java/lang/Long" 318 (Int64.ofInt 1085102592571150095) ∈ go_tbl := go_mem_5 26 rfl rfl
theorem kx_X11_335 : Cond.constantLong "BitRecogniser" 335 (Int64.ofInt (-3)) ∈ go_tbl := go_mem_5 102 rfl rfl
theorem kx_X4_35 : Cond.constantLong "BitRecogniser$Nearest" 35 (Int64.ofInt 7) ∈ go_tbl := go_mem_5 127 rfl rfl
theorem sx_X10_45 : Cond.fieldLink "BitRecogniser$Vocabulary" 45 "BitRecogniser$Vocabulary" "BEGINS" "[I" ∈ go_tbl := go_mem_5 147 rfl rfl
theorem sx_X10_54 : Cond.fieldLink "BitRecogniser$Vocabulary" 54 "BitRecogniser$Vocabulary" "SIXES" "[I" ∈ go_tbl := go_mem_5 151 rfl rfl
theorem kx_X11_373 : Cond.constantLong "BitRecogniser" 373 (Int64.ofInt (-6)) ∈ go_tbl := go_mem_5 203 rfl rfl
theorem kx_X11_379 : Cond.constantLong "BitRecogniser" 379 (Int64.ofInt (-7)) ∈ go_tbl := go_mem_5 205 rfl rfl
theorem lx_L_10 : Cond.classLink "BitRecogniserLaw" 10 "BitRecogniserModel" ∈ go_tbl := go_mem_5 234 rfl rfl
theorem nx_X12 : Cond.instantiable "BitRecogniserModel" 53 ∈ go_tbl := go_mem_5 235 rfl rfl
theorem kx_X12_169 : Cond.constantLong "BitRecogniserModel" 169 (Int64.ofInt 65) ∈ go_tbl := go_mem_6 186 rfl rfl
theorem kx_X12_171 : Cond.constantLong "BitRecogniserModel" 171 (Int64.ofInt 72) ∈ go_tbl := go_mem_6 187 rfl rfl
theorem kx_X12_165 : Cond.constantLong "BitRecogniserModel" 165 (Int64.ofInt 97) ∈ go_tbl := go_mem_6 191 rfl rfl
theorem kx_X12_167 : Cond.constantLong "BitRecogniserModel" 167 (Int64.ofInt 102) ∈ go_tbl := go_mem_6 192 rfl rfl
theorem kx_X12_142 : Cond.constantLong "BitRecogniserModel" 142 (Int64.ofInt 15) ∈ go_tbl := go_mem_6 228 rfl rfl
theorem kx_X12_210 : Cond.constantLong "BitRecogniserModel" 210 (Int64.ofInt 7) ∈ go_tbl := go_mem_7 0 rfl rfl
theorem kx_X12_224 : Cond.constantLong "BitRecogniserModel" 224 (Int64.ofInt 3) ∈ go_tbl := go_mem_7 17 rfl rfl
theorem kx_X12_226 : Cond.constantLong "BitRecogniserModel" 226 (Int64.ofInt 14) ∈ go_tbl := go_mem_7 22 rfl rfl
theorem kx_X12_231 : Cond.constant "BitRecogniserModel" 231 (Int32.ofInt 268435456) ∈ go_tbl := go_mem_7 47 rfl rfl
theorem kx_X12_263 : Cond.constantLong "BitRecogniserModel" 263 (Int64.ofInt (-2)) ∈ go_tbl := go_mem_7 68 rfl rfl
theorem kx_X12_286 : Cond.constantLong "BitRecogniserModel" 286 (Int64.ofInt 2) ∈ go_tbl := go_mem_7 136 rfl rfl
theorem kx_X12_288 : Cond.constantLong "BitRecogniserModel" 288 (Int64.ofInt (-7)) ∈ go_tbl := go_mem_7 156 rfl rfl
theorem kx_X12_292 : Cond.constantLong "BitRecogniserModel" 292 (Int64.ofInt 9223372036854775807) ∈ go_tbl := go_mem_7 157 rfl rfl
theorem kx_X12_356 : Cond.constantLong "BitRecogniserModel" 356 (Int64.ofInt 4) ∈ go_tbl := go_mem_7 216 rfl rfl
theorem kx_X12_361 : Cond.constantLong "BitRecogniserModel" 361 (Int64.ofInt (-1)) ∈ go_tbl := go_mem_7 225 rfl rfl
theorem kx_X12_373 : Cond.constantLong "BitRecogniserModel" 373 (Int64.ofInt 8) ∈ go_tbl := go_mem_8 18 rfl rfl
theorem kx_X12_375 : Cond.constantLong "BitRecogniserModel" 375 (Int64.ofInt 13) ∈ go_tbl := go_mem_8 19 rfl rfl
theorem kx_X12_418 : Cond.constantLong "BitRecogniserModel" 418 (Int64.ofInt (-3)) ∈ go_tbl := go_mem_8 95 rfl rfl
theorem kx_X12_426 : Cond.constantLong "BitRecogniserModel" 426 (Int64.ofInt 20) ∈ go_tbl := go_mem_8 111 rfl rfl
theorem kx_X12_428 : Cond.constantLong "BitRecogniserModel" 428 (Int64.ofInt (-6)) ∈ go_tbl := go_mem_8 120 rfl rfl
theorem kx_X12_430 : Cond.constantLong "BitRecogniserModel" 430 (Int64.ofInt 10) ∈ go_tbl := go_mem_8 125 rfl rfl
