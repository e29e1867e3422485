set_option maxRecDepth 20000 in
theorem fl_X0_15 : FLk BG RX0 15 0 1 := ⟨RX0, TX0, 2, rfl, by decide, inbX0, by decide, w3 9 rfl⟩
set_option maxRecDepth 20000 in
theorem fl_X0_11 : FLk BG RX0 11 0 0 := ⟨RX0, TX0, 2, rfl, by decide, inbX0, by decide, w3 8 rfl⟩
set_option maxRecDepth 20000 in
theorem fl_X1_18 : FLk BG RX1 18 1 2 := ⟨RX1, TX1, 3, rfl, by decide, inbX1, by decide, w2 63 rfl⟩
set_option maxRecDepth 20000 in
theorem fn_X1_42 : FLn BG RX1 42 2 7 := ⟨RX2, TX2, 10, "SeamPull", rfl, by decide, inbX2, by decide, List.mem_of_getElem? (i := 6) rfl⟩
set_option maxRecDepth 20000 in
theorem fl_X1_9 : FLk BG RX1 9 1 0 := ⟨RX1, TX1, 3, rfl, by decide, inbX1, by decide, w2 61 rfl⟩
set_option maxRecDepth 20000 in
theorem fn_X1_46 : FLn BG RX1 46 2 3 := ⟨RX2, TX2, 10, "SeamPull", rfl, by decide, inbX2, by decide, List.mem_of_getElem? (i := 4) rfl⟩
set_option maxRecDepth 20000 in
theorem fl_X2_34 : FLk BG RX2 34 2 7 := ⟨RX2, TX2, 10, rfl, by decide, inbX2, by decide, w2 22 rfl⟩
set_option maxRecDepth 20000 in
theorem fl_X2_37 : FLk BG RX2 37 2 8 := ⟨RX2, TX2, 10, rfl, by decide, inbX2, by decide, w2 23 rfl⟩
set_option maxRecDepth 20000 in
theorem fl_X2_40 : FLk BG RX2 40 2 9 := ⟨RX2, TX2, 10, rfl, by decide, inbX2, by decide, w2 24 rfl⟩
set_option maxRecDepth 20000 in
theorem fl_X2_30 : FLk BG RX2 30 2 6 := ⟨RX2, TX2, 10, rfl, by decide, inbX2, by decide, w2 21 rfl⟩
set_option maxRecDepth 20000 in
theorem fl_X2_9 : FLk BG RX2 9 2 0 := ⟨RX2, TX2, 10, rfl, by decide, inbX2, by decide, w2 15 rfl⟩
set_option maxRecDepth 20000 in
theorem fl_X2_15 : FLk BG RX2 15 2 1 := ⟨RX2, TX2, 10, rfl, by decide, inbX2, by decide, w2 16 rfl⟩
set_option maxRecDepth 20000 in
theorem fl_X2_18 : FLk BG RX2 18 2 2 := ⟨RX2, TX2, 10, rfl, by decide, inbX2, by decide, w2 17 rfl⟩
set_option maxRecDepth 20000 in
theorem fl_X2_21 : FLk BG RX2 21 2 3 := ⟨RX2, TX2, 10, rfl, by decide, inbX2, by decide, w2 18 rfl⟩
set_option maxRecDepth 20000 in
theorem fl_X2_24 : FLk BG RX2 24 2 4 := ⟨RX2, TX2, 10, rfl, by decide, inbX2, by decide, w2 19 rfl⟩
set_option maxRecDepth 20000 in
theorem fl_X2_27 : FLk BG RX2 27 2 5 := ⟨RX2, TX2, 10, rfl, by decide, inbX2, by decide, w2 20 rfl⟩
set_option maxRecDepth 20000 in
theorem fl_X3_9 : FLk BG RX3 9 3 0 := ⟨RX3, TX3, 10, rfl, by decide, inbX3, by decide, w3 17 rfl⟩
set_option maxRecDepth 20000 in
theorem fl_X3_15 : FLk BG RX3 15 3 1 := ⟨RX3, TX3, 10, rfl, by decide, inbX3, by decide, w3 18 rfl⟩
set_option maxRecDepth 20000 in
theorem fl_X3_18 : FLk BG RX3 18 3 2 := ⟨RX3, TX3, 10, rfl, by decide, inbX3, by decide, w3 19 rfl⟩
set_option maxRecDepth 20000 in
theorem fl_X3_24 : FLk BG RX3 24 3 4 := ⟨RX3, TX3, 10, rfl, by decide, inbX3, by decide, w3 21 rfl⟩
set_option maxRecDepth 20000 in
theorem fl_X3_28 : FLk BG RX3 28 3 5 := ⟨RX3, TX3, 10, rfl, by decide, inbX3, by decide, w3 22 rfl⟩
set_option maxRecDepth 20000 in
theorem fl_X3_31 : FLk BG RX3 31 3 6 := ⟨RX3, TX3, 10, rfl, by decide, inbX3, by decide, w3 23 rfl⟩
set_option maxRecDepth 20000 in
theorem fl_X3_34 : FLk BG RX3 34 3 7 := ⟨RX3, TX3, 10, rfl, by decide, inbX3, by decide, w3 24 rfl⟩
set_option maxRecDepth 20000 in
theorem fl_X3_37 : FLk BG RX3 37 3 8 := ⟨RX3, TX3, 10, rfl, by decide, inbX3, by decide, w3 25 rfl⟩
set_option maxRecDepth 20000 in
theorem fl_X5_27 : FLk BG RX5 27 5 4 := ⟨RX5, TX5, 7, rfl, by decide, inbX5, by decide, w2 46 rfl⟩
set_option maxRecDepth 20000 in
theorem fl_X6_15 : FLk BG RX6 15 6 1 := ⟨RX6, TX6, 3, rfl, by decide, inbX6, by decide, w1 42 rfl⟩
set_option maxRecDepth 20000 in
theorem fl_X6_20 : FLk BG RX6 20 6 2 := ⟨RX6, TX6, 3, rfl, by decide, inbX6, by decide, w1 43 rfl⟩
set_option maxRecDepth 20000 in
theorem fl_X7_15 : FLk BG RX7 15 7 1 := ⟨RX7, TX7, 5, rfl, by decide, inbX7, by decide, w1 54 rfl⟩
set_option maxRecDepth 20000 in
theorem fl_X7_9 : FLk BG RX7 9 7 0 := ⟨RX7, TX7, 5, rfl, by decide, inbX7, by decide, w1 53 rfl⟩
set_option maxRecDepth 20000 in
theorem fl_X7_19 : FLk BG RX7 19 7 2 := ⟨RX7, TX7, 5, rfl, by decide, inbX7, by decide, w1 55 rfl⟩
set_option maxRecDepth 20000 in
theorem fl_X7_25 : FLk BG RX7 25 7 4 := ⟨RX7, TX7, 5, rfl, by decide, inbX7, by decide, w1 57 rfl⟩
set_option maxRecDepth 20000 in
theorem fl_X7_22 : FLk BG RX7 22 7 3 := ⟨RX7, TX7, 5, rfl, by decide, inbX7, by decide, w1 56 rfl⟩
set_option maxRecDepth 20000 in
theorem fl_X8_87 : FLk BG RX8 87 8 14 := ⟨RX8, TX8, 16, rfl, by decide, inbX8, by decide, w3 51 rfl⟩
set_option maxRecDepth 20000 in
theorem fl_X8_45 : FLk BG RX8 45 8 6 := ⟨RX8, TX8, 16, rfl, by decide, inbX8, by decide, w3 43 rfl⟩
set_option maxRecDepth 20000 in
theorem fn_X8_245 : FLn BG RX8 245 2 8 := ⟨RX2, TX2, 10, "SeamPull", rfl, by decide, inbX2, by decide, List.mem_of_getElem? (i := 7) rfl⟩
set_option maxRecDepth 20000 in
theorem fl_X8_39 : FLk BG RX8 39 8 5 := ⟨RX8, TX8, 16, rfl, by decide, inbX8, by decide, w3 42 rfl⟩
set_option maxRecDepth 20000 in
theorem fl_X8_76 : FLk BG RX8 76 8 11 := ⟨RX8, TX8, 16, rfl, by decide, inbX8, by decide, w3 48 rfl⟩
set_option maxRecDepth 20000 in
theorem fn_X8_172 : FLn BG RX8 172 3 0 := ⟨RX3, TX3, 10, "SeamPull", rfl, by decide, inbX3, by decide, List.mem_of_getElem? (i := 19) rfl⟩
set_option maxRecDepth 20000 in
theorem fl_X8_91 : FLk BG RX8 91 8 15 := ⟨RX8, TX8, 16, rfl, by decide, inbX8, by decide, w3 52 rfl⟩
set_option maxRecDepth 20000 in
theorem fl_X9_75 : FLk BG RX9 75 9 1 := ⟨RX9, TX9, 43, rfl, by decide, inbX9, by decide, w12 48 rfl⟩
set_option maxRecDepth 20000 in
theorem fl_X9_104 : FLk BG RX9 104 9 22 := ⟨RX9, TX9, 43, rfl, by decide, inbX9, by decide, w13 5 rfl⟩
set_option maxRecDepth 20000 in
theorem fl_X9_37 : FLk BG RX9 37 9 19 := ⟨RX9, TX9, 43, rfl, by decide, inbX9, by decide, w13 2 rfl⟩
set_option maxRecDepth 20000 in
theorem fl_X9_129 : FLk BG RX9 129 9 27 := ⟨RX9, TX9, 43, rfl, by decide, inbX9, by decide, w13 10 rfl⟩
set_option maxRecDepth 20000 in
theorem fl_X9_114 : FLk BG RX9 114 9 25 := ⟨RX9, TX9, 43, rfl, by decide, inbX9, by decide, w13 8 rfl⟩
set_option maxRecDepth 20000 in
theorem fl_X9_132 : FLk BG RX9 132 9 28 := ⟨RX9, TX9, 43, rfl, by decide, inbX9, by decide, w13 11 rfl⟩
set_option maxRecDepth 20000 in
theorem fl_X9_126 : FLk BG RX9 126 9 26 := ⟨RX9, TX9, 43, rfl, by decide, inbX9, by decide, w13 9 rfl⟩
set_option maxRecDepth 20000 in
theorem fl_X9_117 : FLk BG RX9 117 9 24 := ⟨RX9, TX9, 43, rfl, by decide, inbX9, by decide, w13 7 rfl⟩
set_option maxRecDepth 20000 in
theorem fl_X9_71 : FLk BG RX9 71 9 0 := ⟨RX9, TX9, 43, rfl, by decide, inbX9, by decide, w12 47 rfl⟩
set_option maxRecDepth 20000 in
theorem fl_X9_208 : FLk BG RX9 208 9 21 := ⟨RX9, TX9, 43, rfl, by decide, inbX9, by decide, w13 4 rfl⟩
set_option maxRecDepth 20000 in
theorem fl_X9_240 : FLk BG RX9 240 9 35 := ⟨RX9, TX9, 43, rfl, by decide, inbX9, by decide, w13 18 rfl⟩
set_option maxRecDepth 20000 in
theorem fl_X9_212 : FLk BG RX9 212 9 5 := ⟨RX9, TX9, 43, rfl, by decide, inbX9, by decide, w12 52 rfl⟩
set_option maxRecDepth 20000 in
theorem fl_X9_46 : FLk BG RX9 46 9 32 := ⟨RX9, TX9, 43, rfl, by decide, inbX9, by decide, w13 15 rfl⟩
set_option maxRecDepth 20000 in
theorem fl_X9_52 : FLk BG RX9 52 9 34 := ⟨RX9, TX9, 43, rfl, by decide, inbX9, by decide, w13 17 rfl⟩
set_option maxRecDepth 20000 in
theorem fl_X9_49 : FLk BG RX9 49 9 33 := ⟨RX9, TX9, 43, rfl, by decide, inbX9, by decide, w13 16 rfl⟩
set_option maxRecDepth 20000 in
theorem fl_X9_59 : FLk BG RX9 59 9 38 := ⟨RX9, TX9, 43, rfl, by decide, inbX9, by decide, w13 21 rfl⟩
set_option maxRecDepth 20000 in
theorem fl_X9_40 : FLk BG RX9 40 9 29 := ⟨RX9, TX9, 43, rfl, by decide, inbX9, by decide, w13 12 rfl⟩
set_option maxRecDepth 20000 in
theorem fl_X9_270 : FLk BG RX9 270 9 37 := ⟨RX9, TX9, 43, rfl, by decide, inbX9, by decide, w13 20 rfl⟩
set_option maxRecDepth 20000 in
theorem fl_X9_224 : FLk BG RX9 224 9 31 := ⟨RX9, TX9, 43, rfl, by decide, inbX9, by decide, w13 14 rfl⟩
set_option maxRecDepth 20000 in
theorem fl_X9_43 : FLk BG RX9 43 9 30 := ⟨RX9, TX9, 43, rfl, by decide, inbX9, by decide, w13 13 rfl⟩
set_option maxRecDepth 20000 in
theorem fl_X9_62 : FLk BG RX9 62 9 39 := ⟨RX9, TX9, 43, rfl, by decide, inbX9, by decide, w13 22 rfl⟩
set_option maxRecDepth 20000 in
theorem fl_X9_56 : FLk BG RX9 56 9 36 := ⟨RX9, TX9, 43, rfl, by decide, inbX9, by decide, w13 19 rfl⟩
set_option maxRecDepth 20000 in
theorem fl_X9_221 : FLk BG RX9 221 9 8 := ⟨RX9, TX9, 43, rfl, by decide, inbX9, by decide, w12 55 rfl⟩
set_option maxRecDepth 20000 in
theorem fl_X9_215 : FLk BG RX9 215 9 6 := ⟨RX9, TX9, 43, rfl, by decide, inbX9, by decide, w12 53 rfl⟩
set_option maxRecDepth 20000 in
theorem fl_X9_22 : FLk BG RX9 22 9 10 := ⟨RX9, TX9, 43, rfl, by decide, inbX9, by decide, w12 57 rfl⟩
set_option maxRecDepth 20000 in
theorem fl_X9_25 : FLk BG RX9 25 9 11 := ⟨RX9, TX9, 43, rfl, by decide, inbX9, by decide, w12 58 rfl⟩
set_option maxRecDepth 20000 in
theorem fl_X9_16 : FLk BG RX9 16 9 4 := ⟨RX9, TX9, 43, rfl, by decide, inbX9, by decide, w12 51 rfl⟩
set_option maxRecDepth 20000 in
theorem fl_X9_332 : FLk BG RX9 332 9 42 := ⟨RX9, TX9, 43, rfl, by decide, inbX9, by decide, w13 25 rfl⟩
set_option maxRecDepth 20000 in
theorem fl_X9_68 : FLk BG RX9 68 9 41 := ⟨RX9, TX9, 43, rfl, by decide, inbX9, by decide, w13 24 rfl⟩
set_option maxRecDepth 20000 in
theorem fl_X9_7 : FLk BG RX9 7 9 2 := ⟨RX9, TX9, 43, rfl, by decide, inbX9, by decide, w12 49 rfl⟩
set_option maxRecDepth 20000 in
theorem fl_X9_218 : FLk BG RX9 218 9 7 := ⟨RX9, TX9, 43, rfl, by decide, inbX9, by decide, w12 54 rfl⟩
set_option maxRecDepth 20000 in
theorem fl_X9_98 : FLk BG RX9 98 9 20 := ⟨RX9, TX9, 43, rfl, by decide, inbX9, by decide, w13 3 rfl⟩
set_option maxRecDepth 20000 in
theorem fl_X3_21 : FLk BG RX3 21 3 3 := ⟨RX3, TX3, 10, rfl, by decide, inbX3, by decide, w3 20 rfl⟩
set_option maxRecDepth 20000 in
theorem fl_X3_40 : FLk BG RX3 40 3 9 := ⟨RX3, TX3, 10, rfl, by decide, inbX3, by decide, w3 26 rfl⟩
set_option maxRecDepth 20000 in
theorem fl_X6_9 : FLk BG RX6 9 6 0 := ⟨RX6, TX6, 3, rfl, by decide, inbX6, by decide, w1 41 rfl⟩
set_option maxRecDepth 20000 in
theorem fl_X8_10 : FLk BG RX8 10 8 0 := ⟨RX8, TX8, 16, rfl, by decide, inbX8, by decide, w3 37 rfl⟩
set_option maxRecDepth 20000 in
theorem fl_X8_19 : FLk BG RX8 19 8 1 := ⟨RX8, TX8, 16, rfl, by decide, inbX8, by decide, w3 38 rfl⟩
set_option maxRecDepth 20000 in
theorem fn_X8_236 : FLn BG RX8 236 2 3 := ⟨RX2, TX2, 10, "SeamPull", rfl, by decide, inbX2, by decide, List.mem_of_getElem? (i := 5) rfl⟩
set_option maxRecDepth 20000 in
theorem fl_X8_69 : FLk BG RX8 69 8 10 := ⟨RX8, TX8, 16, rfl, by decide, inbX8, by decide, w3 47 rfl⟩
set_option maxRecDepth 20000 in
theorem fn_X8_210 : FLn BG RX8 210 3 1 := ⟨RX3, TX3, 10, "SeamPull", rfl, by decide, inbX3, by decide, List.mem_of_getElem? (i := 23) rfl⟩
set_option maxRecDepth 20000 in
theorem fn_X8_154 : FLn BG RX8 154 3 2 := ⟨RX3, TX3, 10, "SeamPull", rfl, by decide, inbX3, by decide, List.mem_of_getElem? (i := 25) rfl⟩
set_option maxRecDepth 20000 in
theorem fn_X8_332 : FLn BG RX8 332 3 3 := ⟨RX3, TX3, 10, "SeamPull", rfl, by decide, inbX3, by decide, List.mem_of_getElem? (i := 27) rfl⟩
set_option maxRecDepth 20000 in
theorem fn_X8_335 : FLn BG RX8 335 7 1 := ⟨RX7, TX7, 5, "SeamPull", rfl, by decide, inbX7, by decide, List.mem_of_getElem? (i := 1) rfl⟩
set_option maxRecDepth 20000 in
theorem fl_X9_108 : FLk BG RX9 108 9 23 := ⟨RX9, TX9, 43, rfl, by decide, inbX9, by decide, w13 6 rfl⟩
set_option maxRecDepth 20000 in
theorem fl_X9_19 : FLk BG RX9 19 9 9 := ⟨RX9, TX9, 43, rfl, by decide, inbX9, by decide, w12 56 rfl⟩
set_option maxRecDepth 20000 in
theorem fl_X4_15 : FLk BG RX4 15 4 0 := ⟨RX4, TX4, 2, rfl, by decide, inbX4, by decide, w2 6 rfl⟩
set_option maxRecDepth 20000 in
theorem fl_X4_9 : FLk BG RX4 9 4 1 := ⟨RX4, TX4, 2, rfl, by decide, inbX4, by decide, w2 7 rfl⟩
set_option maxRecDepth 20000 in
theorem fn_X5_52 : FLn BG RX5 52 3 1 := ⟨RX3, TX3, 10, "SeamPull", rfl, by decide, inbX3, by decide, List.mem_of_getElem? (i := 21) rfl⟩
set_option maxRecDepth 20000 in
theorem fl_X5_24 : FLk BG RX5 24 5 3 := ⟨RX5, TX5, 7, rfl, by decide, inbX5, by decide, w2 45 rfl⟩
set_option maxRecDepth 20000 in
theorem fl_X8_83 : FLk BG RX8 83 8 13 := ⟨RX8, TX8, 16, rfl, by decide, inbX8, by decide, w3 50 rfl⟩
set_option maxRecDepth 20000 in
theorem fl_X8_32 : FLk BG RX8 32 8 3 := ⟨RX8, TX8, 16, rfl, by decide, inbX8, by decide, w3 40 rfl⟩
set_option maxRecDepth 20000 in
theorem fl_X8_36 : FLk BG RX8 36 8 4 := ⟨RX8, TX8, 16, rfl, by decide, inbX8, by decide, w3 41 rfl⟩
set_option maxRecDepth 20000 in
theorem fl_X8_55 : FLk BG RX8 55 8 8 := ⟨RX8, TX8, 16, rfl, by decide, inbX8, by decide, w3 45 rfl⟩
set_option maxRecDepth 20000 in
theorem fl_X8_62 : FLk BG RX8 62 8 9 := ⟨RX8, TX8, 16, rfl, by decide, inbX8, by decide, w3 46 rfl⟩
set_option maxRecDepth 20000 in
theorem fn_X8_186 : FLn BG RX8 186 3 4 := ⟨RX3, TX3, 10, "SeamPull", rfl, by decide, inbX3, by decide, List.mem_of_getElem? (i := 29) rfl⟩
set_option maxRecDepth 20000 in
theorem fn_X8_189 : FLn BG RX8 189 3 5 := ⟨RX3, TX3, 10, "SeamPull", rfl, by decide, inbX3, by decide, List.mem_of_getElem? (i := 31) rfl⟩
set_option maxRecDepth 20000 in
theorem fn_X8_195 : FLn BG RX8 195 3 6 := ⟨RX3, TX3, 10, "SeamPull", rfl, by decide, inbX3, by decide, List.mem_of_getElem? (i := 34) rfl⟩
set_option maxRecDepth 20000 in
theorem fn_X8_199 : FLn BG RX8 199 3 7 := ⟨RX3, TX3, 10, "SeamPull", rfl, by decide, inbX3, by decide, List.mem_of_getElem? (i := 35) rfl⟩
set_option maxRecDepth 20000 in
theorem fn_X8_233 : FLn BG RX8 233 2 2 := ⟨RX2, TX2, 10, "SeamPull", rfl, by decide, inbX2, by decide, List.mem_of_getElem? (i := 3) rfl⟩
set_option maxRecDepth 20000 in
theorem fl_X9_13 : FLk BG RX9 13 9 3 := ⟨RX9, TX9, 43, rfl, by decide, inbX9, by decide, w12 50 rfl⟩
set_option maxRecDepth 20000 in
theorem fn_X2_85 : FLn BG RX2 85 3 5 := ⟨RX3, TX3, 10, "SeamPull", rfl, by decide, inbX3, by decide, List.mem_of_getElem? (i := 30) rfl⟩
set_option maxRecDepth 20000 in
theorem fn_X2_88 : FLn BG RX2 88 3 4 := ⟨RX3, TX3, 10, "SeamPull", rfl, by decide, inbX3, by decide, List.mem_of_getElem? (i := 28) rfl⟩
set_option maxRecDepth 20000 in
theorem fn_X2_95 : FLn BG RX2 95 3 6 := ⟨RX3, TX3, 10, "SeamPull", rfl, by decide, inbX3, by decide, List.mem_of_getElem? (i := 32) rfl⟩
set_option maxRecDepth 20000 in
theorem fn_X4_74 : FLn BG RX4 74 3 2 := ⟨RX3, TX3, 10, "SeamPull", rfl, by decide, inbX3, by decide, List.mem_of_getElem? (i := 24) rfl⟩
set_option maxRecDepth 20000 in
theorem fn_X4_54 : FLn BG RX4 54 3 0 := ⟨RX3, TX3, 10, "SeamPull", rfl, by decide, inbX3, by decide, List.mem_of_getElem? (i := 17) rfl⟩
set_option maxRecDepth 20000 in
theorem fn_X4_81 : FLn BG RX4 81 3 3 := ⟨RX3, TX3, 10, "SeamPull", rfl, by decide, inbX3, by decide, List.mem_of_getElem? (i := 26) rfl⟩
set_option maxRecDepth 20000 in
theorem fn_X4_61 : FLn BG RX4 61 3 1 := ⟨RX3, TX3, 10, "SeamPull", rfl, by decide, inbX3, by decide, List.mem_of_getElem? (i := 20) rfl⟩
set_option maxRecDepth 20000 in
theorem fl_X5_31 : FLk BG RX5 31 5 5 := ⟨RX5, TX5, 7, rfl, by decide, inbX5, by decide, w2 47 rfl⟩
set_option maxRecDepth 20000 in
theorem fl_X5_34 : FLk BG RX5 34 5 6 := ⟨RX5, TX5, 7, rfl, by decide, inbX5, by decide, w2 48 rfl⟩
set_option maxRecDepth 20000 in
theorem fl_X5_17 : FLk BG RX5 17 5 1 := ⟨RX5, TX5, 7, rfl, by decide, inbX5, by decide, w2 43 rfl⟩
set_option maxRecDepth 20000 in
theorem fl_X5_21 : FLk BG RX5 21 5 2 := ⟨RX5, TX5, 7, rfl, by decide, inbX5, by decide, w2 44 rfl⟩
set_option maxRecDepth 20000 in
theorem fn_X2_61 : FLn BG RX2 61 3 0 := ⟨RX3, TX3, 10, "SeamPull", rfl, by decide, inbX3, by decide, List.mem_of_getElem? (i := 18) rfl⟩
set_option maxRecDepth 20000 in
theorem fn_X2_68 : FLn BG RX2 68 3 1 := ⟨RX3, TX3, 10, "SeamPull", rfl, by decide, inbX3, by decide, List.mem_of_getElem? (i := 22) rfl⟩
set_option maxRecDepth 20000 in
theorem fl_X5_11 : FLk BG RX5 11 5 0 := ⟨RX5, TX5, 7, rfl, by decide, inbX5, by decide, w2 42 rfl⟩
set_option maxRecDepth 20000 in
theorem fl_X9_170 : FLk BG RX9 170 9 14 := ⟨RX9, TX9, 43, rfl, by decide, inbX9, by decide, w12 61 rfl⟩
set_option maxRecDepth 20000 in
theorem fl_X9_28 : FLk BG RX9 28 9 16 := ⟨RX9, TX9, 43, rfl, by decide, inbX9, by decide, w12 63 rfl⟩
set_option maxRecDepth 20000 in
theorem fl_X9_180 : FLk BG RX9 180 9 13 := ⟨RX9, TX9, 43, rfl, by decide, inbX9, by decide, w12 60 rfl⟩
set_option maxRecDepth 20000 in
theorem fl_X9_177 : FLk BG RX9 177 9 12 := ⟨RX9, TX9, 43, rfl, by decide, inbX9, by decide, w12 59 rfl⟩
set_option maxRecDepth 20000 in
theorem fl_X9_193 : FLk BG RX9 193 9 15 := ⟨RX9, TX9, 43, rfl, by decide, inbX9, by decide, w12 62 rfl⟩
set_option maxRecDepth 20000 in
theorem fl_X9_31 : FLk BG RX9 31 9 17 := ⟨RX9, TX9, 43, rfl, by decide, inbX9, by decide, w13 0 rfl⟩
set_option maxRecDepth 20000 in
theorem fl_X9_34 : FLk BG RX9 34 9 18 := ⟨RX9, TX9, 43, rfl, by decide, inbX9, by decide, w13 1 rfl⟩
set_option maxRecDepth 20000 in
theorem fl_X1_15 : FLk BG RX1 15 1 1 := ⟨RX1, TX1, 3, rfl, by decide, inbX1, by decide, w2 62 rfl⟩
set_option maxRecDepth 20000 in
theorem fn_X5_39 : FLn BG RX5 39 3 0 := ⟨RX3, TX3, 10, "SeamPull", rfl, by decide, inbX3, by decide, List.mem_of_getElem? (i := 16) rfl⟩
set_option maxRecDepth 20000 in
theorem fl_X8_49 : FLk BG RX8 49 8 7 := ⟨RX8, TX8, 16, rfl, by decide, inbX8, by decide, w3 44 rfl⟩
set_option maxRecDepth 20000 in
theorem fn_X8_255 : FLn BG RX8 255 5 5 := ⟨RX5, TX5, 7, "SeamPull", rfl, by decide, inbX5, by decide, List.mem_of_getElem? (i := 10) rfl⟩
set_option maxRecDepth 20000 in
theorem fn_X8_261 : FLn BG RX8 261 5 2 := ⟨RX5, TX5, 7, "SeamPull", rfl, by decide, inbX5, by decide, List.mem_of_getElem? (i := 9) rfl⟩
set_option maxRecDepth 20000 in
theorem fn_X8_258 : FLn BG RX8 258 5 6 := ⟨RX5, TX5, 7, "SeamPull", rfl, by decide, inbX5, by decide, List.mem_of_getElem? (i := 11) rfl⟩
set_option maxRecDepth 20000 in
theorem fn_X8_270 : FLn BG RX8 270 1 0 := ⟨RX1, TX1, 3, "SeamPull", rfl, by decide, inbX1, by decide, List.mem_of_getElem? (i := 13) rfl⟩
set_option maxRecDepth 20000 in
theorem fl_X8_28 : FLk BG RX8 28 8 2 := ⟨RX8, TX8, 16, rfl, by decide, inbX8, by decide, w3 39 rfl⟩
set_option maxRecDepth 20000 in
theorem fl_X8_80 : FLk BG RX8 80 8 12 := ⟨RX8, TX8, 16, rfl, by decide, inbX8, by decide, w3 49 rfl⟩
set_option maxRecDepth 20000 in
theorem fl_X9_65 : FLk BG RX9 65 9 40 := ⟨RX9, TX9, 43, rfl, by decide, inbX9, by decide, w13 23 rfl⟩
set_option maxRecDepth 20000 in
theorem fn_X0_53 : FLn BG RX0 53 3 6 := ⟨RX3, TX3, 10, "SeamPull", rfl, by decide, inbX3, by decide, List.mem_of_getElem? (i := 33) rfl⟩
set_option maxRecDepth 20000 in
theorem fp_X0_15 : FPk BG RX0 15 0 1 := ⟨fl_X0_15, RX0, TX0, 2, tyX0, rfl, tyX0_ok, nmX0, rfl, rfl⟩
set_option maxRecDepth 20000 in
theorem fp_X1_18 : FPk BG RX1 18 1 2 := ⟨fl_X1_18, RX1, TX1, 3, tyX1, rfl, tyX1_ok, nmX1, rfl, rfl⟩
set_option maxRecDepth 20000 in
theorem fp_X2_34 : FPk BG RX2 34 2 7 := ⟨fl_X2_34, RX2, TX2, 10, tyX2, rfl, tyX2_ok, nmX2, rfl, rfl⟩
set_option maxRecDepth 20000 in
theorem fp_X2_37 : FPk BG RX2 37 2 8 := ⟨fl_X2_37, RX2, TX2, 10, tyX2, rfl, tyX2_ok, nmX2, rfl, rfl⟩
set_option maxRecDepth 20000 in
theorem fp_X2_40 : FPk BG RX2 40 2 9 := ⟨fl_X2_40, RX2, TX2, 10, tyX2, rfl, tyX2_ok, nmX2, rfl, rfl⟩
set_option maxRecDepth 20000 in
theorem fp_X2_30 : FPk BG RX2 30 2 6 := ⟨fl_X2_30, RX2, TX2, 10, tyX2, rfl, tyX2_ok, nmX2, rfl, rfl⟩
set_option maxRecDepth 20000 in
theorem cy_X2_55 : cpyW RX2 55 := List.forall_mem_cons.mpr ⟨w7 45 rfl, List.forall_mem_cons.mpr ⟨w4 58 rfl, List.forall_mem_cons.mpr ⟨w4 57 rfl, List.forall_mem_cons.mpr ⟨w1 16 rfl, fun _ h => absurd h List.not_mem_nil⟩⟩⟩⟩
set_option maxRecDepth 20000 in
theorem fp_X3_18 : FPk BG RX3 18 3 2 := ⟨fl_X3_18, RX3, TX3, 10, tyX3, rfl, tyX3_ok, nmX3, rfl, rfl⟩
set_option maxRecDepth 20000 in
theorem fp_X3_15 : FPk BG RX3 15 3 1 := ⟨fl_X3_15, RX3, TX3, 10, tyX3, rfl, tyX3_ok, nmX3, rfl, rfl⟩
set_option maxRecDepth 20000 in
theorem fp_X5_27 : FPk BG RX5 27 5 4 := ⟨fl_X5_27, RX5, TX5, 7, tyX5, rfl, tyX5_ok, nmX5, rfl, rfl⟩
set_option maxRecDepth 20000 in
theorem cy_X6_37 : cpyW RX6 37 := List.forall_mem_cons.mpr ⟨w4 56 rfl, List.forall_mem_cons.mpr ⟨w4 58 rfl, List.forall_mem_cons.mpr ⟨w4 57 rfl, List.forall_mem_cons.mpr ⟨w1 16 rfl, fun _ h => absurd h List.not_mem_nil⟩⟩⟩⟩
set_option maxRecDepth 20000 in
theorem fp_X7_15 : FPk BG RX7 15 7 1 := ⟨fl_X7_15, RX7, TX7, 5, tyX7, rfl, tyX7_ok, nmX7, rfl, rfl⟩
set_option maxRecDepth 20000 in
theorem cm_X8_293 : mthW RX8 293 Lib.Math.min.name Lib.Math.min.code 2 := List.forall_mem_cons.mpr ⟨w11 8 rfl, List.forall_mem_cons.mpr ⟨w7 42 rfl, List.forall_mem_cons.mpr ⟨w1 21 rfl, List.forall_mem_cons.mpr ⟨w7 43 rfl, fun _ h => absurd h List.not_mem_nil⟩⟩⟩⟩
set_option maxRecDepth 20000 in
theorem cm_X8_290 : mthW RX8 290 Lib.Math.max.name Lib.Math.max.code 2 := List.forall_mem_cons.mpr ⟨w11 7 rfl, List.forall_mem_cons.mpr ⟨w9 37 rfl, List.forall_mem_cons.mpr ⟨w1 21 rfl, List.forall_mem_cons.mpr ⟨w9 38 rfl, fun _ h => absurd h List.not_mem_nil⟩⟩⟩⟩
set_option maxRecDepth 20000 in
theorem fp_X8_91 : FPk BG RX8 91 8 15 := ⟨fl_X8_91, RX8, TX8, 16, tyX8, rfl, tyX8_ok, nmX8, rfl, rfl⟩
set_option maxRecDepth 20000 in
theorem fp_X9_75 : FPk BG RX9 75 9 1 := ⟨fl_X9_75, RX9, TX9, 43, tyX9, rfl, tyX9_ok, nmX9, rfl, rfl⟩
set_option maxRecDepth 20000 in
theorem fp_X9_129 : FPk BG RX9 129 9 27 := ⟨fl_X9_129, RX9, TX9, 43, tyX9, rfl, tyX9_ok, nmX9, rfl, rfl⟩
set_option maxRecDepth 20000 in
theorem fp_X9_132 : FPk BG RX9 132 9 28 := ⟨fl_X9_132, RX9, TX9, 43, tyX9, rfl, tyX9_ok, nmX9, rfl, rfl⟩
set_option maxRecDepth 20000 in
theorem fp_X9_71 : FPk BG RX9 71 9 0 := ⟨fl_X9_71, RX9, TX9, 43, tyX9, rfl, tyX9_ok, nmX9, rfl, rfl⟩
set_option maxRecDepth 20000 in
theorem fp_X9_240 : FPk BG RX9 240 9 35 := ⟨fl_X9_240, RX9, TX9, 43, tyX9, rfl, tyX9_ok, nmX9, rfl, rfl⟩
set_option maxRecDepth 20000 in
theorem fp_X9_270 : FPk BG RX9 270 9 37 := ⟨fl_X9_270, RX9, TX9, 43, tyX9, rfl, tyX9_ok, nmX9, rfl, rfl⟩
set_option maxRecDepth 20000 in
theorem fp_X9_224 : FPk BG RX9 224 9 31 := ⟨fl_X9_224, RX9, TX9, 43, tyX9, rfl, tyX9_ok, nmX9, rfl, rfl⟩
set_option maxRecDepth 20000 in
theorem fp_X9_332 : FPk BG RX9 332 9 42 := ⟨fl_X9_332, RX9, TX9, 43, tyX9, rfl, tyX9_ok, nmX9, rfl, rfl⟩
set_option maxRecDepth 20000 in
theorem cs_J1_9 : CWs RJ1 9 yJ0_checkIndex_df160 cJ0_checkIndex_df160 2 none 2 := ⟨List.forall_mem_cons.mpr ⟨w6 10 rfl, List.forall_mem_cons.mpr ⟨w6 11 rfl, List.forall_mem_cons.mpr ⟨w1 17 rfl, List.forall_mem_cons.mpr ⟨w6 12 rfl, fun _ h => absurd h List.not_mem_nil⟩⟩⟩⟩, by decide, by decide, by decide +kernel⟩
set_option maxRecDepth 20000 in
theorem cs_X0_19 : CWs RX0 19 yX0_hasKind cX0_hasKind 1 (some .boolean) 1 := ⟨List.forall_mem_cons.mpr ⟨w11 59 rfl, List.forall_mem_cons.mpr ⟨w11 54 rfl, List.forall_mem_cons.mpr ⟨w1 13 rfl, List.forall_mem_cons.mpr ⟨w11 55 rfl, fun _ h => absurd h List.not_mem_nil⟩⟩⟩⟩, by decide, by decide, by decide +kernel⟩
set_option maxRecDepth 20000 in
theorem cm_X2_43 : mthW RX2 43 Lib.Math.min.name Lib.Math.min.code 2 := List.forall_mem_cons.mpr ⟨w7 41 rfl, List.forall_mem_cons.mpr ⟨w7 42 rfl, List.forall_mem_cons.mpr ⟨w1 21 rfl, List.forall_mem_cons.mpr ⟨w7 43 rfl, fun _ h => absurd h List.not_mem_nil⟩⟩⟩⟩
set_option maxRecDepth 20000 in
theorem cs_X2_49 : CWs RX2 49 yJ7_fill_53178 cJ7_fill_53178 4 none 2 := ⟨List.forall_mem_cons.mpr ⟨w7 44 rfl, List.forall_mem_cons.mpr ⟨w1 39 rfl, List.forall_mem_cons.mpr ⟨w1 7 rfl, List.forall_mem_cons.mpr ⟨w1 40 rfl, fun _ h => absurd h List.not_mem_nil⟩⟩⟩⟩, by decide, by decide, by decide +kernel⟩
set_option maxRecDepth 20000 in
theorem cv_X2_125 : CWv RX2 125 RX2 yX2_holds cX2_holds 2 (some .boolean) 1 := ⟨List.forall_mem_cons.mpr ⟨w9 9 rfl, List.forall_mem_cons.mpr ⟨w9 10 rfl, List.forall_mem_cons.mpr ⟨w0 17 rfl, List.forall_mem_cons.mpr ⟨w1 10 rfl, List.forall_mem_cons.mpr ⟨w9 11 rfl, fun _ h => absurd h List.not_mem_nil⟩⟩⟩⟩⟩, rfl, by decide, by decide, by decide +kernel⟩
set_option maxRecDepth 20000 in
theorem cv_X2_102 : CWv RX2 102 RX2 yX2_has cX2_has 2 (some .boolean) 1 := ⟨List.forall_mem_cons.mpr ⟨w8 58 rfl, List.forall_mem_cons.mpr ⟨w8 59 rfl, List.forall_mem_cons.mpr ⟨w0 12 rfl, List.forall_mem_cons.mpr ⟨w1 10 rfl, List.forall_mem_cons.mpr ⟨w8 60 rfl, fun _ h => absurd h List.not_mem_nil⟩⟩⟩⟩⟩, rfl, by decide, by decide, by decide +kernel⟩
set_option maxRecDepth 20000 in
theorem cv_X2_116 : CWv RX2 116 RX2 yX2_isClamped cX2_isClamped 2 (some .boolean) 1 := ⟨List.forall_mem_cons.mpr ⟨w8 61 rfl, List.forall_mem_cons.mpr ⟨w8 62 rfl, List.forall_mem_cons.mpr ⟨w0 13 rfl, List.forall_mem_cons.mpr ⟨w1 10 rfl, List.forall_mem_cons.mpr ⟨w8 63 rfl, fun _ h => absurd h List.not_mem_nil⟩⟩⟩⟩⟩, rfl, by decide, by decide, by decide +kernel⟩
set_option maxRecDepth 20000 in
theorem cv_X2_106 : CWv RX2 106 RX2 yX2_cool cX2_cool 3 none 1 := ⟨List.forall_mem_cons.mpr ⟨w9 3 rfl, List.forall_mem_cons.mpr ⟨w9 4 rfl, List.forall_mem_cons.mpr ⟨w0 15 rfl, List.forall_mem_cons.mpr ⟨w1 10 rfl, List.forall_mem_cons.mpr ⟨w9 5 rfl, fun _ h => absurd h List.not_mem_nil⟩⟩⟩⟩⟩, rfl, by decide, by decide, by decide +kernel⟩
set_option maxRecDepth 20000 in
theorem cv_X2_132 : CWv RX2 132 RX2 yX2_heightAt cX2_heightAt 5 (some .int) 1 := ⟨List.forall_mem_cons.mpr ⟨w9 29 rfl, List.forall_mem_cons.mpr ⟨w9 30 rfl, List.forall_mem_cons.mpr ⟨w9 31 rfl, List.forall_mem_cons.mpr ⟨w1 10 rfl, List.forall_mem_cons.mpr ⟨w9 32 rfl, fun _ h => absurd h List.not_mem_nil⟩⟩⟩⟩⟩, rfl, by decide, by decide, by decide +kernel⟩
set_option maxRecDepth 20000 in
theorem cm_X2_135 : mthW RX2 135 Lib.Math.abs.name Lib.Math.abs.code 1 := List.forall_mem_cons.mpr ⟨w9 33 rfl, List.forall_mem_cons.mpr ⟨w9 34 rfl, List.forall_mem_cons.mpr ⟨w1 21 rfl, List.forall_mem_cons.mpr ⟨w9 35 rfl, fun _ h => absurd h List.not_mem_nil⟩⟩⟩⟩
set_option maxRecDepth 20000 in
theorem cm_X2_138 : mthW RX2 138 Lib.Math.max.name Lib.Math.max.code 2 := List.forall_mem_cons.mpr ⟨w9 36 rfl, List.forall_mem_cons.mpr ⟨w9 37 rfl, List.forall_mem_cons.mpr ⟨w1 21 rfl, List.forall_mem_cons.mpr ⟨w9 38 rfl, fun _ h => absurd h List.not_mem_nil⟩⟩⟩⟩
set_option maxRecDepth 20000 in
theorem fp_X3_9 : FPk BG RX3 9 3 0 := ⟨fl_X3_9, RX3, TX3, 10, tyX3, rfl, tyX3_ok, nmX3, rfl, rfl⟩
set_option maxRecDepth 20000 in
theorem fp_X3_21 : FPk BG RX3 21 3 3 := ⟨fl_X3_21, RX3, TX3, 10, tyX3, rfl, tyX3_ok, nmX3, rfl, rfl⟩
set_option maxRecDepth 20000 in
theorem cs_X3_43 : CWs RX3 43 yJ7_fill_53178 cJ7_fill_53178 4 none 2 := ⟨List.forall_mem_cons.mpr ⟨w5 29 rfl, List.forall_mem_cons.mpr ⟨w1 39 rfl, List.forall_mem_cons.mpr ⟨w1 7 rfl, List.forall_mem_cons.mpr ⟨w1 40 rfl, fun _ h => absurd h List.not_mem_nil⟩⟩⟩⟩, by decide, by decide, by decide +kernel⟩
set_option maxRecDepth 20000 in
theorem cv_X3_49 : CWv RX3 49 RX3 yX3_hasAct cX3_hasAct 2 (some .boolean) 1 := ⟨List.forall_mem_cons.mpr ⟨w8 6 rfl, List.forall_mem_cons.mpr ⟨w7 63 rfl, List.forall_mem_cons.mpr ⟨w8 0 rfl, List.forall_mem_cons.mpr ⟨w1 14 rfl, List.forall_mem_cons.mpr ⟨w8 1 rfl, fun _ h => absurd h List.not_mem_nil⟩⟩⟩⟩⟩, rfl, by decide, by decide, by decide +kernel⟩
set_option maxRecDepth 20000 in
theorem cv_X3_53 : CWv RX3 53 RX3 yX3_hasSeam cX3_hasSeam 2 (some .boolean) 1 := ⟨List.forall_mem_cons.mpr ⟨w7 14 rfl, List.forall_mem_cons.mpr ⟨w7 15 rfl, List.forall_mem_cons.mpr ⟨w7 16 rfl, List.forall_mem_cons.mpr ⟨w1 14 rfl, List.forall_mem_cons.mpr ⟨w7 17 rfl, fun _ h => absurd h List.not_mem_nil⟩⟩⟩⟩⟩, rfl, by decide, by decide, by decide +kernel⟩
set_option maxRecDepth 20000 in
theorem cv_X6_29 : CWv RX6 29 RX6 yX6_isMissing cX6_isMissing 2 (some .boolean) 1 := ⟨List.forall_mem_cons.mpr ⟨w4 33 rfl, List.forall_mem_cons.mpr ⟨w4 34 rfl, List.forall_mem_cons.mpr ⟨w4 35 rfl, List.forall_mem_cons.mpr ⟨w1 6 rfl, List.forall_mem_cons.mpr ⟨w4 36 rfl, fun _ h => absurd h List.not_mem_nil⟩⟩⟩⟩⟩, rfl, by decide, by decide, by decide +kernel⟩
set_option maxRecDepth 20000 in
theorem cs_X6_23 : CWs RX6 23 yJ7_fill_53178 cJ7_fill_53178 4 none 2 := ⟨List.forall_mem_cons.mpr ⟨w1 38 rfl, List.forall_mem_cons.mpr ⟨w1 39 rfl, List.forall_mem_cons.mpr ⟨w1 7 rfl, List.forall_mem_cons.mpr ⟨w1 40 rfl, fun _ h => absurd h List.not_mem_nil⟩⟩⟩⟩, by decide, by decide, by decide +kernel⟩
set_option maxRecDepth 20000 in
theorem cs_X6_33 : CWs RX6 33 yX6_narrowed cX6_narrowed 2 (some .int) 2 := ⟨List.forall_mem_cons.mpr ⟨w4 41 rfl, List.forall_mem_cons.mpr ⟨w4 42 rfl, List.forall_mem_cons.mpr ⟨w1 6 rfl, List.forall_mem_cons.mpr ⟨w4 43 rfl, fun _ h => absurd h List.not_mem_nil⟩⟩⟩⟩, by decide, by decide, by decide +kernel⟩
set_option maxRecDepth 20000 in
theorem fp_X7_19 : FPk BG RX7 19 7 2 := ⟨fl_X7_19, RX7, TX7, 5, tyX7, rfl, tyX7_ok, nmX7, rfl, rfl⟩
set_option maxRecDepth 20000 in
theorem fp_X7_25 : FPk BG RX7 25 7 4 := ⟨fl_X7_25, RX7, TX7, 5, tyX7, rfl, tyX7_ok, nmX7, rfl, rfl⟩
set_option maxRecDepth 20000 in
theorem fp_X7_22 : FPk BG RX7 22 7 3 := ⟨fl_X7_22, RX7, TX7, 5, tyX7, rfl, tyX7_ok, nmX7, rfl, rfl⟩
set_option maxRecDepth 20000 in
theorem cs_X7_31 : CWs RX7 31 yX7_sortOf cX7_sortOf 1 (some .int) 1 := ⟨List.forall_mem_cons.mpr ⟨w5 38 rfl, List.forall_mem_cons.mpr ⟨w5 39 rfl, List.forall_mem_cons.mpr ⟨w1 8 rfl, List.forall_mem_cons.mpr ⟨w5 40 rfl, fun _ h => absurd h List.not_mem_nil⟩⟩⟩⟩, by decide, by decide, by decide +kernel⟩
set_option maxRecDepth 20000 in
theorem cv_X8_94 : CWv RX8 94 RX6 yX6_hasNumber cX6_hasNumber 2 (some .boolean) 1 := ⟨List.forall_mem_cons.mpr ⟨w4 9 rfl, List.forall_mem_cons.mpr ⟨w4 10 rfl, List.forall_mem_cons.mpr ⟨w4 11 rfl, List.forall_mem_cons.mpr ⟨w1 6 rfl, List.forall_mem_cons.mpr ⟨w4 12 rfl, fun _ h => absurd h List.not_mem_nil⟩⟩⟩⟩⟩, rfl, by decide, by decide, by decide +kernel⟩
set_option maxRecDepth 20000 in
theorem cv_X8_125 : CWv RX8 125 RX6 yX6_isMissing cX6_isMissing 2 (some .boolean) 1 := ⟨List.forall_mem_cons.mpr ⟨w4 63 rfl, List.forall_mem_cons.mpr ⟨w4 34 rfl, List.forall_mem_cons.mpr ⟨w4 35 rfl, List.forall_mem_cons.mpr ⟨w1 6 rfl, List.forall_mem_cons.mpr ⟨w4 36 rfl, fun _ h => absurd h List.not_mem_nil⟩⟩⟩⟩⟩, rfl, by decide, by decide, by decide +kernel⟩
set_option maxRecDepth 20000 in
theorem cv_X8_128 : CWv RX8 128 RX6 yX6_takeAway cX6_takeAway 3 (some .int) 1 := ⟨List.forall_mem_cons.mpr ⟨w5 0 rfl, List.forall_mem_cons.mpr ⟨w5 1 rfl, List.forall_mem_cons.mpr ⟨w5 2 rfl, List.forall_mem_cons.mpr ⟨w1 6 rfl, List.forall_mem_cons.mpr ⟨w5 3 rfl, fun _ h => absurd h List.not_mem_nil⟩⟩⟩⟩⟩, rfl, by decide, by decide, by decide +kernel⟩
set_option maxRecDepth 20000 in
theorem cv_X8_107 : CWv RX8 107 RX8 yX8_fine cX8_fine 2 (some .int) 1 := ⟨List.forall_mem_cons.mpr ⟨w4 22 rfl, List.forall_mem_cons.mpr ⟨w4 23 rfl, List.forall_mem_cons.mpr ⟨w0 1 rfl, List.forall_mem_cons.mpr ⟨w1 5 rfl, List.forall_mem_cons.mpr ⟨w4 24 rfl, fun _ h => absurd h List.not_mem_nil⟩⟩⟩⟩⟩, rfl, by decide, by decide, by decide +kernel⟩
set_option maxRecDepth 20000 in
theorem cv_X8_99 : CWv RX8 99 RX8 yX8_found cX8_found 2 (some .int) 1 := ⟨List.forall_mem_cons.mpr ⟨w4 14 rfl, List.forall_mem_cons.mpr ⟨w4 15 rfl, List.forall_mem_cons.mpr ⟨w0 0 rfl, List.forall_mem_cons.mpr ⟨w1 5 rfl, List.forall_mem_cons.mpr ⟨w4 16 rfl, fun _ h => absurd h List.not_mem_nil⟩⟩⟩⟩⟩, rfl, by decide, by decide, by decide +kernel⟩
set_option maxRecDepth 20000 in
theorem cv_X8_131 : CWv RX8 131 RX7 yX7_hasRoom cX7_hasRoom 2 (some .boolean) 1 := ⟨List.forall_mem_cons.mpr ⟨w5 8 rfl, List.forall_mem_cons.mpr ⟨w5 9 rfl, List.forall_mem_cons.mpr ⟨w5 10 rfl, List.forall_mem_cons.mpr ⟨w1 8 rfl, List.forall_mem_cons.mpr ⟨w5 11 rfl, fun _ h => absurd h List.not_mem_nil⟩⟩⟩⟩⟩, rfl, by decide, by decide, by decide +kernel⟩
set_option maxRecDepth 20000 in
theorem cv_X8_135 : CWv RX8 135 RX7 yX7_append cX7_append 5 (some .int) 2 := ⟨List.forall_mem_cons.mpr ⟨w5 13 rfl, List.forall_mem_cons.mpr ⟨w5 14 rfl, List.forall_mem_cons.mpr ⟨w5 15 rfl, List.forall_mem_cons.mpr ⟨w1 8 rfl, List.forall_mem_cons.mpr ⟨w5 16 rfl, fun _ h => absurd h List.not_mem_nil⟩⟩⟩⟩⟩, rfl, by decide, by decide, by decide +kernel⟩
set_option maxRecDepth 20000 in
theorem cv_X8_205 : CWv RX8 205 RX3 yX3_isNone cX3_isNone 1 (some .boolean) 0 := ⟨List.forall_mem_cons.mpr ⟨w8 20 rfl, List.forall_mem_cons.mpr ⟨w8 21 rfl, List.forall_mem_cons.mpr ⟨w8 22 rfl, List.forall_mem_cons.mpr ⟨w1 14 rfl, List.forall_mem_cons.mpr ⟨w8 23 rfl, fun _ h => absurd h List.not_mem_nil⟩⟩⟩⟩⟩, rfl, by decide, by decide, by decide +kernel⟩
set_option maxRecDepth 20000 in
theorem cv_X8_242 : CWv RX8 242 RX2 yX2_heightAt cX2_heightAt 5 (some .int) 1 := ⟨List.forall_mem_cons.mpr ⟨w9 59 rfl, List.forall_mem_cons.mpr ⟨w9 30 rfl, List.forall_mem_cons.mpr ⟨w9 31 rfl, List.forall_mem_cons.mpr ⟨w1 10 rfl, List.forall_mem_cons.mpr ⟨w9 32 rfl, fun _ h => absurd h List.not_mem_nil⟩⟩⟩⟩⟩, rfl, by decide, by decide, by decide +kernel⟩
set_option maxRecDepth 20000 in
theorem cy_X8_166 : cpyW RX8 166 := List.forall_mem_cons.mpr ⟨w7 36 rfl, List.forall_mem_cons.mpr ⟨w4 58 rfl, List.forall_mem_cons.mpr ⟨w4 57 rfl, List.forall_mem_cons.mpr ⟨w1 16 rfl, fun _ h => absurd h List.not_mem_nil⟩⟩⟩⟩
set_option maxRecDepth 20000 in
theorem cm_X8_285 : mthW RX8 285 Lib.Math.abs.name Lib.Math.abs.code 1 := List.forall_mem_cons.mpr ⟨w11 9 rfl, List.forall_mem_cons.mpr ⟨w9 34 rfl, List.forall_mem_cons.mpr ⟨w1 21 rfl, List.forall_mem_cons.mpr ⟨w9 35 rfl, fun _ h => absurd h List.not_mem_nil⟩⟩⟩⟩
set_option maxRecDepth 20000 in
theorem cv_X8_281 : CWv RX8 281 RX8 yX8_spotAt cX8_spotAt 3 none 2 := ⟨List.forall_mem_cons.mpr ⟨w11 4 rfl, List.forall_mem_cons.mpr ⟨w11 5 rfl, List.forall_mem_cons.mpr ⟨w0 23 rfl, List.forall_mem_cons.mpr ⟨w1 5 rfl, List.forall_mem_cons.mpr ⟨w11 6 rfl, fun _ h => absurd h List.not_mem_nil⟩⟩⟩⟩⟩, rfl, by decide, by decide, by decide +kernel⟩
set_option maxRecDepth 20000 in
theorem cv_X8_326 : CWv RX8 326 RX0 yX0_traced cX0_traced 2 (some .int) 1 := ⟨List.forall_mem_cons.mpr ⟨w12 24 rfl, List.forall_mem_cons.mpr ⟨w12 25 rfl, List.forall_mem_cons.mpr ⟨w12 26 rfl, List.forall_mem_cons.mpr ⟨w1 13 rfl, List.forall_mem_cons.mpr ⟨w12 27 rfl, fun _ h => absurd h List.not_mem_nil⟩⟩⟩⟩⟩, rfl, by decide, by decide, by decide +kernel⟩
set_option maxRecDepth 20000 in
theorem cv_X8_329 : CWv RX8 329 RX6 yX6_howMany cX6_howMany 3 (some .int) 0 := ⟨List.forall_mem_cons.mpr ⟨w12 33 rfl, List.forall_mem_cons.mpr ⟨w12 34 rfl, List.forall_mem_cons.mpr ⟨w12 35 rfl, List.forall_mem_cons.mpr ⟨w1 6 rfl, List.forall_mem_cons.mpr ⟨w12 36 rfl, fun _ h => absurd h List.not_mem_nil⟩⟩⟩⟩⟩, rfl, by decide, by decide, by decide +kernel⟩
set_option maxRecDepth 20000 in
theorem cs_X9_81 : CWs RX9 81 yX9_in cX9_in 6 (some .boolean) 3 := ⟨List.forall_mem_cons.mpr ⟨w14 14 rfl, List.forall_mem_cons.mpr ⟨w14 15 rfl, List.forall_mem_cons.mpr ⟨w1 15 rfl, List.forall_mem_cons.mpr ⟨w14 16 rfl, fun _ h => absurd h List.not_mem_nil⟩⟩⟩⟩, by decide, by decide, by decide +kernel⟩
set_option maxRecDepth 20000 in
theorem fp_X9_98 : FPk BG RX9 98 9 20 := ⟨fl_X9_98, RX9, TX9, 43, tyX9, rfl, tyX9_ok, nmX9, rfl, rfl⟩
set_option maxRecDepth 20000 in
theorem fp_X9_114 : FPk BG RX9 114 9 25 := ⟨fl_X9_114, RX9, TX9, 43, tyX9, rfl, tyX9_ok, nmX9, rfl, rfl⟩
set_option maxRecDepth 20000 in
theorem cv_X9_111 : CWv RX9 111 RX9 yX9_byteAt cX9_byteAt 2 (some .int) 1 := ⟨List.forall_mem_cons.mpr ⟨w14 49 rfl, List.forall_mem_cons.mpr ⟨w14 50 rfl, List.forall_mem_cons.mpr ⟨w0 32 rfl, List.forall_mem_cons.mpr ⟨w1 15 rfl, List.forall_mem_cons.mpr ⟨w14 51 rfl, fun _ h => absurd h List.not_mem_nil⟩⟩⟩⟩⟩, rfl, by decide, by decide, by decide +kernel⟩
set_option maxRecDepth 20000 in
theorem fp_X9_126 : FPk BG RX9 126 9 26 := ⟨fl_X9_126, RX9, TX9, 43, tyX9, rfl, tyX9_ok, nmX9, rfl, rfl⟩
set_option maxRecDepth 20000 in
theorem cs_X9_120 : CWs RX9 120 yX9_isLetter cX9_isLetter 1 (some .boolean) 1 := ⟨List.forall_mem_cons.mpr ⟨w14 53 rfl, List.forall_mem_cons.mpr ⟨w14 54 rfl, List.forall_mem_cons.mpr ⟨w1 15 rfl, List.forall_mem_cons.mpr ⟨w14 55 rfl, fun _ h => absurd h List.not_mem_nil⟩⟩⟩⟩, by decide, by decide, by decide +kernel⟩
set_option maxRecDepth 20000 in
theorem cs_X9_123 : CWs RX9 123 yX9_isFigure cX9_isFigure 1 (some .boolean) 1 := ⟨List.forall_mem_cons.mpr ⟨w14 56 rfl, List.forall_mem_cons.mpr ⟨w14 57 rfl, List.forall_mem_cons.mpr ⟨w1 15 rfl, List.forall_mem_cons.mpr ⟨w14 58 rfl, fun _ h => absurd h List.not_mem_nil⟩⟩⟩⟩, by decide, by decide, by decide +kernel⟩
set_option maxRecDepth 20000 in
theorem fp_X9_108 : FPk BG RX9 108 9 23 := ⟨fl_X9_108, RX9, TX9, 43, tyX9, rfl, tyX9_ok, nmX9, rfl, rfl⟩
set_option maxRecDepth 20000 in
theorem fp_X9_117 : FPk BG RX9 117 9 24 := ⟨fl_X9_117, RX9, TX9, 43, tyX9, rfl, tyX9_ok, nmX9, rfl, rfl⟩
set_option maxRecDepth 20000 in
theorem cv_X9_146 : CWv RX9 146 RX9 yX9_word cX9_word 4 (some .long) 0 := ⟨List.forall_mem_cons.mpr ⟨w14 59 rfl, List.forall_mem_cons.mpr ⟨w14 60 rfl, List.forall_mem_cons.mpr ⟨w0 33 rfl, List.forall_mem_cons.mpr ⟨w1 15 rfl, List.forall_mem_cons.mpr ⟨w14 61 rfl, fun _ h => absurd h List.not_mem_nil⟩⟩⟩⟩⟩, rfl, by decide, by decide, by decide +kernel⟩
set_option maxRecDepth 20000 in
theorem cv_X9_266 : CWv RX9 266 RX9 yX9_heightBy cX9_heightBy 6 (some .int) 2 := ⟨List.forall_mem_cons.mpr ⟨w16 30 rfl, List.forall_mem_cons.mpr ⟨w16 31 rfl, List.forall_mem_cons.mpr ⟨w0 54 rfl, List.forall_mem_cons.mpr ⟨w1 15 rfl, List.forall_mem_cons.mpr ⟨w16 32 rfl, fun _ h => absurd h List.not_mem_nil⟩⟩⟩⟩⟩, rfl, by decide, by decide, by decide +kernel⟩
set_option maxRecDepth 20000 in
theorem cv_X9_286 : CWv RX9 286 RX9 yX9_layNumbers cX9_layNumbers 2 none 0 := ⟨List.forall_mem_cons.mpr ⟨w16 37 rfl, List.forall_mem_cons.mpr ⟨w16 38 rfl, List.forall_mem_cons.mpr ⟨w0 55 rfl, List.forall_mem_cons.mpr ⟨w1 15 rfl, List.forall_mem_cons.mpr ⟨w16 39 rfl, fun _ h => absurd h List.not_mem_nil⟩⟩⟩⟩⟩, rfl, by decide, by decide, by decide +kernel⟩
set_option maxRecDepth 20000 in
theorem cv_X9_292 : CWv RX9 292 RX9 yX9_fits cX9_fits 6 (some .boolean) 0 := ⟨List.forall_mem_cons.mpr ⟨w16 63 rfl, List.forall_mem_cons.mpr ⟨w17 0 rfl, List.forall_mem_cons.mpr ⟨w0 57 rfl, List.forall_mem_cons.mpr ⟨w1 15 rfl, List.forall_mem_cons.mpr ⟨w17 1 rfl, fun _ h => absurd h List.not_mem_nil⟩⟩⟩⟩⟩, rfl, by decide, by decide, by decide +kernel⟩
set_option maxRecDepth 20000 in
theorem cv_X9_296 : CWv RX9 296 RX9 yX9_nextOrder cX9_nextOrder 6 (some .boolean) 0 := ⟨List.forall_mem_cons.mpr ⟨w17 2 rfl, List.forall_mem_cons.mpr ⟨w17 3 rfl, List.forall_mem_cons.mpr ⟨w0 58 rfl, List.forall_mem_cons.mpr ⟨w1 15 rfl, List.forall_mem_cons.mpr ⟨w17 4 rfl, fun _ h => absurd h List.not_mem_nil⟩⟩⟩⟩⟩, rfl, by decide, by decide, by decide +kernel⟩
set_option maxRecDepth 20000 in
theorem cv_X9_335 : CWv RX9 335 RX9 yX9_began cX9_began 2 none 1 := ⟨List.forall_mem_cons.mpr ⟨w18 7 rfl, List.forall_mem_cons.mpr ⟨w18 8 rfl, List.forall_mem_cons.mpr ⟨w1 2 rfl, List.forall_mem_cons.mpr ⟨w1 15 rfl, List.forall_mem_cons.mpr ⟨w18 9 rfl, fun _ h => absurd h List.not_mem_nil⟩⟩⟩⟩⟩, rfl, by decide, by decide, by decide +kernel⟩
set_option maxRecDepth 20000 in
theorem cv_J0_335 : CWv RJ0 335 RJ0 yJ0_coder_7d493 cJ0_coder_7d493 1 (some .byte) 0 := ⟨List.forall_mem_cons.mpr ⟨w5 58 rfl, List.forall_mem_cons.mpr ⟨w5 59 rfl, List.forall_mem_cons.mpr ⟨w5 60 rfl, List.forall_mem_cons.mpr ⟨w1 17 rfl, List.forall_mem_cons.mpr ⟨w5 61 rfl, fun _ h => absurd h List.not_mem_nil⟩⟩⟩⟩⟩, rfl, by decide, by decide, by decide +kernel⟩
set_option maxRecDepth 20000 in
theorem cv_J0_492 : CWv RJ0 492 RJ0 yJ0_isLatin1_aae02 cJ0_isLatin1_aae02 1 (some .boolean) 0 := ⟨List.forall_mem_cons.mpr ⟨w6 3 rfl, List.forall_mem_cons.mpr ⟨w6 4 rfl, List.forall_mem_cons.mpr ⟨w6 5 rfl, List.forall_mem_cons.mpr ⟨w1 17 rfl, List.forall_mem_cons.mpr ⟨w6 6 rfl, fun _ h => absurd h List.not_mem_nil⟩⟩⟩⟩⟩, rfl, by decide, by decide, by decide +kernel⟩
set_option maxRecDepth 20000 in
theorem cs_J0_495 : CWs RJ0 495 yJ1_charAt_3b067 cJ1_charAt_3b067 2 (some .char) 2 := ⟨List.forall_mem_cons.mpr ⟨w6 7 rfl, List.forall_mem_cons.mpr ⟨w6 8 rfl, List.forall_mem_cons.mpr ⟨w1 18 rfl, List.forall_mem_cons.mpr ⟨w6 9 rfl, fun _ h => absurd h List.not_mem_nil⟩⟩⟩⟩, by decide, by decide, by decide +kernel⟩
set_option maxRecDepth 20000 in
theorem cv_X2_109 : CWv RX2 109 RX2 yX2_shrinkageOf cX2_shrinkageOf 5 (some .int) 3 := ⟨List.forall_mem_cons.mpr ⟨w9 6 rfl, List.forall_mem_cons.mpr ⟨w9 7 rfl, List.forall_mem_cons.mpr ⟨w0 16 rfl, List.forall_mem_cons.mpr ⟨w1 10 rfl, List.forall_mem_cons.mpr ⟨w9 8 rfl, fun _ h => absurd h List.not_mem_nil⟩⟩⟩⟩⟩, rfl, by decide, by decide, by decide +kernel⟩
set_option maxRecDepth 20000 in
theorem cv_X2_113 : CWv RX2 113 RX2 yX2_effectOf cX2_effectOf 5 (some .int) 2 := ⟨List.forall_mem_cons.mpr ⟨w9 12 rfl, List.forall_mem_cons.mpr ⟨w9 13 rfl, List.forall_mem_cons.mpr ⟨w0 18 rfl, List.forall_mem_cons.mpr ⟨w1 10 rfl, List.forall_mem_cons.mpr ⟨w9 14 rfl, fun _ h => absurd h List.not_mem_nil⟩⟩⟩⟩⟩, rfl, by decide, by decide, by decide +kernel⟩
set_option maxRecDepth 20000 in
theorem cs_X2_119 : CWs RX2 119 yX2_heatOfStep cX2_heatOfStep 2 (some .int) 2 := ⟨List.forall_mem_cons.mpr ⟨w9 15 rfl, List.forall_mem_cons.mpr ⟨w9 16 rfl, List.forall_mem_cons.mpr ⟨w1 10 rfl, List.forall_mem_cons.mpr ⟨w9 17 rfl, fun _ h => absurd h List.not_mem_nil⟩⟩⟩⟩, by decide, by decide, by decide +kernel⟩
set_option maxRecDepth 20000 in
theorem cs_X2_122 : CWs RX2 122 yX2_holdOfStep cX2_holdOfStep 1 (some .int) 1 := ⟨List.forall_mem_cons.mpr ⟨w9 18 rfl, List.forall_mem_cons.mpr ⟨w9 19 rfl, List.forall_mem_cons.mpr ⟨w1 10 rfl, List.forall_mem_cons.mpr ⟨w9 20 rfl, fun _ h => absurd h List.not_mem_nil⟩⟩⟩⟩, by decide, by decide, by decide +kernel⟩
set_option maxRecDepth 20000 in
theorem cv_X2_91 : CWv RX2 91 RX2 yX2_freeOne cX2_freeOne 2 none 1 := ⟨List.forall_mem_cons.mpr ⟨w8 55 rfl, List.forall_mem_cons.mpr ⟨w8 56 rfl, List.forall_mem_cons.mpr ⟨w0 11 rfl, List.forall_mem_cons.mpr ⟨w1 10 rfl, List.forall_mem_cons.mpr ⟨w8 57 rfl, fun _ h => absurd h List.not_mem_nil⟩⟩⟩⟩⟩, rfl, by decide, by decide, by decide +kernel⟩
set_option maxRecDepth 20000 in
theorem cv_X2_128 : CWv RX2 128 RX2 yX2_pullOf cX2_pullOf 2 (some .int) 1 := ⟨List.forall_mem_cons.mpr ⟨w11 18 rfl, List.forall_mem_cons.mpr ⟨w9 52 rfl, List.forall_mem_cons.mpr ⟨w9 53 rfl, List.forall_mem_cons.mpr ⟨w1 10 rfl, List.forall_mem_cons.mpr ⟨w9 54 rfl, fun _ h => absurd h List.not_mem_nil⟩⟩⟩⟩⟩, rfl, by decide, by decide, by decide +kernel⟩
set_option maxRecDepth 20000 in
theorem cv_X4_84 : CWv RX4 84 RX7 yX7_atNumber cX7_atNumber 1 (some .boolean) 0 := ⟨List.forall_mem_cons.mpr ⟨w6 37 rfl, List.forall_mem_cons.mpr ⟨w6 38 rfl, List.forall_mem_cons.mpr ⟨w6 39 rfl, List.forall_mem_cons.mpr ⟨w1 8 rfl, List.forall_mem_cons.mpr ⟨w6 40 rfl, fun _ h => absurd h List.not_mem_nil⟩⟩⟩⟩⟩, rfl, by decide, by decide, by decide +kernel⟩
set_option maxRecDepth 20000 in
theorem cv_X4_87 : CWv RX4 87 RX7 yX7_numberHere cX7_numberHere 3 (some .int) 0 := ⟨List.forall_mem_cons.mpr ⟨w6 41 rfl, List.forall_mem_cons.mpr ⟨w6 42 rfl, List.forall_mem_cons.mpr ⟨w6 43 rfl, List.forall_mem_cons.mpr ⟨w1 8 rfl, List.forall_mem_cons.mpr ⟨w6 44 rfl, fun _ h => absurd h List.not_mem_nil⟩⟩⟩⟩⟩, rfl, by decide, by decide, by decide +kernel⟩
set_option maxRecDepth 20000 in
theorem fp_X4_9 : FPk BG RX4 9 4 1 := ⟨fl_X4_9, RX4, TX4, 2, tyX4, rfl, tyX4_ok, nmX4, rfl, rfl⟩
set_option maxRecDepth 20000 in
theorem cv_X4_47 : CWv RX4 47 RX7 yX7_toNext cX7_toNext 1 none 0 := ⟨List.forall_mem_cons.mpr ⟨w6 33 rfl, List.forall_mem_cons.mpr ⟨w5 35 rfl, List.forall_mem_cons.mpr ⟨w5 36 rfl, List.forall_mem_cons.mpr ⟨w1 8 rfl, List.forall_mem_cons.mpr ⟨w5 37 rfl, fun _ h => absurd h List.not_mem_nil⟩⟩⟩⟩⟩, rfl, by decide, by decide, by decide +kernel⟩
set_option maxRecDepth 20000 in
theorem cv_X4_94 : CWv RX4 94 RX7 yX7_atSign cX7_atSign 1 (some .boolean) 0 := ⟨List.forall_mem_cons.mpr ⟨w6 48 rfl, List.forall_mem_cons.mpr ⟨w6 49 rfl, List.forall_mem_cons.mpr ⟨w6 50 rfl, List.forall_mem_cons.mpr ⟨w1 8 rfl, List.forall_mem_cons.mpr ⟨w6 51 rfl, fun _ h => absurd h List.not_mem_nil⟩⟩⟩⟩⟩, rfl, by decide, by decide, by decide +kernel⟩
set_option maxRecDepth 20000 in
theorem cs_X5_84 : CWs RX5 84 yJ7_fill_53178 cJ7_fill_53178 4 none 2 := ⟨List.forall_mem_cons.mpr ⟨w10 40 rfl, List.forall_mem_cons.mpr ⟨w1 39 rfl, List.forall_mem_cons.mpr ⟨w1 7 rfl, List.forall_mem_cons.mpr ⟨w1 40 rfl, fun _ h => absurd h List.not_mem_nil⟩⟩⟩⟩, by decide, by decide, by decide +kernel⟩
set_option maxRecDepth 20000 in
theorem cv_X5_59 : CWv RX5 59 RX3 yX3_mayFollow cX3_mayFollow 3 (some .boolean) 2 := ⟨List.forall_mem_cons.mpr ⟨w10 23 rfl, List.forall_mem_cons.mpr ⟨w10 24 rfl, List.forall_mem_cons.mpr ⟨w10 25 rfl, List.forall_mem_cons.mpr ⟨w1 14 rfl, List.forall_mem_cons.mpr ⟨w10 26 rfl, fun _ h => absurd h List.not_mem_nil⟩⟩⟩⟩⟩, rfl, by decide, by decide, by decide +kernel⟩
set_option maxRecDepth 20000 in
theorem cv_X6_43 : CWv RX6 43 RX6 yX6_findingAt cX6_findingAt 4 (some .int) 3 := ⟨List.forall_mem_cons.mpr ⟨w8 33 rfl, List.forall_mem_cons.mpr ⟨w4 30 rfl, List.forall_mem_cons.mpr ⟨w4 31 rfl, List.forall_mem_cons.mpr ⟨w1 6 rfl, List.forall_mem_cons.mpr ⟨w4 32 rfl, fun _ h => absurd h List.not_mem_nil⟩⟩⟩⟩⟩, rfl, by decide, by decide, by decide +kernel⟩
set_option maxRecDepth 20000 in
theorem cv_X7_28 : CWv RX7 28 RX7 yX7_toNext cX7_toNext 1 none 0 := ⟨List.forall_mem_cons.mpr ⟨w5 34 rfl, List.forall_mem_cons.mpr ⟨w5 35 rfl, List.forall_mem_cons.mpr ⟨w5 36 rfl, List.forall_mem_cons.mpr ⟨w1 8 rfl, List.forall_mem_cons.mpr ⟨w5 37 rfl, fun _ h => absurd h List.not_mem_nil⟩⟩⟩⟩⟩, rfl, by decide, by decide, by decide +kernel⟩
set_option maxRecDepth 20000 in
theorem cv_X7_35 : CWv RX7 35 RJ0 yJ0_length_8abf5 cJ0_length_8abf5 1 (some .int) 0 := ⟨List.forall_mem_cons.mpr ⟨w5 54 rfl, List.forall_mem_cons.mpr ⟨w5 55 rfl, List.forall_mem_cons.mpr ⟨w5 56 rfl, List.forall_mem_cons.mpr ⟨w1 17 rfl, List.forall_mem_cons.mpr ⟨w5 57 rfl, fun _ h => absurd h List.not_mem_nil⟩⟩⟩⟩⟩, rfl, by decide, by decide, by decide +kernel⟩
set_option maxRecDepth 20000 in
theorem cv_X7_41 : CWv RX7 41 RJ0 yJ0_charAt_5068e cJ0_charAt_5068e 2 (some .char) 1 := ⟨List.forall_mem_cons.mpr ⟨w5 63 rfl, List.forall_mem_cons.mpr ⟨w6 0 rfl, List.forall_mem_cons.mpr ⟨w6 1 rfl, List.forall_mem_cons.mpr ⟨w1 17 rfl, List.forall_mem_cons.mpr ⟨w6 2 rfl, fun _ h => absurd h List.not_mem_nil⟩⟩⟩⟩⟩, rfl, by decide, by decide, by decide +kernel⟩
set_option maxRecDepth 20000 in
theorem cv_X8_103 : CWv RX8 103 RX6 yX6_lay cX6_lay 4 none 3 := ⟨List.forall_mem_cons.mpr ⟨w4 18 rfl, List.forall_mem_cons.mpr ⟨w4 19 rfl, List.forall_mem_cons.mpr ⟨w4 20 rfl, List.forall_mem_cons.mpr ⟨w1 6 rfl, List.forall_mem_cons.mpr ⟨w4 21 rfl, fun _ h => absurd h List.not_mem_nil⟩⟩⟩⟩⟩, rfl, by decide, by decide, by decide +kernel⟩
set_option maxRecDepth 20000 in
theorem cv_X8_110 : CWv RX8 110 RX6 yX6_findingAt cX6_findingAt 4 (some .int) 3 := ⟨List.forall_mem_cons.mpr ⟨w4 29 rfl, List.forall_mem_cons.mpr ⟨w4 30 rfl, List.forall_mem_cons.mpr ⟨w4 31 rfl, List.forall_mem_cons.mpr ⟨w1 6 rfl, List.forall_mem_cons.mpr ⟨w4 32 rfl, fun _ h => absurd h List.not_mem_nil⟩⟩⟩⟩⟩, rfl, by decide, by decide, by decide +kernel⟩
set_option maxRecDepth 20000 in
theorem cv_X8_114 : CWv RX8 114 RX6 yX6_put cX6_put 4 (some .int) 3 := ⟨List.forall_mem_cons.mpr ⟨w4 37 rfl, List.forall_mem_cons.mpr ⟨w4 38 rfl, List.forall_mem_cons.mpr ⟨w4 39 rfl, List.forall_mem_cons.mpr ⟨w1 6 rfl, List.forall_mem_cons.mpr ⟨w4 40 rfl, fun _ h => absurd h List.not_mem_nil⟩⟩⟩⟩⟩, rfl, by decide, by decide, by decide +kernel⟩
set_option maxRecDepth 20000 in
theorem cv_X8_117 : CWv RX8 117 RX6 yX6_findingBetween cX6_findingBetween 3 (some .int) 2 := ⟨List.forall_mem_cons.mpr ⟨w4 48 rfl, List.forall_mem_cons.mpr ⟨w4 49 rfl, List.forall_mem_cons.mpr ⟨w4 50 rfl, List.forall_mem_cons.mpr ⟨w1 6 rfl, List.forall_mem_cons.mpr ⟨w4 51 rfl, fun _ h => absurd h List.not_mem_nil⟩⟩⟩⟩⟩, rfl, by decide, by decide, by decide +kernel⟩
set_option maxRecDepth 20000 in
theorem cv_X8_121 : CWv RX8 121 RX6 yX6_carry cX6_carry 6 none 5 := ⟨List.forall_mem_cons.mpr ⟨w4 52 rfl, List.forall_mem_cons.mpr ⟨w4 53 rfl, List.forall_mem_cons.mpr ⟨w4 54 rfl, List.forall_mem_cons.mpr ⟨w1 6 rfl, List.forall_mem_cons.mpr ⟨w4 55 rfl, fun _ h => absurd h List.not_mem_nil⟩⟩⟩⟩⟩, rfl, by decide, by decide, by decide +kernel⟩
set_option maxRecDepth 20000 in
theorem fp_X8_83 : FPk BG RX8 83 8 13 := ⟨fl_X8_83, RX8, TX8, 16, tyX8, rfl, tyX8_ok, nmX8, rfl, rfl⟩
set_option maxRecDepth 20000 in
theorem cs_X8_157 : CWs RX8 157 yJ7_fill_53178 cJ7_fill_53178 4 none 2 := ⟨List.forall_mem_cons.mpr ⟨w7 34 rfl, List.forall_mem_cons.mpr ⟨w1 39 rfl, List.forall_mem_cons.mpr ⟨w1 7 rfl, List.forall_mem_cons.mpr ⟨w1 40 rfl, fun _ h => absurd h List.not_mem_nil⟩⟩⟩⟩, by decide, by decide, by decide +kernel⟩
set_option maxRecDepth 20000 in
theorem cv_X8_175 : CWv RX8 175 RX2 yX2_begin cX2_begin 3 none 2 := ⟨List.forall_mem_cons.mpr ⟨w7 37 rfl, List.forall_mem_cons.mpr ⟨w7 38 rfl, List.forall_mem_cons.mpr ⟨w7 39 rfl, List.forall_mem_cons.mpr ⟨w1 10 rfl, List.forall_mem_cons.mpr ⟨w7 40 rfl, fun _ h => absurd h List.not_mem_nil⟩⟩⟩⟩⟩, rfl, by decide, by decide, by decide +kernel⟩
set_option maxRecDepth 20000 in
theorem cv_X8_179 : CWv RX8 179 RX5 yX5_forget cX5_forget 1 none 0 := ⟨List.forall_mem_cons.mpr ⟨w7 46 rfl, List.forall_mem_cons.mpr ⟨w7 47 rfl, List.forall_mem_cons.mpr ⟨w7 48 rfl, List.forall_mem_cons.mpr ⟨w1 11 rfl, List.forall_mem_cons.mpr ⟨w7 49 rfl, fun _ h => absurd h List.not_mem_nil⟩⟩⟩⟩⟩, rfl, by decide, by decide, by decide +kernel⟩
set_option maxRecDepth 20000 in
theorem cv_X8_182 : CWv RX8 182 RX1 yX1_forget cX1_forget 1 none 0 := ⟨List.forall_mem_cons.mpr ⟨w7 50 rfl, List.forall_mem_cons.mpr ⟨w7 51 rfl, List.forall_mem_cons.mpr ⟨w7 52 rfl, List.forall_mem_cons.mpr ⟨w1 12 rfl, List.forall_mem_cons.mpr ⟨w7 53 rfl, fun _ h => absurd h List.not_mem_nil⟩⟩⟩⟩⟩, rfl, by decide, by decide, by decide +kernel⟩
set_option maxRecDepth 20000 in
theorem cv_X8_183 : CWv RX8 183 RX3 yX3_hasAct cX3_hasAct 2 (some .boolean) 1 := ⟨List.forall_mem_cons.mpr ⟨w7 62 rfl, List.forall_mem_cons.mpr ⟨w7 63 rfl, List.forall_mem_cons.mpr ⟨w8 0 rfl, List.forall_mem_cons.mpr ⟨w1 14 rfl, List.forall_mem_cons.mpr ⟨w8 1 rfl, fun _ h => absurd h List.not_mem_nil⟩⟩⟩⟩⟩, rfl, by decide, by decide, by decide +kernel⟩
set_option maxRecDepth 20000 in
theorem cv_X8_192 : CWv RX8 192 RX3 yX3_isStep cX3_isStep 2 (some .boolean) 1 := ⟨List.forall_mem_cons.mpr ⟨w8 2 rfl, List.forall_mem_cons.mpr ⟨w8 3 rfl, List.forall_mem_cons.mpr ⟨w8 4 rfl, List.forall_mem_cons.mpr ⟨w1 14 rfl, List.forall_mem_cons.mpr ⟨w8 5 rfl, fun _ h => absurd h List.not_mem_nil⟩⟩⟩⟩⟩, rfl, by decide, by decide, by decide +kernel⟩
set_option maxRecDepth 20000 in
theorem cv_X8_202 : CWv RX8 202 RX3 yX3_hasCell cX3_hasCell 2 (some .boolean) 1 := ⟨List.forall_mem_cons.mpr ⟨w8 12 rfl, List.forall_mem_cons.mpr ⟨w8 13 rfl, List.forall_mem_cons.mpr ⟨w8 14 rfl, List.forall_mem_cons.mpr ⟨w1 14 rfl, List.forall_mem_cons.mpr ⟨w8 15 rfl, fun _ h => absurd h List.not_mem_nil⟩⟩⟩⟩⟩, rfl, by decide, by decide, by decide +kernel⟩
set_option maxRecDepth 20000 in
theorem cv_X8_230 : CWv RX8 230 RX2 yX2_heatOf cX2_heatOf 2 (some .int) 1 := ⟨List.forall_mem_cons.mpr ⟨w9 47 rfl, List.forall_mem_cons.mpr ⟨w9 48 rfl, List.forall_mem_cons.mpr ⟨w9 49 rfl, List.forall_mem_cons.mpr ⟨w1 10 rfl, List.forall_mem_cons.mpr ⟨w9 50 rfl, fun _ h => absurd h List.not_mem_nil⟩⟩⟩⟩⟩, rfl, by decide, by decide, by decide +kernel⟩
set_option maxRecDepth 20000 in
theorem cv_X8_239 : CWv RX8 239 RX2 yX2_pullOf cX2_pullOf 2 (some .int) 1 := ⟨List.forall_mem_cons.mpr ⟨w9 51 rfl, List.forall_mem_cons.mpr ⟨w9 52 rfl, List.forall_mem_cons.mpr ⟨w9 53 rfl, List.forall_mem_cons.mpr ⟨w1 10 rfl, List.forall_mem_cons.mpr ⟨w9 54 rfl, fun _ h => absurd h List.not_mem_nil⟩⟩⟩⟩⟩, rfl, by decide, by decide, by decide +kernel⟩
set_option maxRecDepth 20000 in
theorem cs_X8_273 : CWs RX8 273 yJ6_bitCount_0f7a4 cJ6_bitCount_0f7a4 1 (some .int) 1 := ⟨List.forall_mem_cons.mpr ⟨w10 59 rfl, List.forall_mem_cons.mpr ⟨w10 60 rfl, List.forall_mem_cons.mpr ⟨w1 22 rfl, List.forall_mem_cons.mpr ⟨w10 61 rfl, fun _ h => absurd h List.not_mem_nil⟩⟩⟩⟩, by decide, by decide, by decide +kernel⟩
set_option maxRecDepth 20000 in
theorem cv_X8_278 : CWv RX8 278 RX8 yX8_drawDown cX8_drawDown 5 (some .boolean) 3 := ⟨List.forall_mem_cons.mpr ⟨w11 1 rfl, List.forall_mem_cons.mpr ⟨w11 2 rfl, List.forall_mem_cons.mpr ⟨w0 22 rfl, List.forall_mem_cons.mpr ⟨w1 5 rfl, List.forall_mem_cons.mpr ⟨w11 3 rfl, fun _ h => absurd h List.not_mem_nil⟩⟩⟩⟩⟩, rfl, by decide, by decide, by decide +kernel⟩
set_option maxRecDepth 20000 in
theorem cv_X8_312 : CWv RX8 312 RX3 yX3_stepKind cX3_stepKind 2 (some .int) 1 := ⟨List.forall_mem_cons.mpr ⟨w11 45 rfl, List.forall_mem_cons.mpr ⟨w11 46 rfl, List.forall_mem_cons.mpr ⟨w11 47 rfl, List.forall_mem_cons.mpr ⟨w1 14 rfl, List.forall_mem_cons.mpr ⟨w11 48 rfl, fun _ h => absurd h List.not_mem_nil⟩⟩⟩⟩⟩, rfl, by decide, by decide, by decide +kernel⟩
set_option maxRecDepth 20000 in
theorem cs_X8_315 : CWs RX8 315 yX0_hasKind cX0_hasKind 1 (some .boolean) 1 := ⟨List.forall_mem_cons.mpr ⟨w11 53 rfl, List.forall_mem_cons.mpr ⟨w11 54 rfl, List.forall_mem_cons.mpr ⟨w1 13 rfl, List.forall_mem_cons.mpr ⟨w11 55 rfl, fun _ h => absurd h List.not_mem_nil⟩⟩⟩⟩, by decide, by decide, by decide +kernel⟩
set_option maxRecDepth 20000 in
theorem cs_X8_318 : CWs RX8 318 yX0_isOfKind cX0_isOfKind 4 (some .boolean) 2 := ⟨List.forall_mem_cons.mpr ⟨w11 56 rfl, List.forall_mem_cons.mpr ⟨w11 57 rfl, List.forall_mem_cons.mpr ⟨w1 13 rfl, List.forall_mem_cons.mpr ⟨w11 58 rfl, fun _ h => absurd h List.not_mem_nil⟩⟩⟩⟩, by decide, by decide, by decide +kernel⟩
set_option maxRecDepth 20000 in
theorem cs_X9_85 : CWs RX9 85 yX9_isSheet cX9_isSheet 1 (some .boolean) 1 := ⟨List.forall_mem_cons.mpr ⟨w14 10 rfl, List.forall_mem_cons.mpr ⟨w14 11 rfl, List.forall_mem_cons.mpr ⟨w1 15 rfl, List.forall_mem_cons.mpr ⟨w14 12 rfl, fun _ h => absurd h List.not_mem_nil⟩⟩⟩⟩, by decide, by decide, by decide +kernel⟩
set_option maxRecDepth 20000 in
theorem cv_X9_92 : CWv RX9 92 RX9 yX9_finding cX9_finding 2 (some .int) 1 := ⟨List.forall_mem_cons.mpr ⟨w14 19 rfl, List.forall_mem_cons.mpr ⟨w14 20 rfl, List.forall_mem_cons.mpr ⟨w0 30 rfl, List.forall_mem_cons.mpr ⟨w1 15 rfl, List.forall_mem_cons.mpr ⟨w14 21 rfl, fun _ h => absurd h List.not_mem_nil⟩⟩⟩⟩⟩, rfl, by decide, by decide, by decide +kernel⟩
set_option maxRecDepth 20000 in
theorem cv_X9_139 : CWv RX9 139 RX9 yX9_next cX9_next 2 none 0 := ⟨List.forall_mem_cons.mpr ⟨w14 46 rfl, List.forall_mem_cons.mpr ⟨w14 47 rfl, List.forall_mem_cons.mpr ⟨w0 31 rfl, List.forall_mem_cons.mpr ⟨w1 15 rfl, List.forall_mem_cons.mpr ⟨w14 48 rfl, fun _ h => absurd h List.not_mem_nil⟩⟩⟩⟩⟩, rfl, by decide, by decide, by decide +kernel⟩
set_option maxRecDepth 20000 in
theorem cv_X9_135 : CWv RX9 135 RX9 yX9_bad cX9_bad 2 none 1 := ⟨List.forall_mem_cons.mpr ⟨w15 2 rfl, List.forall_mem_cons.mpr ⟨w15 3 rfl, List.forall_mem_cons.mpr ⟨w0 35 rfl, List.forall_mem_cons.mpr ⟨w1 15 rfl, List.forall_mem_cons.mpr ⟨w15 4 rfl, fun _ h => absurd h List.not_mem_nil⟩⟩⟩⟩⟩, rfl, by decide, by decide, by decide +kernel⟩
set_option maxRecDepth 20000 in
theorem cv_X9_228 : CWv RX9 228 RX9 yX9_isAct cX9_isAct 2 (some .boolean) 1 := ⟨List.forall_mem_cons.mpr ⟨w15 44 rfl, List.forall_mem_cons.mpr ⟨w15 45 rfl, List.forall_mem_cons.mpr ⟨w0 42 rfl, List.forall_mem_cons.mpr ⟨w1 15 rfl, List.forall_mem_cons.mpr ⟨w15 46 rfl, fun _ h => absurd h List.not_mem_nil⟩⟩⟩⟩⟩, rfl, by decide, by decide, by decide +kernel⟩
set_option maxRecDepth 20000 in
theorem cv_X9_233 : CWv RX9 233 RX9 yX9_isCell cX9_isCell 2 (some .boolean) 1 := ⟨List.forall_mem_cons.mpr ⟨w15 52 rfl, List.forall_mem_cons.mpr ⟨w15 53 rfl, List.forall_mem_cons.mpr ⟨w0 43 rfl, List.forall_mem_cons.mpr ⟨w1 15 rfl, List.forall_mem_cons.mpr ⟨w15 54 rfl, fun _ h => absurd h List.not_mem_nil⟩⟩⟩⟩⟩, rfl, by decide, by decide, by decide +kernel⟩
set_option maxRecDepth 20000 in
theorem cv_X9_289 : CWv RX9 289 RX9 yX9_layStanding cX9_layStanding 2 none 0 := ⟨List.forall_mem_cons.mpr ⟨w16 44 rfl, List.forall_mem_cons.mpr ⟨w16 45 rfl, List.forall_mem_cons.mpr ⟨w0 56 rfl, List.forall_mem_cons.mpr ⟨w1 15 rfl, List.forall_mem_cons.mpr ⟨w16 46 rfl, fun _ h => absurd h List.not_mem_nil⟩⟩⟩⟩⟩, rfl, by decide, by decide, by decide +kernel⟩
set_option maxRecDepth 20000 in
theorem cv_X9_304 : CWv RX9 304 RX9 yX9_flame cX9_flame 4 none 2 := ⟨List.forall_mem_cons.mpr ⟨w17 21 rfl, List.forall_mem_cons.mpr ⟨w17 22 rfl, List.forall_mem_cons.mpr ⟨w0 60 rfl, List.forall_mem_cons.mpr ⟨w1 15 rfl, List.forall_mem_cons.mpr ⟨w17 23 rfl, fun _ h => absurd h List.not_mem_nil⟩⟩⟩⟩⟩, rfl, by decide, by decide, by decide +kernel⟩
set_option maxRecDepth 20000 in
theorem cv_X9_319 : CWv RX9 319 RX9 yX9_bendBy cX9_bendBy 4 (some .int) 2 := ⟨List.forall_mem_cons.mpr ⟨w17 43 rfl, List.forall_mem_cons.mpr ⟨w17 44 rfl, List.forall_mem_cons.mpr ⟨w0 62 rfl, List.forall_mem_cons.mpr ⟨w1 15 rfl, List.forall_mem_cons.mpr ⟨w17 45 rfl, fun _ h => absurd h List.not_mem_nil⟩⟩⟩⟩⟩, rfl, by decide, by decide, by decide +kernel⟩
set_option maxRecDepth 20000 in
theorem cv_X9_338 : CWv RX9 338 RX9 yX9_flameSize cX9_flameSize 2 (some .int) 1 := ⟨List.forall_mem_cons.mpr ⟨w18 4 rfl, List.forall_mem_cons.mpr ⟨w18 5 rfl, List.forall_mem_cons.mpr ⟨w1 1 rfl, List.forall_mem_cons.mpr ⟨w1 15 rfl, List.forall_mem_cons.mpr ⟨w18 6 rfl, fun _ h => absurd h List.not_mem_nil⟩⟩⟩⟩⟩, rfl, by decide, by decide, by decide +kernel⟩
set_option maxRecDepth 20000 in
theorem cv_X2_78 : CWv RX2 78 RX3 yX3_firstAct cX3_firstAct 2 (some .int) 1 := ⟨List.forall_mem_cons.mpr ⟨w8 47 rfl, List.forall_mem_cons.mpr ⟨w8 48 rfl, List.forall_mem_cons.mpr ⟨w8 49 rfl, List.forall_mem_cons.mpr ⟨w1 14 rfl, List.forall_mem_cons.mpr ⟨w8 50 rfl, fun _ h => absurd h List.not_mem_nil⟩⟩⟩⟩⟩, rfl, by decide, by decide, by decide +kernel⟩
set_option maxRecDepth 20000 in
theorem cv_X2_82 : CWv RX2 82 RX3 yX3_endOfActs cX3_endOfActs 2 (some .int) 1 := ⟨List.forall_mem_cons.mpr ⟨w8 51 rfl, List.forall_mem_cons.mpr ⟨w8 52 rfl, List.forall_mem_cons.mpr ⟨w8 53 rfl, List.forall_mem_cons.mpr ⟨w1 14 rfl, List.forall_mem_cons.mpr ⟨w8 54 rfl, fun _ h => absurd h List.not_mem_nil⟩⟩⟩⟩⟩, rfl, by decide, by decide, by decide +kernel⟩
set_option maxRecDepth 20000 in
theorem cv_X2_98 : CWv RX2 98 RX2 yX2_doStep cX2_doStep 5 none 3 := ⟨List.forall_mem_cons.mpr ⟨w9 0 rfl, List.forall_mem_cons.mpr ⟨w9 1 rfl, List.forall_mem_cons.mpr ⟨w0 14 rfl, List.forall_mem_cons.mpr ⟨w1 10 rfl, List.forall_mem_cons.mpr ⟨w9 2 rfl, fun _ h => absurd h List.not_mem_nil⟩⟩⟩⟩⟩, rfl, by decide, by decide, by decide +kernel⟩
set_option maxRecDepth 20000 in
theorem cv_X4_77 : CWv RX4 77 RX3 yX3_addAct cX3_addAct 4 none 3 := ⟨List.forall_mem_cons.mpr ⟨w6 63 rfl, List.forall_mem_cons.mpr ⟨w7 0 rfl, List.forall_mem_cons.mpr ⟨w7 1 rfl, List.forall_mem_cons.mpr ⟨w1 14 rfl, List.forall_mem_cons.mpr ⟨w7 2 rfl, fun _ h => absurd h List.not_mem_nil⟩⟩⟩⟩⟩, rfl, by decide, by decide, by decide +kernel⟩
set_option maxRecDepth 20000 in
theorem cv_X4_50 : CWv RX4 50 RX4 yX4_takeNumber cX4_takeNumber 3 (some .int) 2 := ⟨List.forall_mem_cons.mpr ⟨w6 34 rfl, List.forall_mem_cons.mpr ⟨w6 35 rfl, List.forall_mem_cons.mpr ⟨w0 4 rfl, List.forall_mem_cons.mpr ⟨w1 9 rfl, List.forall_mem_cons.mpr ⟨w6 36 rfl, fun _ h => absurd h List.not_mem_nil⟩⟩⟩⟩⟩, rfl, by decide, by decide, by decide +kernel⟩
set_option maxRecDepth 20000 in
theorem cv_X4_90 : CWv RX4 90 RX3 yX3_addBefore cX3_addBefore 3 none 2 := ⟨List.forall_mem_cons.mpr ⟨w7 10 rfl, List.forall_mem_cons.mpr ⟨w7 11 rfl, List.forall_mem_cons.mpr ⟨w7 12 rfl, List.forall_mem_cons.mpr ⟨w1 14 rfl, List.forall_mem_cons.mpr ⟨w7 13 rfl, fun _ h => absurd h List.not_mem_nil⟩⟩⟩⟩⟩, rfl, by decide, by decide, by decide +kernel⟩
set_option maxRecDepth 20000 in
theorem cv_X4_57 : CWv RX4 57 RX4 yX4_takeSign cX4_takeSign 1 (some .int) 0 := ⟨List.forall_mem_cons.mpr ⟨w6 45 rfl, List.forall_mem_cons.mpr ⟨w6 46 rfl, List.forall_mem_cons.mpr ⟨w0 5 rfl, List.forall_mem_cons.mpr ⟨w1 9 rfl, List.forall_mem_cons.mpr ⟨w6 47 rfl, fun _ h => absurd h List.not_mem_nil⟩⟩⟩⟩⟩, rfl, by decide, by decide, by decide +kernel⟩
set_option maxRecDepth 20000 in
theorem cv_X5_71 : CWv RX5 71 RX2 yX2_freeAll cX2_freeAll 2 none 0 := ⟨List.forall_mem_cons.mpr ⟨w10 20 rfl, List.forall_mem_cons.mpr ⟨w9 22 rfl, List.forall_mem_cons.mpr ⟨w9 23 rfl, List.forall_mem_cons.mpr ⟨w1 10 rfl, List.forall_mem_cons.mpr ⟨w9 24 rfl, fun _ h => absurd h List.not_mem_nil⟩⟩⟩⟩⟩, rfl, by decide, by decide, by decide +kernel⟩
set_option maxRecDepth 20000 in
theorem cv_X5_74 : CWv RX5 74 RX2 yX2_off cX2_off 6 (some .int) 0 := ⟨List.forall_mem_cons.mpr ⟨w10 21 rfl, List.forall_mem_cons.mpr ⟨w9 26 rfl, List.forall_mem_cons.mpr ⟨w9 27 rfl, List.forall_mem_cons.mpr ⟨w1 10 rfl, List.forall_mem_cons.mpr ⟨w9 28 rfl, fun _ h => absurd h List.not_mem_nil⟩⟩⟩⟩⟩, rfl, by decide, by decide, by decide +kernel⟩
set_option maxRecDepth 20000 in
theorem fp_X5_31 : FPk BG RX5 31 5 5 := ⟨fl_X5_31, RX5, TX5, 7, tyX5, rfl, tyX5_ok, nmX5, rfl, rfl⟩
set_option maxRecDepth 20000 in
theorem fp_X5_34 : FPk BG RX5 34 5 6 := ⟨fl_X5_34, RX5, TX5, 7, tyX5, rfl, tyX5_ok, nmX5, rfl, rfl⟩
set_option maxRecDepth 20000 in
theorem cy_X5_78 : cpyW RX5 78 := List.forall_mem_cons.mpr ⟨w10 22 rfl, List.forall_mem_cons.mpr ⟨w4 58 rfl, List.forall_mem_cons.mpr ⟨w4 57 rfl, List.forall_mem_cons.mpr ⟨w1 16 rfl, fun _ h => absurd h List.not_mem_nil⟩⟩⟩⟩
set_option maxRecDepth 20000 in
theorem cv_X6_47 : CWv RX6 47 RX6 yX6_itemAt cX6_itemAt 3 (some .int) 2 := ⟨List.forall_mem_cons.mpr ⟨w8 29 rfl, List.forall_mem_cons.mpr ⟨w8 30 rfl, List.forall_mem_cons.mpr ⟨w8 31 rfl, List.forall_mem_cons.mpr ⟨w1 6 rfl, List.forall_mem_cons.mpr ⟨w8 32 rfl, fun _ h => absurd h List.not_mem_nil⟩⟩⟩⟩⟩, rfl, by decide, by decide, by decide +kernel⟩
set_option maxRecDepth 20000 in
theorem cs_X7_73 : CWs RX7 73 yX7_spelling cX7_spelling 1 (Option.some (.object "java/lang/String")) 1 := ⟨List.forall_mem_cons.mpr ⟨w5 48 rfl, List.forall_mem_cons.mpr ⟨w5 49 rfl, List.forall_mem_cons.mpr ⟨w1 8 rfl, List.forall_mem_cons.mpr ⟨w5 50 rfl, fun _ h => absurd h List.not_mem_nil⟩⟩⟩⟩, by decide, by decide, by decide +kernel⟩
set_option maxRecDepth 20000 in
theorem cv_X7_77 : CWv RX7 77 RX7 yX7_spells cX7_spells 3 (some .boolean) 1 := ⟨List.forall_mem_cons.mpr ⟨w5 51 rfl, List.forall_mem_cons.mpr ⟨w5 52 rfl, List.forall_mem_cons.mpr ⟨w0 3 rfl, List.forall_mem_cons.mpr ⟨w1 8 rfl, List.forall_mem_cons.mpr ⟨w5 53 rfl, fun _ h => absurd h List.not_mem_nil⟩⟩⟩⟩⟩, rfl, by decide, by decide, by decide +kernel⟩
set_option maxRecDepth 20000 in
theorem cv_X8_264 : CWv RX8 264 RX5 yX5_howManyFit cX5_howManyFit 5 (some .int) 1 := ⟨List.forall_mem_cons.mpr ⟨w10 36 rfl, List.forall_mem_cons.mpr ⟨w10 37 rfl, List.forall_mem_cons.mpr ⟨w10 38 rfl, List.forall_mem_cons.mpr ⟨w1 11 rfl, List.forall_mem_cons.mpr ⟨w10 39 rfl, fun _ h => absurd h List.not_mem_nil⟩⟩⟩⟩⟩, rfl, by decide, by decide, by decide +kernel⟩
set_option maxRecDepth 20000 in
theorem cv_X8_296 : CWv RX8 296 RX2 yX2_firstAbove cX2_firstAbove 3 (some .int) 1 := ⟨List.forall_mem_cons.mpr ⟨w11 14 rfl, List.forall_mem_cons.mpr ⟨w11 15 rfl, List.forall_mem_cons.mpr ⟨w11 16 rfl, List.forall_mem_cons.mpr ⟨w1 10 rfl, List.forall_mem_cons.mpr ⟨w11 17 rfl, fun _ h => absurd h List.not_mem_nil⟩⟩⟩⟩⟩, rfl, by decide, by decide, by decide +kernel⟩
set_option maxRecDepth 20000 in
theorem cv_X8_217 : CWv RX8 217 RX6 yX6_itemAt cX6_itemAt 3 (some .int) 2 := ⟨List.forall_mem_cons.mpr ⟨w8 34 rfl, List.forall_mem_cons.mpr ⟨w8 30 rfl, List.forall_mem_cons.mpr ⟨w8 31 rfl, List.forall_mem_cons.mpr ⟨w1 6 rfl, List.forall_mem_cons.mpr ⟨w8 32 rfl, fun _ h => absurd h List.not_mem_nil⟩⟩⟩⟩⟩, rfl, by decide, by decide, by decide +kernel⟩
set_option maxRecDepth 20000 in
theorem cv_X9_142 : CWv RX9 142 RX9 yX9_must cX9_must 2 none 1 := ⟨List.forall_mem_cons.mpr ⟨w14 63 rfl, List.forall_mem_cons.mpr ⟨w15 0 rfl, List.forall_mem_cons.mpr ⟨w0 34 rfl, List.forall_mem_cons.mpr ⟨w1 15 rfl, List.forall_mem_cons.mpr ⟨w15 1 rfl, fun _ h => absurd h List.not_mem_nil⟩⟩⟩⟩⟩, rfl, by decide, by decide, by decide +kernel⟩
set_option maxRecDepth 20000 in
theorem cv_X9_243 : CWv RX9 243 RX9 yX9_holds cX9_holds 2 (some .boolean) 1 := ⟨List.forall_mem_cons.mpr ⟨w16 21 rfl, List.forall_mem_cons.mpr ⟨w16 22 rfl, List.forall_mem_cons.mpr ⟨w0 51 rfl, List.forall_mem_cons.mpr ⟨w1 15 rfl, List.forall_mem_cons.mpr ⟨w16 23 rfl, fun _ h => absurd h List.not_mem_nil⟩⟩⟩⟩⟩, rfl, by decide, by decide, by decide +kernel⟩
set_option maxRecDepth 20000 in
theorem cv_X9_310 : CWv RX9 310 RX9 yX9_crackAt cX9_crackAt 3 (some .int) 1 := ⟨List.forall_mem_cons.mpr ⟨w17 29 rfl, List.forall_mem_cons.mpr ⟨w17 30 rfl, List.forall_mem_cons.mpr ⟨w0 61 rfl, List.forall_mem_cons.mpr ⟨w1 15 rfl, List.forall_mem_cons.mpr ⟨w17 31 rfl, fun _ h => absurd h List.not_mem_nil⟩⟩⟩⟩⟩, rfl, by decide, by decide, by decide +kernel⟩
set_option maxRecDepth 20000 in
theorem cv_X9_325 : CWv RX9 325 RX9 yX9_isStep cX9_isStep 2 (some .boolean) 1 := ⟨List.forall_mem_cons.mpr ⟨w17 50 rfl, List.forall_mem_cons.mpr ⟨w17 51 rfl, List.forall_mem_cons.mpr ⟨w0 63 rfl, List.forall_mem_cons.mpr ⟨w1 15 rfl, List.forall_mem_cons.mpr ⟨w17 52 rfl, fun _ h => absurd h List.not_mem_nil⟩⟩⟩⟩⟩, rfl, by decide, by decide, by decide +kernel⟩
set_option maxRecDepth 20000 in
theorem cs_X9_328 : CWs RX9 328 yX9_isOf cX9_isOf 2 (some .boolean) 2 := ⟨List.forall_mem_cons.mpr ⟨w17 57 rfl, List.forall_mem_cons.mpr ⟨w17 58 rfl, List.forall_mem_cons.mpr ⟨w1 15 rfl, List.forall_mem_cons.mpr ⟨w17 59 rfl, fun _ h => absurd h List.not_mem_nil⟩⟩⟩⟩, by decide, by decide, by decide +kernel⟩
set_option maxRecDepth 20000 in
theorem cv_X9_341 : CWv RX9 341 RX9 yX9_markOf cX9_markOf 3 (some .int) 2 := ⟨List.forall_mem_cons.mpr ⟨w18 10 rfl, List.forall_mem_cons.mpr ⟨w18 11 rfl, List.forall_mem_cons.mpr ⟨w1 3 rfl, List.forall_mem_cons.mpr ⟨w1 15 rfl, List.forall_mem_cons.mpr ⟨w18 12 rfl, fun _ h => absurd h List.not_mem_nil⟩⟩⟩⟩⟩, rfl, by decide, by decide, by decide +kernel⟩
set_option maxRecDepth 20000 in
theorem cv_X2_64 : CWv RX2 64 RX2 yX2_begin cX2_begin 3 none 2 := ⟨List.forall_mem_cons.mpr ⟨w8 42 rfl, List.forall_mem_cons.mpr ⟨w7 38 rfl, List.forall_mem_cons.mpr ⟨w7 39 rfl, List.forall_mem_cons.mpr ⟨w1 10 rfl, List.forall_mem_cons.mpr ⟨w7 40 rfl, fun _ h => absurd h List.not_mem_nil⟩⟩⟩⟩⟩, rfl, by decide, by decide, by decide +kernel⟩
set_option maxRecDepth 20000 in
theorem cv_X2_75 : CWv RX2 75 RX2 yX2_freeAll cX2_freeAll 2 none 0 := ⟨List.forall_mem_cons.mpr ⟨w9 21 rfl, List.forall_mem_cons.mpr ⟨w9 22 rfl, List.forall_mem_cons.mpr ⟨w9 23 rfl, List.forall_mem_cons.mpr ⟨w1 10 rfl, List.forall_mem_cons.mpr ⟨w9 24 rfl, fun _ h => absurd h List.not_mem_nil⟩⟩⟩⟩⟩, rfl, by decide, by decide, by decide +kernel⟩
set_option maxRecDepth 20000 in
theorem cv_X2_71 : CWv RX2 71 RX2 yX2_doSeam cX2_doSeam 5 none 2 := ⟨List.forall_mem_cons.mpr ⟨w8 43 rfl, List.forall_mem_cons.mpr ⟨w8 44 rfl, List.forall_mem_cons.mpr ⟨w8 45 rfl, List.forall_mem_cons.mpr ⟨w1 10 rfl, List.forall_mem_cons.mpr ⟨w8 46 rfl, fun _ h => absurd h List.not_mem_nil⟩⟩⟩⟩⟩, rfl, by decide, by decide, by decide +kernel⟩
set_option maxRecDepth 20000 in
theorem cv_X4_33 : CWv RX4 33 RX7 yX7_atWord cX7_atWord 2 (some .boolean) 1 := ⟨List.forall_mem_cons.mpr ⟨w5 44 rfl, List.forall_mem_cons.mpr ⟨w5 45 rfl, List.forall_mem_cons.mpr ⟨w5 46 rfl, List.forall_mem_cons.mpr ⟨w1 8 rfl, List.forall_mem_cons.mpr ⟨w5 47 rfl, fun _ h => absurd h List.not_mem_nil⟩⟩⟩⟩⟩, rfl, by decide, by decide, by decide +kernel⟩
set_option maxRecDepth 20000 in
theorem fpn_X4_54 : FPn BG RX4 54 3 0 := ⟨fn_X4_54, RX3, TX3, 10, tyX3, rfl, tyX3_ok, nmX3, rfl, rfl⟩
set_option maxRecDepth 20000 in
theorem cv_X5_55 : CWv RX5 55 RX5 yX5_weigh cX5_weigh 4 none 2 := ⟨List.forall_mem_cons.mpr ⟨w10 17 rfl, List.forall_mem_cons.mpr ⟨w10 18 rfl, List.forall_mem_cons.mpr ⟨w0 20 rfl, List.forall_mem_cons.mpr ⟨w1 11 rfl, List.forall_mem_cons.mpr ⟨w10 19 rfl, fun _ h => absurd h List.not_mem_nil⟩⟩⟩⟩⟩, rfl, by decide, by decide, by decide +kernel⟩
set_option maxRecDepth 20000 in
theorem cv_X5_63 : CWv RX5 63 RX2 yX2_becomeAs cX2_becomeAs 2 none 1 := ⟨List.forall_mem_cons.mpr ⟨w10 27 rfl, List.forall_mem_cons.mpr ⟨w10 28 rfl, List.forall_mem_cons.mpr ⟨w10 29 rfl, List.forall_mem_cons.mpr ⟨w1 10 rfl, List.forall_mem_cons.mpr ⟨w10 30 rfl, fun _ h => absurd h List.not_mem_nil⟩⟩⟩⟩⟩, rfl, by decide, by decide, by decide +kernel⟩
set_option maxRecDepth 20000 in
theorem cv_X5_67 : CWv RX5 67 RX2 yX2_doSeam cX2_doSeam 5 none 2 := ⟨List.forall_mem_cons.mpr ⟨w10 31 rfl, List.forall_mem_cons.mpr ⟨w8 44 rfl, List.forall_mem_cons.mpr ⟨w8 45 rfl, List.forall_mem_cons.mpr ⟨w1 10 rfl, List.forall_mem_cons.mpr ⟨w8 46 rfl, fun _ h => absurd h List.not_mem_nil⟩⟩⟩⟩⟩, rfl, by decide, by decide, by decide +kernel⟩
set_option maxRecDepth 20000 in
theorem cv_X5_48 : CWv RX5 48 RX5 yX5_tryFrom cX5_tryFrom 5 none 3 := ⟨List.forall_mem_cons.mpr ⟨w10 14 rfl, List.forall_mem_cons.mpr ⟨w10 15 rfl, List.forall_mem_cons.mpr ⟨w0 19 rfl, List.forall_mem_cons.mpr ⟨w1 11 rfl, List.forall_mem_cons.mpr ⟨w10 16 rfl, fun _ h => absurd h List.not_mem_nil⟩⟩⟩⟩⟩, rfl, by decide, by decide, by decide +kernel⟩
set_option maxRecDepth 20000 in
theorem cv_X7_81 : CWv RX7 81 RX7 yX7_atWord cX7_atWord 2 (some .boolean) 1 := ⟨List.forall_mem_cons.mpr ⟨w6 59 rfl, List.forall_mem_cons.mpr ⟨w5 45 rfl, List.forall_mem_cons.mpr ⟨w5 46 rfl, List.forall_mem_cons.mpr ⟨w1 8 rfl, List.forall_mem_cons.mpr ⟨w5 47 rfl, fun _ h => absurd h List.not_mem_nil⟩⟩⟩⟩⟩, rfl, by decide, by decide, by decide +kernel⟩
set_option maxRecDepth 20000 in
theorem cv_X8_306 : CWv RX8 306 RX8 yX8_wireBend cX8_wireBend 7 (some .int) 3 := ⟨List.forall_mem_cons.mpr ⟨w11 38 rfl, List.forall_mem_cons.mpr ⟨w11 39 rfl, List.forall_mem_cons.mpr ⟨w0 26 rfl, List.forall_mem_cons.mpr ⟨w1 5 rfl, List.forall_mem_cons.mpr ⟨w11 40 rfl, fun _ h => absurd h List.not_mem_nil⟩⟩⟩⟩⟩, rfl, by decide, by decide, by decide +kernel⟩
set_option maxRecDepth 20000 in
theorem fp_X9_170 : FPk BG RX9 170 9 14 := ⟨fl_X9_170, RX9, TX9, 43, tyX9, rfl, tyX9_ok, nmX9, rfl, rfl⟩
set_option maxRecDepth 20000 in
theorem cv_X9_173 : CWv RX9 173 RX9 yX9_numberIn cX9_numberIn 6 (some .int) 3 := ⟨List.forall_mem_cons.mpr ⟨w15 5 rfl, List.forall_mem_cons.mpr ⟨w15 6 rfl, List.forall_mem_cons.mpr ⟨w0 36 rfl, List.forall_mem_cons.mpr ⟨w1 15 rfl, List.forall_mem_cons.mpr ⟨w15 7 rfl, fun _ h => absurd h List.not_mem_nil⟩⟩⟩⟩⟩, rfl, by decide, by decide, by decide +kernel⟩
set_option maxRecDepth 20000 in
theorem cv_X9_190 : CWv RX9 190 RX9 yX9_mustEnd cX9_mustEnd 1 none 0 := ⟨List.forall_mem_cons.mpr ⟨w15 8 rfl, List.forall_mem_cons.mpr ⟨w15 9 rfl, List.forall_mem_cons.mpr ⟨w0 37 rfl, List.forall_mem_cons.mpr ⟨w1 15 rfl, List.forall_mem_cons.mpr ⟨w15 10 rfl, fun _ h => absurd h List.not_mem_nil⟩⟩⟩⟩⟩, rfl, by decide, by decide, by decide +kernel⟩
set_option maxRecDepth 20000 in
theorem fp_X9_193 : FPk BG RX9 193 9 15 := ⟨fl_X9_193, RX9, TX9, 43, tyX9, rfl, tyX9_ok, nmX9, rfl, rfl⟩
set_option maxRecDepth 20000 in
theorem cv_X9_246 : CWv RX9 246 RX9 yX9_shrinks cX9_shrinks 5 (some .int) 3 := ⟨List.forall_mem_cons.mpr ⟨w16 18 rfl, List.forall_mem_cons.mpr ⟨w16 19 rfl, List.forall_mem_cons.mpr ⟨w0 50 rfl, List.forall_mem_cons.mpr ⟨w1 15 rfl, List.forall_mem_cons.mpr ⟨w16 20 rfl, fun _ h => absurd h List.not_mem_nil⟩⟩⟩⟩⟩, rfl, by decide, by decide, by decide +kernel⟩
set_option maxRecDepth 20000 in
theorem cv_X9_249 : CWv RX9 249 RX9 yX9_minute cX9_minute 2 none 0 := ⟨List.forall_mem_cons.mpr ⟨w16 9 rfl, List.forall_mem_cons.mpr ⟨w16 10 rfl, List.forall_mem_cons.mpr ⟨w0 47 rfl, List.forall_mem_cons.mpr ⟨w1 15 rfl, List.forall_mem_cons.mpr ⟨w16 11 rfl, fun _ h => absurd h List.not_mem_nil⟩⟩⟩⟩⟩, rfl, by decide, by decide, by decide +kernel⟩
set_option maxRecDepth 20000 in
theorem cv_X9_344 : CWv RX9 344 RX9 yX9_sizeOf cX9_sizeOf 5 (some .int) 2 := ⟨List.forall_mem_cons.mpr ⟨w18 1 rfl, List.forall_mem_cons.mpr ⟨w18 2 rfl, List.forall_mem_cons.mpr ⟨w1 0 rfl, List.forall_mem_cons.mpr ⟨w1 15 rfl, List.forall_mem_cons.mpr ⟨w18 3 rfl, fun _ h => absurd h List.not_mem_nil⟩⟩⟩⟩⟩, rfl, by decide, by decide, by decide +kernel⟩
set_option maxRecDepth 20000 in
theorem cs_X1_23 : CWs RX1 23 yJ7_fill_53178 cJ7_fill_53178 4 none 2 := ⟨List.forall_mem_cons.mpr ⟨w10 50 rfl, List.forall_mem_cons.mpr ⟨w1 39 rfl, List.forall_mem_cons.mpr ⟨w1 7 rfl, List.forall_mem_cons.mpr ⟨w1 40 rfl, fun _ h => absurd h List.not_mem_nil⟩⟩⟩⟩, by decide, by decide, by decide +kernel⟩
set_option maxRecDepth 20000 in
theorem cv_X1_32 : CWv RX1 32 RX2 yX2_go cX2_go 6 none 4 := ⟨List.forall_mem_cons.mpr ⟨w10 51 rfl, List.forall_mem_cons.mpr ⟨w8 39 rfl, List.forall_mem_cons.mpr ⟨w8 40 rfl, List.forall_mem_cons.mpr ⟨w1 10 rfl, List.forall_mem_cons.mpr ⟨w8 41 rfl, fun _ h => absurd h List.not_mem_nil⟩⟩⟩⟩⟩, rfl, by decide, by decide, by decide +kernel⟩
set_option maxRecDepth 20000 in
theorem cv_X1_38 : CWv RX1 38 RX1 yX1_keepWhereFlat cX1_keepWhereFlat 4 none 2 := ⟨List.forall_mem_cons.mpr ⟨w10 52 rfl, List.forall_mem_cons.mpr ⟨w10 53 rfl, List.forall_mem_cons.mpr ⟨w0 21 rfl, List.forall_mem_cons.mpr ⟨w1 12 rfl, List.forall_mem_cons.mpr ⟨w10 54 rfl, fun _ h => absurd h List.not_mem_nil⟩⟩⟩⟩⟩, rfl, by decide, by decide, by decide +kernel⟩
set_option maxRecDepth 20000 in
theorem cv_X4_64 : CWv RX4 64 RX7 yX7_actHere cX7_actHere 2 (some .int) 0 := ⟨List.forall_mem_cons.mpr ⟨w6 55 rfl, List.forall_mem_cons.mpr ⟨w6 56 rfl, List.forall_mem_cons.mpr ⟨w6 57 rfl, List.forall_mem_cons.mpr ⟨w1 8 rfl, List.forall_mem_cons.mpr ⟨w6 58 rfl, fun _ h => absurd h List.not_mem_nil⟩⟩⟩⟩⟩, rfl, by decide, by decide, by decide +kernel⟩
set_option maxRecDepth 20000 in
theorem cv_X4_71 : CWv RX4 71 RX3 yX3_endSeam cX3_endSeam 1 none 0 := ⟨List.forall_mem_cons.mpr ⟨w7 3 rfl, List.forall_mem_cons.mpr ⟨w7 4 rfl, List.forall_mem_cons.mpr ⟨w7 5 rfl, List.forall_mem_cons.mpr ⟨w1 14 rfl, List.forall_mem_cons.mpr ⟨w7 6 rfl, fun _ h => absurd h List.not_mem_nil⟩⟩⟩⟩⟩, rfl, by decide, by decide, by decide +kernel⟩
set_option maxRecDepth 20000 in
theorem cv_X4_67 : CWv RX4 67 RX4 yX4_takeAct cX4_takeAct 6 (some .int) 2 := ⟨List.forall_mem_cons.mpr ⟨w6 60 rfl, List.forall_mem_cons.mpr ⟨w6 61 rfl, List.forall_mem_cons.mpr ⟨w0 7 rfl, List.forall_mem_cons.mpr ⟨w1 9 rfl, List.forall_mem_cons.mpr ⟨w6 62 rfl, fun _ h => absurd h List.not_mem_nil⟩⟩⟩⟩⟩, rfl, by decide, by decide, by decide +kernel⟩
set_option maxRecDepth 20000 in
theorem cv_X5_44 : CWv RX5 44 RX2 yX2_begin cX2_begin 3 none 2 := ⟨List.forall_mem_cons.mpr ⟨w10 13 rfl, List.forall_mem_cons.mpr ⟨w7 38 rfl, List.forall_mem_cons.mpr ⟨w7 39 rfl, List.forall_mem_cons.mpr ⟨w1 10 rfl, List.forall_mem_cons.mpr ⟨w7 40 rfl, fun _ h => absurd h List.not_mem_nil⟩⟩⟩⟩⟩, rfl, by decide, by decide, by decide +kernel⟩
set_option maxRecDepth 20000 in
theorem cv_X8_223 : CWv RX8 223 RX2 yX2_go cX2_go 6 none 4 := ⟨List.forall_mem_cons.mpr ⟨w8 38 rfl, List.forall_mem_cons.mpr ⟨w8 39 rfl, List.forall_mem_cons.mpr ⟨w8 40 rfl, List.forall_mem_cons.mpr ⟨w1 10 rfl, List.forall_mem_cons.mpr ⟨w8 41 rfl, fun _ h => absurd h List.not_mem_nil⟩⟩⟩⟩⟩, rfl, by decide, by decide, by decide +kernel⟩
set_option maxRecDepth 20000 in
theorem cv_X8_227 : CWv RX8 227 RX2 yX2_off cX2_off 6 (some .int) 0 := ⟨List.forall_mem_cons.mpr ⟨w9 25 rfl, List.forall_mem_cons.mpr ⟨w9 26 rfl, List.forall_mem_cons.mpr ⟨w9 27 rfl, List.forall_mem_cons.mpr ⟨w1 10 rfl, List.forall_mem_cons.mpr ⟨w9 28 rfl, fun _ h => absurd h List.not_mem_nil⟩⟩⟩⟩⟩, rfl, by decide, by decide, by decide +kernel⟩
set_option maxRecDepth 20000 in
theorem cv_X8_248 : CWv RX8 248 RX3 yX3_hasSeam cX3_hasSeam 2 (some .boolean) 1 := ⟨List.forall_mem_cons.mpr ⟨w10 4 rfl, List.forall_mem_cons.mpr ⟨w7 15 rfl, List.forall_mem_cons.mpr ⟨w7 16 rfl, List.forall_mem_cons.mpr ⟨w1 14 rfl, List.forall_mem_cons.mpr ⟨w7 17 rfl, fun _ h => absurd h List.not_mem_nil⟩⟩⟩⟩⟩, rfl, by decide, by decide, by decide +kernel⟩
set_option maxRecDepth 20000 in
theorem cv_X8_309 : CWv RX8 309 RX8 yX8_isSteel cX8_isSteel 5 (some .boolean) 3 := ⟨List.forall_mem_cons.mpr ⟨w11 35 rfl, List.forall_mem_cons.mpr ⟨w11 36 rfl, List.forall_mem_cons.mpr ⟨w0 25 rfl, List.forall_mem_cons.mpr ⟨w1 5 rfl, List.forall_mem_cons.mpr ⟨w11 37 rfl, fun _ h => absurd h List.not_mem_nil⟩⟩⟩⟩⟩, rfl, by decide, by decide, by decide +kernel⟩
set_option maxRecDepth 20000 in
theorem cv_X9_183 : CWv RX9 183 RX9 yX9_kindOfWord cX9_kindOfWord 3 (some .int) 0 := ⟨List.forall_mem_cons.mpr ⟨w15 15 rfl, List.forall_mem_cons.mpr ⟨w15 16 rfl, List.forall_mem_cons.mpr ⟨w0 39 rfl, List.forall_mem_cons.mpr ⟨w1 15 rfl, List.forall_mem_cons.mpr ⟨w15 17 rfl, fun _ h => absurd h List.not_mem_nil⟩⟩⟩⟩⟩, rfl, by decide, by decide, by decide +kernel⟩
set_option maxRecDepth 20000 in
theorem fp_X9_180 : FPk BG RX9 180 9 13 := ⟨fl_X9_180, RX9, TX9, 43, tyX9, rfl, tyX9_ok, nmX9, rfl, rfl⟩
set_option maxRecDepth 20000 in
theorem cv_X9_187 : CWv RX9 187 RX9 yX9_readAct cX9_readAct 4 none 1 := ⟨List.forall_mem_cons.mpr ⟨w15 28 rfl, List.forall_mem_cons.mpr ⟨w15 29 rfl, List.forall_mem_cons.mpr ⟨w0 40 rfl, List.forall_mem_cons.mpr ⟨w1 15 rfl, List.forall_mem_cons.mpr ⟨w15 30 rfl, fun _ h => absurd h List.not_mem_nil⟩⟩⟩⟩⟩, rfl, by decide, by decide, by decide +kernel⟩
set_option maxRecDepth 20000 in
theorem cv_X9_255 : CWv RX9 255 RX9 yX9_step cX9_step 6 none 3 := ⟨List.forall_mem_cons.mpr ⟨w16 15 rfl, List.forall_mem_cons.mpr ⟨w16 16 rfl, List.forall_mem_cons.mpr ⟨w0 49 rfl, List.forall_mem_cons.mpr ⟨w1 15 rfl, List.forall_mem_cons.mpr ⟨w16 17 rfl, fun _ h => absurd h List.not_mem_nil⟩⟩⟩⟩⟩, rfl, by decide, by decide, by decide +kernel⟩
set_option maxRecDepth 20000 in
theorem cv_X9_252 : CWv RX9 252 RX9 yX9_free cX9_free 2 none 1 := ⟨List.forall_mem_cons.mpr ⟨w16 12 rfl, List.forall_mem_cons.mpr ⟨w16 13 rfl, List.forall_mem_cons.mpr ⟨w0 48 rfl, List.forall_mem_cons.mpr ⟨w1 15 rfl, List.forall_mem_cons.mpr ⟨w16 14 rfl, fun _ h => absurd h List.not_mem_nil⟩⟩⟩⟩⟩, rfl, by decide, by decide, by decide +kernel⟩
set_option maxRecDepth 20000 in
theorem cv_X4_19 : CWv RX4 19 RX3 yX3_clear cX3_clear 1 none 0 := ⟨List.forall_mem_cons.mpr ⟨w5 25 rfl, List.forall_mem_cons.mpr ⟨w5 26 rfl, List.forall_mem_cons.mpr ⟨w5 27 rfl, List.forall_mem_cons.mpr ⟨w1 14 rfl, List.forall_mem_cons.mpr ⟨w5 28 rfl, fun _ h => absurd h List.not_mem_nil⟩⟩⟩⟩⟩, rfl, by decide, by decide, by decide +kernel⟩
set_option maxRecDepth 20000 in
theorem cv_X4_24 : CWv RX4 24 RX7 yX7_toFirst cX7_toFirst 1 none 0 := ⟨List.forall_mem_cons.mpr ⟨w5 30 rfl, List.forall_mem_cons.mpr ⟨w5 31 rfl, List.forall_mem_cons.mpr ⟨w5 32 rfl, List.forall_mem_cons.mpr ⟨w1 8 rfl, List.forall_mem_cons.mpr ⟨w5 33 rfl, fun _ h => absurd h List.not_mem_nil⟩⟩⟩⟩⟩, rfl, by decide, by decide, by decide +kernel⟩
set_option maxRecDepth 20000 in
theorem cv_X4_29 : CWv RX4 29 RX4 yX4_takePanel cX4_takePanel 3 (some .int) 1 := ⟨List.forall_mem_cons.mpr ⟨w5 41 rfl, List.forall_mem_cons.mpr ⟨w5 42 rfl, List.forall_mem_cons.mpr ⟨w0 2 rfl, List.forall_mem_cons.mpr ⟨w1 9 rfl, List.forall_mem_cons.mpr ⟨w5 43 rfl, fun _ h => absurd h List.not_mem_nil⟩⟩⟩⟩⟩, rfl, by decide, by decide, by decide +kernel⟩
set_option maxRecDepth 20000 in
theorem cv_X4_43 : CWv RX4 43 RX7 yX7_atEnd cX7_atEnd 1 (some .boolean) 0 := ⟨List.forall_mem_cons.mpr ⟨w7 18 rfl, List.forall_mem_cons.mpr ⟨w7 19 rfl, List.forall_mem_cons.mpr ⟨w7 20 rfl, List.forall_mem_cons.mpr ⟨w1 8 rfl, List.forall_mem_cons.mpr ⟨w7 21 rfl, fun _ h => absurd h List.not_mem_nil⟩⟩⟩⟩⟩, rfl, by decide, by decide, by decide +kernel⟩
set_option maxRecDepth 20000 in
theorem cv_X4_40 : CWv RX4 40 RX4 yX4_takeBefore cX4_takeBefore 4 (some .int) 1 := ⟨List.forall_mem_cons.mpr ⟨w7 7 rfl, List.forall_mem_cons.mpr ⟨w7 8 rfl, List.forall_mem_cons.mpr ⟨w0 8 rfl, List.forall_mem_cons.mpr ⟨w1 9 rfl, List.forall_mem_cons.mpr ⟨w7 9 rfl, fun _ h => absurd h List.not_mem_nil⟩⟩⟩⟩⟩, rfl, by decide, by decide, by decide +kernel⟩
set_option maxRecDepth 20000 in
theorem cv_X4_37 : CWv RX4 37 RX4 yX4_takeSeam cX4_takeSeam 5 (some .int) 1 := ⟨List.forall_mem_cons.mpr ⟨w6 52 rfl, List.forall_mem_cons.mpr ⟨w6 53 rfl, List.forall_mem_cons.mpr ⟨w0 6 rfl, List.forall_mem_cons.mpr ⟨w1 9 rfl, List.forall_mem_cons.mpr ⟨w6 54 rfl, fun _ h => absurd h List.not_mem_nil⟩⟩⟩⟩⟩, rfl, by decide, by decide, by decide +kernel⟩
set_option maxRecDepth 20000 in
theorem cv_X8_213 : CWv RX8 213 RX6 yX6_tellsOrder cX6_tellsOrder 7 (some .boolean) 3 := ⟨List.forall_mem_cons.mpr ⟨w8 25 rfl, List.forall_mem_cons.mpr ⟨w8 26 rfl, List.forall_mem_cons.mpr ⟨w8 27 rfl, List.forall_mem_cons.mpr ⟨w1 6 rfl, List.forall_mem_cons.mpr ⟨w8 28 rfl, fun _ h => absurd h List.not_mem_nil⟩⟩⟩⟩⟩, rfl, by decide, by decide, by decide +kernel⟩
set_option maxRecDepth 20000 in
theorem cv_X8_220 : CWv RX8 220 RX8 yX8_standByOrder cX8_standByOrder 1 (some .int) 0 := ⟨List.forall_mem_cons.mpr ⟨w8 35 rfl, List.forall_mem_cons.mpr ⟨w8 36 rfl, List.forall_mem_cons.mpr ⟨w0 10 rfl, List.forall_mem_cons.mpr ⟨w1 5 rfl, List.forall_mem_cons.mpr ⟨w8 37 rfl, fun _ h => absurd h List.not_mem_nil⟩⟩⟩⟩⟩, rfl, by decide, by decide, by decide +kernel⟩
set_option maxRecDepth 20000 in
theorem cv_X8_251 : CWv RX8 251 RX5 yX5_look cX5_look 3 none 2 := ⟨List.forall_mem_cons.mpr ⟨w10 9 rfl, List.forall_mem_cons.mpr ⟨w10 10 rfl, List.forall_mem_cons.mpr ⟨w10 11 rfl, List.forall_mem_cons.mpr ⟨w1 11 rfl, List.forall_mem_cons.mpr ⟨w10 12 rfl, fun _ h => absurd h List.not_mem_nil⟩⟩⟩⟩⟩, rfl, by decide, by decide, by decide +kernel⟩
set_option maxRecDepth 20000 in
theorem cv_X8_267 : CWv RX8 267 RX1 yX1_look cX1_look 5 none 2 := ⟨List.forall_mem_cons.mpr ⟨w10 45 rfl, List.forall_mem_cons.mpr ⟨w10 46 rfl, List.forall_mem_cons.mpr ⟨w10 47 rfl, List.forall_mem_cons.mpr ⟨w1 12 rfl, List.forall_mem_cons.mpr ⟨w10 48 rfl, fun _ h => absurd h List.not_mem_nil⟩⟩⟩⟩⟩, rfl, by decide, by decide, by decide +kernel⟩
set_option maxRecDepth 20000 in
theorem cv_X8_299 : CWv RX8 299 RX6 yX6_allWithin cX6_allWithin 7 (some .boolean) 4 := ⟨List.forall_mem_cons.mpr ⟨w11 28 rfl, List.forall_mem_cons.mpr ⟨w11 29 rfl, List.forall_mem_cons.mpr ⟨w11 30 rfl, List.forall_mem_cons.mpr ⟨w1 6 rfl, List.forall_mem_cons.mpr ⟨w11 31 rfl, fun _ h => absurd h List.not_mem_nil⟩⟩⟩⟩⟩, rfl, by decide, by decide, by decide +kernel⟩
set_option maxRecDepth 20000 in
theorem cv_X8_303 : CWv RX8 303 RX8 yX8_steelOf cX8_steelOf 4 (some .int) 2 := ⟨List.forall_mem_cons.mpr ⟨w11 32 rfl, List.forall_mem_cons.mpr ⟨w11 33 rfl, List.forall_mem_cons.mpr ⟨w0 24 rfl, List.forall_mem_cons.mpr ⟨w1 5 rfl, List.forall_mem_cons.mpr ⟨w11 34 rfl, fun _ h => absurd h List.not_mem_nil⟩⟩⟩⟩⟩, rfl, by decide, by decide, by decide +kernel⟩
set_option maxRecDepth 20000 in
theorem fp_X9_104 : FPk BG RX9 104 9 22 := ⟨fl_X9_104, RX9, TX9, 43, tyX9, rfl, tyX9_ok, nmX9, rfl, rfl⟩
set_option maxRecDepth 20000 in
theorem fp_X9_177 : FPk BG RX9 177 9 12 := ⟨fl_X9_177, RX9, TX9, 43, tyX9, rfl, tyX9_ok, nmX9, rfl, rfl⟩
set_option maxRecDepth 20000 in
theorem fp_X9_212 : FPk BG RX9 212 9 5 := ⟨fl_X9_212, RX9, TX9, 43, tyX9, rfl, tyX9_ok, nmX9, rfl, rfl⟩
set_option maxRecDepth 20000 in
theorem fp_X9_215 : FPk BG RX9 215 9 6 := ⟨fl_X9_215, RX9, TX9, 43, tyX9, rfl, tyX9_ok, nmX9, rfl, rfl⟩
set_option maxRecDepth 20000 in
theorem fp_X9_218 : FPk BG RX9 218 9 7 := ⟨fl_X9_218, RX9, TX9, 43, tyX9, rfl, tyX9_ok, nmX9, rfl, rfl⟩
set_option maxRecDepth 20000 in
theorem fp_X9_221 : FPk BG RX9 221 9 8 := ⟨fl_X9_221, RX9, TX9, 43, tyX9, rfl, tyX9_ok, nmX9, rfl, rfl⟩
set_option maxRecDepth 20000 in
theorem fp_X9_208 : FPk BG RX9 208 9 21 := ⟨fl_X9_208, RX9, TX9, 43, tyX9, rfl, tyX9_ok, nmX9, rfl, rfl⟩
set_option maxRecDepth 20000 in
theorem cv_X9_205 : CWv RX9 205 RX9 yX9_readBefore cX9_readBefore 3 none 0 := ⟨List.forall_mem_cons.mpr ⟨w15 32 rfl, List.forall_mem_cons.mpr ⟨w15 33 rfl, List.forall_mem_cons.mpr ⟨w0 41 rfl, List.forall_mem_cons.mpr ⟨w1 15 rfl, List.forall_mem_cons.mpr ⟨w15 34 rfl, fun _ h => absurd h List.not_mem_nil⟩⟩⟩⟩⟩, rfl, by decide, by decide, by decide +kernel⟩
set_option maxRecDepth 20000 in
theorem cv_X9_202 : CWv RX9 202 RX9 yX9_readSeam cX9_readSeam 2 none 0 := ⟨List.forall_mem_cons.mpr ⟨w15 12 rfl, List.forall_mem_cons.mpr ⟨w15 13 rfl, List.forall_mem_cons.mpr ⟨w0 38 rfl, List.forall_mem_cons.mpr ⟨w1 15 rfl, List.forall_mem_cons.mpr ⟨w15 14 rfl, fun _ h => absurd h List.not_mem_nil⟩⟩⟩⟩⟩, rfl, by decide, by decide, by decide +kernel⟩
set_option maxRecDepth 20000 in
theorem cv_X9_263 : CWv RX9 263 RX9 yX9_doAct cX9_doAct 5 none 1 := ⟨List.forall_mem_cons.mpr ⟨w16 6 rfl, List.forall_mem_cons.mpr ⟨w16 7 rfl, List.forall_mem_cons.mpr ⟨w0 46 rfl, List.forall_mem_cons.mpr ⟨w1 15 rfl, List.forall_mem_cons.mpr ⟨w16 8 rfl, fun _ h => absurd h List.not_mem_nil⟩⟩⟩⟩⟩, rfl, by decide, by decide, by decide +kernel⟩
set_option maxRecDepth 20000 in
theorem cv_X8_139 : CWv RX8 139 RX4 yX4_readInto cX4_readInto 4 (some .int) 1 := ⟨List.forall_mem_cons.mpr ⟨w5 21 rfl, List.forall_mem_cons.mpr ⟨w5 22 rfl, List.forall_mem_cons.mpr ⟨w5 23 rfl, List.forall_mem_cons.mpr ⟨w1 9 rfl, List.forall_mem_cons.mpr ⟨w5 24 rfl, fun _ h => absurd h List.not_mem_nil⟩⟩⟩⟩⟩, rfl, by decide, by decide, by decide +kernel⟩
set_option maxRecDepth 20000 in
theorem cv_X8_143 : CWv RX8 143 RX7 yX7_tokenPlace cX7_tokenPlace 1 (some .int) 0 := ⟨List.forall_mem_cons.mpr ⟨w7 22 rfl, List.forall_mem_cons.mpr ⟨w7 23 rfl, List.forall_mem_cons.mpr ⟨w7 24 rfl, List.forall_mem_cons.mpr ⟨w1 8 rfl, List.forall_mem_cons.mpr ⟨w7 25 rfl, fun _ h => absurd h List.not_mem_nil⟩⟩⟩⟩⟩, rfl, by decide, by decide, by decide +kernel⟩
set_option maxRecDepth 20000 in
theorem cv_X8_147 : CWv RX8 147 RX7 yX7_empty cX7_empty 1 none 0 := ⟨List.forall_mem_cons.mpr ⟨w7 26 rfl, List.forall_mem_cons.mpr ⟨w7 27 rfl, List.forall_mem_cons.mpr ⟨w7 28 rfl, List.forall_mem_cons.mpr ⟨w1 8 rfl, List.forall_mem_cons.mpr ⟨w7 29 rfl, fun _ h => absurd h List.not_mem_nil⟩⟩⟩⟩⟩, rfl, by decide, by decide, by decide +kernel⟩
set_option maxRecDepth 20000 in
theorem fp_X8_76 : FPk BG RX8 76 8 11 := ⟨fl_X8_76, RX8, TX8, 16, tyX8, rfl, tyX8_ok, nmX8, rfl, rfl⟩
set_option maxRecDepth 20000 in
theorem fp_X8_80 : FPk BG RX8 80 8 12 := ⟨fl_X8_80, RX8, TX8, 16, tyX8, rfl, tyX8_ok, nmX8, rfl, rfl⟩
set_option maxRecDepth 20000 in
theorem cv_X8_151 : CWv RX8 151 RX8 yX8_beginPlan cX8_beginPlan 1 none 0 := ⟨List.forall_mem_cons.mpr ⟨w7 31 rfl, List.forall_mem_cons.mpr ⟨w7 32 rfl, List.forall_mem_cons.mpr ⟨w0 9 rfl, List.forall_mem_cons.mpr ⟨w1 5 rfl, List.forall_mem_cons.mpr ⟨w7 33 rfl, fun _ h => absurd h List.not_mem_nil⟩⟩⟩⟩⟩, rfl, by decide, by decide, by decide +kernel⟩
set_option maxRecDepth 20000 in
theorem fp_X8_87 : FPk BG RX8 87 8 14 := ⟨fl_X8_87, RX8, TX8, 16, tyX8, rfl, tyX8_ok, nmX8, rfl, rfl⟩
set_option maxRecDepth 20000 in
theorem cv_X9_274 : CWv RX9 274 RX9 yX9_layOpened cX9_layOpened 2 none 0 := ⟨List.forall_mem_cons.mpr ⟨w15 62 rfl, List.forall_mem_cons.mpr ⟨w15 63 rfl, List.forall_mem_cons.mpr ⟨w0 44 rfl, List.forall_mem_cons.mpr ⟨w1 15 rfl, List.forall_mem_cons.mpr ⟨w16 0 rfl, fun _ h => absurd h List.not_mem_nil⟩⟩⟩⟩⟩, rfl, by decide, by decide, by decide +kernel⟩
set_option maxRecDepth 20000 in
theorem cv_X9_277 : CWv RX9 277 RX9 yX9_go cX9_go 4 none 1 := ⟨List.forall_mem_cons.mpr ⟨w16 1 rfl, List.forall_mem_cons.mpr ⟨w16 2 rfl, List.forall_mem_cons.mpr ⟨w0 45 rfl, List.forall_mem_cons.mpr ⟨w1 15 rfl, List.forall_mem_cons.mpr ⟨w16 3 rfl, fun _ h => absurd h List.not_mem_nil⟩⟩⟩⟩⟩, rfl, by decide, by decide, by decide +kernel⟩
set_option maxRecDepth 20000 in
theorem cv_X9_280 : CWv RX9 280 RX9 yX9_stand cX9_stand 2 none 0 := ⟨List.forall_mem_cons.mpr ⟨w16 24 rfl, List.forall_mem_cons.mpr ⟨w16 25 rfl, List.forall_mem_cons.mpr ⟨w0 52 rfl, List.forall_mem_cons.mpr ⟨w1 15 rfl, List.forall_mem_cons.mpr ⟨w16 26 rfl, fun _ h => absurd h List.not_mem_nil⟩⟩⟩⟩⟩, rfl, by decide, by decide, by decide +kernel⟩
set_option maxRecDepth 20000 in
theorem cv_X9_283 : CWv RX9 283 RX9 yX9_offBy cX9_offBy 5 (some .int) 0 := ⟨List.forall_mem_cons.mpr ⟨w16 27 rfl, List.forall_mem_cons.mpr ⟨w16 28 rfl, List.forall_mem_cons.mpr ⟨w0 53 rfl, List.forall_mem_cons.mpr ⟨w1 15 rfl, List.forall_mem_cons.mpr ⟨w16 29 rfl, fun _ h => absurd h List.not_mem_nil⟩⟩⟩⟩⟩, rfl, by decide, by decide, by decide +kernel⟩
set_option maxRecDepth 20000 in
theorem cv_X9_299 : CWv RX9 299 RX9 yX9_setBy cX9_setBy 4 (some .int) 1 := ⟨List.forall_mem_cons.mpr ⟨w17 13 rfl, List.forall_mem_cons.mpr ⟨w17 14 rfl, List.forall_mem_cons.mpr ⟨w0 59 rfl, List.forall_mem_cons.mpr ⟨w1 15 rfl, List.forall_mem_cons.mpr ⟨w17 15 rfl, fun _ h => absurd h List.not_mem_nil⟩⟩⟩⟩⟩, rfl, by decide, by decide, by decide +kernel⟩
set_option maxRecDepth 20000 in
theorem cv_X0_36 : CWv RX0 36 RX3 yX3_stepKind cX3_stepKind 2 (some .int) 1 := ⟨List.forall_mem_cons.mpr ⟨w12 8 rfl, List.forall_mem_cons.mpr ⟨w11 46 rfl, List.forall_mem_cons.mpr ⟨w11 47 rfl, List.forall_mem_cons.mpr ⟨w1 14 rfl, List.forall_mem_cons.mpr ⟨w11 48 rfl, fun _ h => absurd h List.not_mem_nil⟩⟩⟩⟩⟩, rfl, by decide, by decide, by decide +kernel⟩
set_option maxRecDepth 20000 in
theorem cs_X0_42 : CWs RX0 42 yX0_bodyFor cX0_bodyFor 5 (some .int) 2 := ⟨List.forall_mem_cons.mpr ⟨w12 9 rfl, List.forall_mem_cons.mpr ⟨w12 10 rfl, List.forall_mem_cons.mpr ⟨w1 13 rfl, List.forall_mem_cons.mpr ⟨w12 11 rfl, fun _ h => absurd h List.not_mem_nil⟩⟩⟩⟩, by decide, by decide, by decide +kernel⟩
set_option maxRecDepth 20000 in
theorem cv_X0_46 : CWv RX0 46 RX0 yX0_given cX0_given 5 (some .int) 4 := ⟨List.forall_mem_cons.mpr ⟨w12 14 rfl, List.forall_mem_cons.mpr ⟨w12 15 rfl, List.forall_mem_cons.mpr ⟨w0 28 rfl, List.forall_mem_cons.mpr ⟨w1 13 rfl, List.forall_mem_cons.mpr ⟨w12 16 rfl, fun _ h => absurd h List.not_mem_nil⟩⟩⟩⟩⟩, rfl, by decide, by decide, by decide +kernel⟩
set_option maxRecDepth 20000 in
theorem cv_X0_49 : CWv RX0 49 RX0 yX0_leave cX0_leave 2 none 1 := ⟨List.forall_mem_cons.mpr ⟨w12 17 rfl, List.forall_mem_cons.mpr ⟨w12 18 rfl, List.forall_mem_cons.mpr ⟨w0 29 rfl, List.forall_mem_cons.mpr ⟨w1 13 rfl, List.forall_mem_cons.mpr ⟨w12 19 rfl, fun _ h => absurd h List.not_mem_nil⟩⟩⟩⟩⟩, rfl, by decide, by decide, by decide +kernel⟩
set_option maxRecDepth 20000 in
theorem cv_X0_32 : CWv RX0 32 RX0 yX0_asked cX0_asked 5 (some .int) 4 := ⟨List.forall_mem_cons.mpr ⟨w12 5 rfl, List.forall_mem_cons.mpr ⟨w12 6 rfl, List.forall_mem_cons.mpr ⟨w0 27 rfl, List.forall_mem_cons.mpr ⟨w1 13 rfl, List.forall_mem_cons.mpr ⟨w12 7 rfl, fun _ h => absurd h List.not_mem_nil⟩⟩⟩⟩⟩, rfl, by decide, by decide, by decide +kernel⟩
set_option maxRecDepth 20000 in
theorem cv_X8_322 : CWv RX8 322 RX0 yX0_answerOf cX0_answerOf 4 (some .int) 3 := ⟨List.forall_mem_cons.mpr ⟨w12 1 rfl, List.forall_mem_cons.mpr ⟨w12 2 rfl, List.forall_mem_cons.mpr ⟨w12 3 rfl, List.forall_mem_cons.mpr ⟨w1 13 rfl, List.forall_mem_cons.mpr ⟨w12 4 rfl, fun _ h => absurd h List.not_mem_nil⟩⟩⟩⟩⟩, rfl, by decide, by decide, by decide +kernel⟩
