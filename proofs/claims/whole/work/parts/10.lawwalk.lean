set_option maxRecDepth 20000 in
theorem cv_L_13 : CWv RL 13 RX8 yX8_sheet cX8_sheet 4 (some .int) 3 := ⟨List.forall_mem_cons.mpr ⟨w4 5 rfl, List.forall_mem_cons.mpr ⟨w4 6 rfl, List.forall_mem_cons.mpr ⟨w4 7 rfl, List.forall_mem_cons.mpr ⟨w1 5 rfl, List.forall_mem_cons.mpr ⟨w4 8 rfl, fun _ h => absurd h List.not_mem_nil⟩⟩⟩⟩⟩, rfl, by decide, by decide, by decide +kernel⟩
set_option maxRecDepth 20000 in
theorem cv_L_17 : CWv RL 17 RX9 yX9_sheet cX9_sheet 5 (some .int) 3 := ⟨List.forall_mem_cons.mpr ⟨w14 6 rfl, List.forall_mem_cons.mpr ⟨w14 7 rfl, List.forall_mem_cons.mpr ⟨w14 8 rfl, List.forall_mem_cons.mpr ⟨w1 15 rfl, List.forall_mem_cons.mpr ⟨w14 9 rfl, fun _ h => absurd h List.not_mem_nil⟩⟩⟩⟩⟩, rfl, by decide, by decide, by decide +kernel⟩
set_option maxRecDepth 20000 in
theorem cv_L_18 : CWv RL 18 RX8 yX8_set cX8_set 5 (some .int) 3 := ⟨List.forall_mem_cons.mpr ⟨w4 25 rfl, List.forall_mem_cons.mpr ⟨w4 26 rfl, List.forall_mem_cons.mpr ⟨w4 27 rfl, List.forall_mem_cons.mpr ⟨w1 5 rfl, List.forall_mem_cons.mpr ⟨w4 28 rfl, fun _ h => absurd h List.not_mem_nil⟩⟩⟩⟩⟩, rfl, by decide, by decide, by decide +kernel⟩
set_option maxRecDepth 20000 in
theorem cv_L_21 : CWv RL 21 RX9 yX9_set cX9_set 4 (some .int) 3 := ⟨List.forall_mem_cons.mpr ⟨w14 23 rfl, List.forall_mem_cons.mpr ⟨w14 24 rfl, List.forall_mem_cons.mpr ⟨w14 25 rfl, List.forall_mem_cons.mpr ⟨w1 15 rfl, List.forall_mem_cons.mpr ⟨w14 26 rfl, fun _ h => absurd h List.not_mem_nil⟩⟩⟩⟩⟩, rfl, by decide, by decide, by decide +kernel⟩
set_option maxRecDepth 20000 in
theorem cv_L_22 : CWv RL 22 RX8 yX8_copy cX8_copy 7 (some .int) 5 := ⟨List.forall_mem_cons.mpr ⟨w4 44 rfl, List.forall_mem_cons.mpr ⟨w4 45 rfl, List.forall_mem_cons.mpr ⟨w4 46 rfl, List.forall_mem_cons.mpr ⟨w1 5 rfl, List.forall_mem_cons.mpr ⟨w4 47 rfl, fun _ h => absurd h List.not_mem_nil⟩⟩⟩⟩⟩, rfl, by decide, by decide, by decide +kernel⟩
set_option maxRecDepth 20000 in
theorem cv_L_26 : CWv RL 26 RX9 yX9_copy cX9_copy 9 (some .int) 5 := ⟨List.forall_mem_cons.mpr ⟨w14 27 rfl, List.forall_mem_cons.mpr ⟨w14 28 rfl, List.forall_mem_cons.mpr ⟨w14 29 rfl, List.forall_mem_cons.mpr ⟨w1 15 rfl, List.forall_mem_cons.mpr ⟨w14 30 rfl, fun _ h => absurd h List.not_mem_nil⟩⟩⟩⟩⟩, rfl, by decide, by decide, by decide +kernel⟩
set_option maxRecDepth 20000 in
theorem cv_L_27 : CWv RL 27 RX8 yX8_drop cX8_drop 2 (some .int) 1 := ⟨List.forall_mem_cons.mpr ⟨w4 59 rfl, List.forall_mem_cons.mpr ⟨w4 60 rfl, List.forall_mem_cons.mpr ⟨w4 61 rfl, List.forall_mem_cons.mpr ⟨w1 5 rfl, List.forall_mem_cons.mpr ⟨w4 62 rfl, fun _ h => absurd h List.not_mem_nil⟩⟩⟩⟩⟩, rfl, by decide, by decide, by decide +kernel⟩
set_option maxRecDepth 20000 in
theorem cv_L_31 : CWv RL 31 RX9 yX9_drop cX9_drop 2 (some .int) 1 := ⟨List.forall_mem_cons.mpr ⟨w14 31 rfl, List.forall_mem_cons.mpr ⟨w14 32 rfl, List.forall_mem_cons.mpr ⟨w14 33 rfl, List.forall_mem_cons.mpr ⟨w1 15 rfl, List.forall_mem_cons.mpr ⟨w14 34 rfl, fun _ h => absurd h List.not_mem_nil⟩⟩⟩⟩⟩, rfl, by decide, by decide, by decide +kernel⟩
set_option maxRecDepth 20000 in
theorem cv_L_34 : CWv RL 34 RX8 yX8_feed cX8_feed 4 (some .int) 2 := ⟨List.forall_mem_cons.mpr ⟨w5 4 rfl, List.forall_mem_cons.mpr ⟨w5 5 rfl, List.forall_mem_cons.mpr ⟨w5 6 rfl, List.forall_mem_cons.mpr ⟨w1 5 rfl, List.forall_mem_cons.mpr ⟨w5 7 rfl, fun _ h => absurd h List.not_mem_nil⟩⟩⟩⟩⟩, rfl, by decide, by decide, by decide +kernel⟩
set_option maxRecDepth 20000 in
theorem cv_L_38 : CWv RL 38 RX9 yX9_feed cX9_feed 5 (some .int) 2 := ⟨List.forall_mem_cons.mpr ⟨w14 35 rfl, List.forall_mem_cons.mpr ⟨w14 36 rfl, List.forall_mem_cons.mpr ⟨w14 37 rfl, List.forall_mem_cons.mpr ⟨w1 15 rfl, List.forall_mem_cons.mpr ⟨w14 38 rfl, fun _ h => absurd h List.not_mem_nil⟩⟩⟩⟩⟩, rfl, by decide, by decide, by decide +kernel⟩
set_option maxRecDepth 20000 in
theorem cv_L_39 : CWv RL 39 RX8 yX8_plan cX8_plan 4 (some .int) 0 := ⟨List.forall_mem_cons.mpr ⟨w5 17 rfl, List.forall_mem_cons.mpr ⟨w5 18 rfl, List.forall_mem_cons.mpr ⟨w5 19 rfl, List.forall_mem_cons.mpr ⟨w1 5 rfl, List.forall_mem_cons.mpr ⟨w5 20 rfl, fun _ h => absurd h List.not_mem_nil⟩⟩⟩⟩⟩, rfl, by decide, by decide, by decide +kernel⟩
set_option maxRecDepth 20000 in
theorem cv_L_43 : CWv RL 43 RX9 yX9_plan cX9_plan 2 (some .int) 0 := ⟨List.forall_mem_cons.mpr ⟨w14 42 rfl, List.forall_mem_cons.mpr ⟨w14 43 rfl, List.forall_mem_cons.mpr ⟨w14 44 rfl, List.forall_mem_cons.mpr ⟨w1 15 rfl, List.forall_mem_cons.mpr ⟨w14 45 rfl, fun _ h => absurd h List.not_mem_nil⟩⟩⟩⟩⟩, rfl, by decide, by decide, by decide +kernel⟩
set_option maxRecDepth 20000 in
theorem cv_L_44 : CWv RL 44 RX8 yX8_fault cX8_fault 1 (some .int) 0 := ⟨List.forall_mem_cons.mpr ⟨w7 54 rfl, List.forall_mem_cons.mpr ⟨w7 55 rfl, List.forall_mem_cons.mpr ⟨w7 56 rfl, List.forall_mem_cons.mpr ⟨w1 5 rfl, List.forall_mem_cons.mpr ⟨w7 57 rfl, fun _ h => absurd h List.not_mem_nil⟩⟩⟩⟩⟩, rfl, by decide, by decide, by decide +kernel⟩
set_option maxRecDepth 20000 in
theorem cv_L_47 : CWv RL 47 RX9 yX9_fault cX9_fault 1 (some .int) 0 := ⟨List.forall_mem_cons.mpr ⟨w15 36 rfl, List.forall_mem_cons.mpr ⟨w15 37 rfl, List.forall_mem_cons.mpr ⟨w15 38 rfl, List.forall_mem_cons.mpr ⟨w1 15 rfl, List.forall_mem_cons.mpr ⟨w15 39 rfl, fun _ h => absurd h List.not_mem_nil⟩⟩⟩⟩⟩, rfl, by decide, by decide, by decide +kernel⟩
set_option maxRecDepth 20000 in
theorem cv_L_48 : CWv RL 48 RX8 yX8_act cX8_act 3 (some .int) 2 := ⟨List.forall_mem_cons.mpr ⟨w7 58 rfl, List.forall_mem_cons.mpr ⟨w7 59 rfl, List.forall_mem_cons.mpr ⟨w7 60 rfl, List.forall_mem_cons.mpr ⟨w1 5 rfl, List.forall_mem_cons.mpr ⟨w7 61 rfl, fun _ h => absurd h List.not_mem_nil⟩⟩⟩⟩⟩, rfl, by decide, by decide, by decide +kernel⟩
set_option maxRecDepth 20000 in
theorem cv_L_52 : CWv RL 52 RX9 yX9_act cX9_act 3 (some .int) 2 := ⟨List.forall_mem_cons.mpr ⟨w15 40 rfl, List.forall_mem_cons.mpr ⟨w15 41 rfl, List.forall_mem_cons.mpr ⟨w15 42 rfl, List.forall_mem_cons.mpr ⟨w1 15 rfl, List.forall_mem_cons.mpr ⟨w15 43 rfl, fun _ h => absurd h List.not_mem_nil⟩⟩⟩⟩⟩, rfl, by decide, by decide, by decide +kernel⟩
set_option maxRecDepth 20000 in
theorem cv_L_53 : CWv RL 53 RX8 yX8_open cX8_open 4 (some .int) 2 := ⟨List.forall_mem_cons.mpr ⟨w8 8 rfl, List.forall_mem_cons.mpr ⟨w8 9 rfl, List.forall_mem_cons.mpr ⟨w8 10 rfl, List.forall_mem_cons.mpr ⟨w1 5 rfl, List.forall_mem_cons.mpr ⟨w8 11 rfl, fun _ h => absurd h List.not_mem_nil⟩⟩⟩⟩⟩, rfl, by decide, by decide, by decide +kernel⟩
set_option maxRecDepth 20000 in
theorem cv_L_56 : CWv RL 56 RX9 yX9_open cX9_open 4 (some .int) 2 := ⟨List.forall_mem_cons.mpr ⟨w15 48 rfl, List.forall_mem_cons.mpr ⟨w15 49 rfl, List.forall_mem_cons.mpr ⟨w15 50 rfl, List.forall_mem_cons.mpr ⟨w1 15 rfl, List.forall_mem_cons.mpr ⟨w15 51 rfl, fun _ h => absurd h List.not_mem_nil⟩⟩⟩⟩⟩, rfl, by decide, by decide, by decide +kernel⟩
set_option maxRecDepth 20000 in
theorem cv_L_57 : CWv RL 57 RX8 yX8_run cX8_run 5 (some .int) 2 := ⟨List.forall_mem_cons.mpr ⟨w8 16 rfl, List.forall_mem_cons.mpr ⟨w8 17 rfl, List.forall_mem_cons.mpr ⟨w8 18 rfl, List.forall_mem_cons.mpr ⟨w1 5 rfl, List.forall_mem_cons.mpr ⟨w8 19 rfl, fun _ h => absurd h List.not_mem_nil⟩⟩⟩⟩⟩, rfl, by decide, by decide, by decide +kernel⟩
set_option maxRecDepth 20000 in
theorem cv_L_60 : CWv RL 60 RX9 yX9_run cX9_run 6 (some .int) 2 := ⟨List.forall_mem_cons.mpr ⟨w15 57 rfl, List.forall_mem_cons.mpr ⟨w15 58 rfl, List.forall_mem_cons.mpr ⟨w15 59 rfl, List.forall_mem_cons.mpr ⟨w1 15 rfl, List.forall_mem_cons.mpr ⟨w15 60 rfl, fun _ h => absurd h List.not_mem_nil⟩⟩⟩⟩⟩, rfl, by decide, by decide, by decide +kernel⟩
set_option maxRecDepth 20000 in
theorem cv_L_61 : CWv RL 61 RX8 yX8_runs cX8_runs 1 (some .int) 0 := ⟨List.forall_mem_cons.mpr ⟨w9 39 rfl, List.forall_mem_cons.mpr ⟨w9 40 rfl, List.forall_mem_cons.mpr ⟨w9 41 rfl, List.forall_mem_cons.mpr ⟨w1 5 rfl, List.forall_mem_cons.mpr ⟨w9 42 rfl, fun _ h => absurd h List.not_mem_nil⟩⟩⟩⟩⟩, rfl, by decide, by decide, by decide +kernel⟩
set_option maxRecDepth 20000 in
theorem cv_L_64 : CWv RL 64 RX9 yX9_runs cX9_runs 1 (some .int) 0 := ⟨List.forall_mem_cons.mpr ⟨w16 33 rfl, List.forall_mem_cons.mpr ⟨w16 34 rfl, List.forall_mem_cons.mpr ⟨w16 35 rfl, List.forall_mem_cons.mpr ⟨w1 15 rfl, List.forall_mem_cons.mpr ⟨w16 36 rfl, fun _ h => absurd h List.not_mem_nil⟩⟩⟩⟩⟩, rfl, by decide, by decide, by decide +kernel⟩
set_option maxRecDepth 20000 in
theorem cv_L_65 : CWv RL 65 RX8 yX8_cell cX8_cell 3 (some .int) 2 := ⟨List.forall_mem_cons.mpr ⟨w9 43 rfl, List.forall_mem_cons.mpr ⟨w9 44 rfl, List.forall_mem_cons.mpr ⟨w9 45 rfl, List.forall_mem_cons.mpr ⟨w1 5 rfl, List.forall_mem_cons.mpr ⟨w9 46 rfl, fun _ h => absurd h List.not_mem_nil⟩⟩⟩⟩⟩, rfl, by decide, by decide, by decide +kernel⟩
set_option maxRecDepth 20000 in
theorem cv_L_68 : CWv RL 68 RX9 yX9_cell cX9_cell 3 (some .int) 2 := ⟨List.forall_mem_cons.mpr ⟨w16 40 rfl, List.forall_mem_cons.mpr ⟨w16 41 rfl, List.forall_mem_cons.mpr ⟨w16 42 rfl, List.forall_mem_cons.mpr ⟨w1 15 rfl, List.forall_mem_cons.mpr ⟨w16 43 rfl, fun _ h => absurd h List.not_mem_nil⟩⟩⟩⟩⟩, rfl, by decide, by decide, by decide +kernel⟩
set_option maxRecDepth 20000 in
theorem cv_L_69 : CWv RL 69 RX8 yX8_height cX8_height 2 (some .int) 1 := ⟨List.forall_mem_cons.mpr ⟨w9 55 rfl, List.forall_mem_cons.mpr ⟨w9 56 rfl, List.forall_mem_cons.mpr ⟨w9 57 rfl, List.forall_mem_cons.mpr ⟨w1 5 rfl, List.forall_mem_cons.mpr ⟨w9 58 rfl, fun _ h => absurd h List.not_mem_nil⟩⟩⟩⟩⟩, rfl, by decide, by decide, by decide +kernel⟩
set_option maxRecDepth 20000 in
theorem cv_L_72 : CWv RL 72 RX9 yX9_height cX9_height 2 (some .int) 1 := ⟨List.forall_mem_cons.mpr ⟨w16 47 rfl, List.forall_mem_cons.mpr ⟨w16 48 rfl, List.forall_mem_cons.mpr ⟨w16 49 rfl, List.forall_mem_cons.mpr ⟨w1 15 rfl, List.forall_mem_cons.mpr ⟨w16 50 rfl, fun _ h => absurd h List.not_mem_nil⟩⟩⟩⟩⟩, rfl, by decide, by decide, by decide +kernel⟩
set_option maxRecDepth 20000 in
theorem cv_L_73 : CWv RL 73 RX8 yX8_minutes cX8_minutes 1 (some .int) 0 := ⟨List.forall_mem_cons.mpr ⟨w9 60 rfl, List.forall_mem_cons.mpr ⟨w9 61 rfl, List.forall_mem_cons.mpr ⟨w9 62 rfl, List.forall_mem_cons.mpr ⟨w1 5 rfl, List.forall_mem_cons.mpr ⟨w9 63 rfl, fun _ h => absurd h List.not_mem_nil⟩⟩⟩⟩⟩, rfl, by decide, by decide, by decide +kernel⟩
set_option maxRecDepth 20000 in
theorem cv_L_76 : CWv RL 76 RX9 yX9_minutes cX9_minutes 1 (some .int) 0 := ⟨List.forall_mem_cons.mpr ⟨w16 51 rfl, List.forall_mem_cons.mpr ⟨w16 52 rfl, List.forall_mem_cons.mpr ⟨w16 53 rfl, List.forall_mem_cons.mpr ⟨w1 15 rfl, List.forall_mem_cons.mpr ⟨w16 54 rfl, fun _ h => absurd h List.not_mem_nil⟩⟩⟩⟩⟩, rfl, by decide, by decide, by decide +kernel⟩
set_option maxRecDepth 20000 in
theorem cv_L_77 : CWv RL 77 RX8 yX8_gives cX8_gives 3 (some .int) 1 := ⟨List.forall_mem_cons.mpr ⟨w10 0 rfl, List.forall_mem_cons.mpr ⟨w10 1 rfl, List.forall_mem_cons.mpr ⟨w10 2 rfl, List.forall_mem_cons.mpr ⟨w1 5 rfl, List.forall_mem_cons.mpr ⟨w10 3 rfl, fun _ h => absurd h List.not_mem_nil⟩⟩⟩⟩⟩, rfl, by decide, by decide, by decide +kernel⟩
set_option maxRecDepth 20000 in
theorem cv_L_80 : CWv RL 80 RX9 yX9_gives cX9_gives 3 (some .int) 1 := ⟨List.forall_mem_cons.mpr ⟨w16 55 rfl, List.forall_mem_cons.mpr ⟨w16 56 rfl, List.forall_mem_cons.mpr ⟨w16 57 rfl, List.forall_mem_cons.mpr ⟨w1 15 rfl, List.forall_mem_cons.mpr ⟨w16 58 rfl, fun _ h => absurd h List.not_mem_nil⟩⟩⟩⟩⟩, rfl, by decide, by decide, by decide +kernel⟩
set_option maxRecDepth 20000 in
theorem cv_L_81 : CWv RL 81 RX8 yX8_best cX8_best 2 (some .int) 1 := ⟨List.forall_mem_cons.mpr ⟨w10 5 rfl, List.forall_mem_cons.mpr ⟨w10 6 rfl, List.forall_mem_cons.mpr ⟨w10 7 rfl, List.forall_mem_cons.mpr ⟨w1 5 rfl, List.forall_mem_cons.mpr ⟨w10 8 rfl, fun _ h => absurd h List.not_mem_nil⟩⟩⟩⟩⟩, rfl, by decide, by decide, by decide +kernel⟩
set_option maxRecDepth 20000 in
theorem cv_L_84 : CWv RL 84 RX9 yX9_best cX9_best 6 (some .int) 1 := ⟨List.forall_mem_cons.mpr ⟨w16 59 rfl, List.forall_mem_cons.mpr ⟨w16 60 rfl, List.forall_mem_cons.mpr ⟨w16 61 rfl, List.forall_mem_cons.mpr ⟨w1 15 rfl, List.forall_mem_cons.mpr ⟨w16 62 rfl, fun _ h => absurd h List.not_mem_nil⟩⟩⟩⟩⟩, rfl, by decide, by decide, by decide +kernel⟩
set_option maxRecDepth 20000 in
theorem cv_L_85 : CWv RL 85 RX8 yX8_orders cX8_orders 1 (some .int) 0 := ⟨List.forall_mem_cons.mpr ⟨w10 32 rfl, List.forall_mem_cons.mpr ⟨w10 33 rfl, List.forall_mem_cons.mpr ⟨w10 34 rfl, List.forall_mem_cons.mpr ⟨w1 5 rfl, List.forall_mem_cons.mpr ⟨w10 35 rfl, fun _ h => absurd h List.not_mem_nil⟩⟩⟩⟩⟩, rfl, by decide, by decide, by decide +kernel⟩
set_option maxRecDepth 20000 in
theorem cv_L_88 : CWv RL 88 RX9 yX9_orders cX9_orders 3 (some .int) 0 := ⟨List.forall_mem_cons.mpr ⟨w17 5 rfl, List.forall_mem_cons.mpr ⟨w17 6 rfl, List.forall_mem_cons.mpr ⟨w17 7 rfl, List.forall_mem_cons.mpr ⟨w1 15 rfl, List.forall_mem_cons.mpr ⟨w17 8 rfl, fun _ h => absurd h List.not_mem_nil⟩⟩⟩⟩⟩, rfl, by decide, by decide, by decide +kernel⟩
set_option maxRecDepth 20000 in
theorem cv_L_89 : CWv RL 89 RX8 yX8_beforehand cX8_beforehand 2 (some .int) 1 := ⟨List.forall_mem_cons.mpr ⟨w10 41 rfl, List.forall_mem_cons.mpr ⟨w10 42 rfl, List.forall_mem_cons.mpr ⟨w10 43 rfl, List.forall_mem_cons.mpr ⟨w1 5 rfl, List.forall_mem_cons.mpr ⟨w10 44 rfl, fun _ h => absurd h List.not_mem_nil⟩⟩⟩⟩⟩, rfl, by decide, by decide, by decide +kernel⟩
set_option maxRecDepth 20000 in
theorem cv_L_92 : CWv RL 92 RX9 yX9_beforehand cX9_beforehand 4 (some .int) 1 := ⟨List.forall_mem_cons.mpr ⟨w17 9 rfl, List.forall_mem_cons.mpr ⟨w17 10 rfl, List.forall_mem_cons.mpr ⟨w17 11 rfl, List.forall_mem_cons.mpr ⟨w1 15 rfl, List.forall_mem_cons.mpr ⟨w17 12 rfl, fun _ h => absurd h List.not_mem_nil⟩⟩⟩⟩⟩, rfl, by decide, by decide, by decide +kernel⟩
set_option maxRecDepth 20000 in
theorem cv_L_93 : CWv RL 93 RX8 yX8_spots cX8_spots 7 (some .int) 2 := ⟨List.forall_mem_cons.mpr ⟨w10 55 rfl, List.forall_mem_cons.mpr ⟨w10 56 rfl, List.forall_mem_cons.mpr ⟨w10 57 rfl, List.forall_mem_cons.mpr ⟨w1 5 rfl, List.forall_mem_cons.mpr ⟨w10 58 rfl, fun _ h => absurd h List.not_mem_nil⟩⟩⟩⟩⟩, rfl, by decide, by decide, by decide +kernel⟩
set_option maxRecDepth 20000 in
theorem cv_L_96 : CWv RL 96 RX9 yX9_spots cX9_spots 8 (some .int) 2 := ⟨List.forall_mem_cons.mpr ⟨w17 16 rfl, List.forall_mem_cons.mpr ⟨w17 17 rfl, List.forall_mem_cons.mpr ⟨w17 18 rfl, List.forall_mem_cons.mpr ⟨w1 15 rfl, List.forall_mem_cons.mpr ⟨w17 19 rfl, fun _ h => absurd h List.not_mem_nil⟩⟩⟩⟩⟩, rfl, by decide, by decide, by decide +kernel⟩
set_option maxRecDepth 20000 in
theorem cv_L_97 : CWv RL 97 RX8 yX8_crack cX8_crack 2 (some .int) 1 := ⟨List.forall_mem_cons.mpr ⟨w11 10 rfl, List.forall_mem_cons.mpr ⟨w11 11 rfl, List.forall_mem_cons.mpr ⟨w11 12 rfl, List.forall_mem_cons.mpr ⟨w1 5 rfl, List.forall_mem_cons.mpr ⟨w11 13 rfl, fun _ h => absurd h List.not_mem_nil⟩⟩⟩⟩⟩, rfl, by decide, by decide, by decide +kernel⟩
set_option maxRecDepth 20000 in
theorem cv_L_100 : CWv RL 100 RX9 yX9_crack cX9_crack 2 (some .int) 1 := ⟨List.forall_mem_cons.mpr ⟨w17 24 rfl, List.forall_mem_cons.mpr ⟨w17 25 rfl, List.forall_mem_cons.mpr ⟨w17 26 rfl, List.forall_mem_cons.mpr ⟨w1 15 rfl, List.forall_mem_cons.mpr ⟨w17 27 rfl, fun _ h => absurd h List.not_mem_nil⟩⟩⟩⟩⟩, rfl, by decide, by decide, by decide +kernel⟩
set_option maxRecDepth 20000 in
theorem cv_L_101 : CWv RL 101 RX8 yX8_warm cX8_warm 2 (some .int) 0 := ⟨List.forall_mem_cons.mpr ⟨w11 20 rfl, List.forall_mem_cons.mpr ⟨w11 21 rfl, List.forall_mem_cons.mpr ⟨w11 22 rfl, List.forall_mem_cons.mpr ⟨w1 5 rfl, List.forall_mem_cons.mpr ⟨w11 23 rfl, fun _ h => absurd h List.not_mem_nil⟩⟩⟩⟩⟩, rfl, by decide, by decide, by decide +kernel⟩
set_option maxRecDepth 20000 in
theorem cv_L_104 : CWv RL 104 RX9 yX9_warm cX9_warm 2 (some .int) 0 := ⟨List.forall_mem_cons.mpr ⟨w17 32 rfl, List.forall_mem_cons.mpr ⟨w17 33 rfl, List.forall_mem_cons.mpr ⟨w17 34 rfl, List.forall_mem_cons.mpr ⟨w1 15 rfl, List.forall_mem_cons.mpr ⟨w17 35 rfl, fun _ h => absurd h List.not_mem_nil⟩⟩⟩⟩⟩, rfl, by decide, by decide, by decide +kernel⟩
set_option maxRecDepth 20000 in
theorem cv_L_105 : CWv RL 105 RX8 yX8_wire cX8_wire 5 (some .int) 3 := ⟨List.forall_mem_cons.mpr ⟨w11 24 rfl, List.forall_mem_cons.mpr ⟨w11 25 rfl, List.forall_mem_cons.mpr ⟨w11 26 rfl, List.forall_mem_cons.mpr ⟨w1 5 rfl, List.forall_mem_cons.mpr ⟨w11 27 rfl, fun _ h => absurd h List.not_mem_nil⟩⟩⟩⟩⟩, rfl, by decide, by decide, by decide +kernel⟩
set_option maxRecDepth 20000 in
theorem cv_L_108 : CWv RL 108 RX9 yX9_wire cX9_wire 8 (some .int) 3 := ⟨List.forall_mem_cons.mpr ⟨w17 36 rfl, List.forall_mem_cons.mpr ⟨w17 37 rfl, List.forall_mem_cons.mpr ⟨w17 38 rfl, List.forall_mem_cons.mpr ⟨w1 15 rfl, List.forall_mem_cons.mpr ⟨w17 39 rfl, fun _ h => absurd h List.not_mem_nil⟩⟩⟩⟩⟩, rfl, by decide, by decide, by decide +kernel⟩
set_option maxRecDepth 20000 in
theorem cv_L_109 : CWv RL 109 RX8 yX8_kind cX8_kind 2 (some .int) 1 := ⟨List.forall_mem_cons.mpr ⟨w11 41 rfl, List.forall_mem_cons.mpr ⟨w11 42 rfl, List.forall_mem_cons.mpr ⟨w11 43 rfl, List.forall_mem_cons.mpr ⟨w1 5 rfl, List.forall_mem_cons.mpr ⟨w11 44 rfl, fun _ h => absurd h List.not_mem_nil⟩⟩⟩⟩⟩, rfl, by decide, by decide, by decide +kernel⟩
set_option maxRecDepth 20000 in
theorem cv_L_112 : CWv RL 112 RX9 yX9_kind cX9_kind 2 (some .int) 1 := ⟨List.forall_mem_cons.mpr ⟨w17 46 rfl, List.forall_mem_cons.mpr ⟨w17 47 rfl, List.forall_mem_cons.mpr ⟨w17 48 rfl, List.forall_mem_cons.mpr ⟨w1 15 rfl, List.forall_mem_cons.mpr ⟨w17 49 rfl, fun _ h => absurd h List.not_mem_nil⟩⟩⟩⟩⟩, rfl, by decide, by decide, by decide +kernel⟩
set_option maxRecDepth 20000 in
theorem cv_L_113 : CWv RL 113 RX8 yX8_as cX8_as 3 (some .int) 2 := ⟨List.forall_mem_cons.mpr ⟨w11 49 rfl, List.forall_mem_cons.mpr ⟨w11 50 rfl, List.forall_mem_cons.mpr ⟨w11 51 rfl, List.forall_mem_cons.mpr ⟨w1 5 rfl, List.forall_mem_cons.mpr ⟨w11 52 rfl, fun _ h => absurd h List.not_mem_nil⟩⟩⟩⟩⟩, rfl, by decide, by decide, by decide +kernel⟩
set_option maxRecDepth 20000 in
theorem cv_L_116 : CWv RL 116 RX9 yX9_as cX9_as 3 (some .int) 2 := ⟨List.forall_mem_cons.mpr ⟨w17 53 rfl, List.forall_mem_cons.mpr ⟨w17 54 rfl, List.forall_mem_cons.mpr ⟨w17 55 rfl, List.forall_mem_cons.mpr ⟨w1 15 rfl, List.forall_mem_cons.mpr ⟨w17 56 rfl, fun _ h => absurd h List.not_mem_nil⟩⟩⟩⟩⟩, rfl, by decide, by decide, by decide +kernel⟩
set_option maxRecDepth 20000 in
theorem cv_L_117 : CWv RL 117 RX8 yX8_ask cX8_ask 3 (some .int) 2 := ⟨List.forall_mem_cons.mpr ⟨w11 61 rfl, List.forall_mem_cons.mpr ⟨w11 62 rfl, List.forall_mem_cons.mpr ⟨w11 63 rfl, List.forall_mem_cons.mpr ⟨w1 5 rfl, List.forall_mem_cons.mpr ⟨w12 0 rfl, fun _ h => absurd h List.not_mem_nil⟩⟩⟩⟩⟩, rfl, by decide, by decide, by decide +kernel⟩
set_option maxRecDepth 20000 in
theorem cv_L_120 : CWv RL 120 RX9 yX9_ask cX9_ask 3 (some .int) 2 := ⟨List.forall_mem_cons.mpr ⟨w17 61 rfl, List.forall_mem_cons.mpr ⟨w17 62 rfl, List.forall_mem_cons.mpr ⟨w17 63 rfl, List.forall_mem_cons.mpr ⟨w1 15 rfl, List.forall_mem_cons.mpr ⟨w18 0 rfl, fun _ h => absurd h List.not_mem_nil⟩⟩⟩⟩⟩, rfl, by decide, by decide, by decide +kernel⟩
set_option maxRecDepth 20000 in
theorem cv_L_121 : CWv RL 121 RX8 yX8_trace cX8_trace 2 (some .int) 1 := ⟨List.forall_mem_cons.mpr ⟨w12 20 rfl, List.forall_mem_cons.mpr ⟨w12 21 rfl, List.forall_mem_cons.mpr ⟨w12 22 rfl, List.forall_mem_cons.mpr ⟨w1 5 rfl, List.forall_mem_cons.mpr ⟨w12 23 rfl, fun _ h => absurd h List.not_mem_nil⟩⟩⟩⟩⟩, rfl, by decide, by decide, by decide +kernel⟩
set_option maxRecDepth 20000 in
theorem cv_L_124 : CWv RL 124 RX9 yX9_trace cX9_trace 2 (some .int) 1 := ⟨List.forall_mem_cons.mpr ⟨w18 13 rfl, List.forall_mem_cons.mpr ⟨w18 14 rfl, List.forall_mem_cons.mpr ⟨w18 15 rfl, List.forall_mem_cons.mpr ⟨w1 15 rfl, List.forall_mem_cons.mpr ⟨w18 16 rfl, fun _ h => absurd h List.not_mem_nil⟩⟩⟩⟩⟩, rfl, by decide, by decide, by decide +kernel⟩
set_option maxRecDepth 20000 in
theorem cv_L_125 : CWv RL 125 RX8 yX8_count cX8_count 2 (some .int) 1 := ⟨List.forall_mem_cons.mpr ⟨w12 29 rfl, List.forall_mem_cons.mpr ⟨w12 30 rfl, List.forall_mem_cons.mpr ⟨w12 31 rfl, List.forall_mem_cons.mpr ⟨w1 5 rfl, List.forall_mem_cons.mpr ⟨w12 32 rfl, fun _ h => absurd h List.not_mem_nil⟩⟩⟩⟩⟩, rfl, by decide, by decide, by decide +kernel⟩
set_option maxRecDepth 20000 in
theorem cv_L_128 : CWv RL 128 RX9 yX9_count cX9_count 4 (some .int) 1 := ⟨List.forall_mem_cons.mpr ⟨w18 17 rfl, List.forall_mem_cons.mpr ⟨w18 18 rfl, List.forall_mem_cons.mpr ⟨w18 19 rfl, List.forall_mem_cons.mpr ⟨w1 15 rfl, List.forall_mem_cons.mpr ⟨w18 20 rfl, fun _ h => absurd h List.not_mem_nil⟩⟩⟩⟩⟩, rfl, by decide, by decide, by decide +kernel⟩
set_option maxRecDepth 20000 in
theorem cv_L_129 : CWv RL 129 RX8 yX8_status cX8_status 1 (some .int) 0 := ⟨List.forall_mem_cons.mpr ⟨w12 37 rfl, List.forall_mem_cons.mpr ⟨w12 38 rfl, List.forall_mem_cons.mpr ⟨w12 39 rfl, List.forall_mem_cons.mpr ⟨w1 5 rfl, List.forall_mem_cons.mpr ⟨w12 40 rfl, fun _ h => absurd h List.not_mem_nil⟩⟩⟩⟩⟩, rfl, by decide, by decide, by decide +kernel⟩
set_option maxRecDepth 20000 in
theorem cv_L_132 : CWv RL 132 RX9 yX9_status cX9_status 1 (some .int) 0 := ⟨List.forall_mem_cons.mpr ⟨w18 21 rfl, List.forall_mem_cons.mpr ⟨w18 22 rfl, List.forall_mem_cons.mpr ⟨w18 23 rfl, List.forall_mem_cons.mpr ⟨w1 15 rfl, List.forall_mem_cons.mpr ⟨w18 24 rfl, fun _ h => absurd h List.not_mem_nil⟩⟩⟩⟩⟩, rfl, by decide, by decide, by decide +kernel⟩
def m_L_law (Z : ZT) (zn : Nat) (ss : Nat → Int32) (L kx km : Nat) (μ : MT) : Option (Int32 × MT) :=
  (loop (σ := Int32 × MT) (τ := (Int32 × MT) ⊕ (MT)) (fun (y1, ν2) => ((if ((Int32.ofNat L) - 6) < y1 then some (Sum.inr (Sum.inr ν2)) else (scl ss L y1).bind fun x9 => (((if (x9 &&& 31) = 0 then (scl ss L (y1 + 1)).bind fun x16 => (scl ss L (y1 + 2)).bind fun x17 => (scl ss L (y1 + 3)).bind fun x18 => (m_X8_sheet Z kx x16 x17 x18 ν2).bind fun (r19, ν20) => (scl ss L (y1 + 1)).bind fun x21 => (scl ss L (y1 + 2)).bind fun x22 => (scl ss L (y1 + 3)).bind fun x23 => (m_X9_sheet Z km x21 x22 x23 ν20).bind fun (r24, ν25) => (if r19 = r24 then some (Sum.inr ν25) else some (Sum.inl (Sum.inr (Sum.inl (0, ν25))))) else if (x9 &&& 31) = 1 then (scl ss L (y1 + 1)).bind fun x27 => (scl ss L (y1 + 2)).bind fun x28 => (scl ss L (y1 + 3)).bind fun x29 => (m_X8_set Z kx x27 x28 x29 ν2).bind fun (r30, ν31) => (scl ss L (y1 + 1)).bind fun x32 => (scl ss L (y1 + 2)).bind fun x33 => (scl ss L (y1 + 3)).bind fun x34 => (m_X9_set Z km x32 x33 x34 ν31).bind fun (r35, ν36) => (if r30 = r35 then some (Sum.inr ν36) else some (Sum.inl (Sum.inr (Sum.inl (0, ν36))))) else if (x9 &&& 31) = 2 then (scl ss L (y1 + 1)).bind fun x38 => (scl ss L (y1 + 2)).bind fun x39 => (scl ss L (y1 + 3)).bind fun x40 => (scl ss L (y1 + 4)).bind fun x41 => (scl ss L (y1 + 5)).bind fun x42 => (m_X8_copy Z kx x38 x39 x40 x41 x42 ν2).bind fun (r43, ν44) => (scl ss L (y1 + 1)).bind fun x45 => (scl ss L (y1 + 2)).bind fun x46 => (scl ss L (y1 + 3)).bind fun x47 => (scl ss L (y1 + 4)).bind fun x48 => (scl ss L (y1 + 5)).bind fun x49 => (m_X9_copy Z km x45 x46 x47 x48 x49 ν44).bind fun (r50, ν51) => (if r43 = r50 then some (Sum.inr ν51) else some (Sum.inl (Sum.inr (Sum.inl (0, ν51))))) else if (x9 &&& 31) = 3 then (scl ss L (y1 + 1)).bind fun x53 => (m_X8_drop Z kx x53 ν2).bind fun (r54, ν55) => (scl ss L (y1 + 1)).bind fun x56 => (m_X9_drop Z km x56 ν55).bind fun (r57, ν58) => (if r54 = r57 then some (Sum.inr ν58) else some (Sum.inl (Sum.inr (Sum.inl (0, ν58))))) else if (x9 &&& 31) = 4 then (scl ss L (y1 + 1)).bind fun x60 => (scl ss L (y1 + 2)).bind fun x61 => (scl ss L (y1 + 3)).bind fun x62 => (m_X8_feed Z kx ((((x60 : Int32).toInt64) <<< ((32 : Int32).toInt64 &&& 63)) ||| (((x61 : Int32).toInt64) &&& 4294967295)) x62 ν2).bind fun (r63, ν64) => (scl ss L (y1 + 1)).bind fun x65 => (scl ss L (y1 + 2)).bind fun x66 => (scl ss L (y1 + 3)).bind fun x67 => (m_X9_feed Z km ((((x65 : Int32).toInt64) <<< ((32 : Int32).toInt64 &&& 63)) ||| (((x66 : Int32).toInt64) &&& 4294967295)) x67 ν64).bind fun (r68, ν69) => (if r63 = r68 then some (Sum.inr ν69) else some (Sum.inl (Sum.inr (Sum.inl (0, ν69))))) else if (x9 &&& 31) = 5 then (m_X8_plan Z zn kx ν2).bind fun (r71, ν72) => (m_X9_plan Z km ν72).bind fun (r73, ν74) => (if r71 = r73 then some (Sum.inr ν74) else some (Sum.inl (Sum.inr (Sum.inl (0, ν74))))) else if (x9 &&& 31) = 6 then (m_X8_fault Z kx ν2).bind fun r76 => (m_X9_fault Z km ν2).bind fun (r77, ν78) => (if r76 = r77 then some (Sum.inr ν78) else some (Sum.inl (Sum.inr (Sum.inl (0, ν78))))) else if (x9 &&& 31) = 7 then (scl ss L (y1 + 1)).bind fun x80 => (scl ss L (y1 + 2)).bind fun x81 => (m_X8_act Z zn kx x80 x81 ν2).bind fun r82 => (scl ss L (y1 + 1)).bind fun x83 => (scl ss L (y1 + 2)).bind fun x84 => (m_X9_act Z km x83 x84 ν2).bind fun (r85, ν86) => (if r82 = r85 then some (Sum.inr ν86) else some (Sum.inl (Sum.inr (Sum.inl (0, ν86))))) else if (x9 &&& 31) = 8 then (scl ss L (y1 + 1)).bind fun x88 => (scl ss L (y1 + 2)).bind fun x89 => (m_X8_open Z zn kx x88 x89 ν2).bind fun (r90, ν91) => (scl ss L (y1 + 1)).bind fun x92 => (scl ss L (y1 + 2)).bind fun x93 => (m_X9_open Z km x92 x93 ν91).bind fun (r94, ν95) => (if r90 = r94 then some (Sum.inr ν95) else some (Sum.inl (Sum.inr (Sum.inl (0, ν95))))) else if (x9 &&& 31) = 9 then (scl ss L (y1 + 1)).bind fun x97 => (scl ss L (y1 + 2)).bind fun x98 => (m_X8_run Z zn kx x97 x98 ν2).bind fun (r99, ν100) => (scl ss L (y1 + 1)).bind fun x101 => (scl ss L (y1 + 2)).bind fun x102 => (m_X9_run Z km x101 x102 ν100).bind fun (r103, ν104) => (if r99 = r103 then some (Sum.inr ν104) else some (Sum.inl (Sum.inr (Sum.inl (0, ν104))))) else if (x9 &&& 31) = 10 then (m_X8_runs Z zn kx ν2).bind fun (r106, ν107) => (m_X9_runs Z km ν107).bind fun (r108, ν109) => (if r106 = r108 then some (Sum.inr ν109) else some (Sum.inl (Sum.inr (Sum.inl (0, ν109))))) else if (x9 &&& 31) = 11 then (scl ss L (y1 + 1)).bind fun x111 => (scl ss L (y1 + 2)).bind fun x112 => (m_X8_cell Z zn kx x111 x112 ν2).bind fun (r113, ν114) => (scl ss L (y1 + 1)).bind fun x115 => (scl ss L (y1 + 2)).bind fun x116 => (m_X9_cell Z km x115 x116 ν114).bind fun (r117, ν118) => (if r113 = r117 then some (Sum.inr ν118) else some (Sum.inl (Sum.inr (Sum.inl (0, ν118))))) else if (x9 &&& 31) = 12 then (scl ss L (y1 + 1)).bind fun x120 => (m_X8_height Z zn kx x120 ν2).bind fun r121 => (scl ss L (y1 + 1)).bind fun x122 => (m_X9_height Z km x122 ν2).bind fun (r123, ν124) => (if r121 = r123 then some (Sum.inr ν124) else some (Sum.inl (Sum.inr (Sum.inl (0, ν124))))) else if (x9 &&& 31) = 13 then (m_X8_minutes Z kx ν2).bind fun r126 => (m_X9_minutes Z km ν2).bind fun (r127, ν128) => (if r126 = r127 then some (Sum.inr ν128) else some (Sum.inl (Sum.inr (Sum.inl (0, ν128))))) else if (x9 &&& 31) = 14 then (scl ss L (y1 + 1)).bind fun x130 => (m_X8_gives Z zn kx x130 ν2).bind fun (r131, ν132) => (scl ss L (y1 + 1)).bind fun x133 => (m_X9_gives Z km x133 ν132).bind fun (r134, ν135) => (if r131 = r134 then some (Sum.inr ν135) else some (Sum.inl (Sum.inr (Sum.inl (0, ν135))))) else if (x9 &&& 31) = 15 then (scl ss L (y1 + 1)).bind fun x137 => (m_X8_best Z zn kx x137 ν2).bind fun (r138, ν139) => (scl ss L (y1 + 1)).bind fun x140 => (m_X9_best Z km x140 ν139).bind fun (r141, ν142) => (if r138 = r141 then some (Sum.inr ν142) else some (Sum.inl (Sum.inr (Sum.inl (0, ν142))))) else if (x9 &&& 31) = 16 then (m_X8_orders Z zn kx ν2).bind fun (r144, ν145) => (m_X9_orders Z km ν145).bind fun (r146, ν147) => (if r144 = r146 then some (Sum.inr ν147) else some (Sum.inl (Sum.inr (Sum.inl (0, ν147))))) else if (x9 &&& 31) = 17 then (scl ss L (y1 + 1)).bind fun x149 => (m_X8_beforehand Z zn kx x149 ν2).bind fun (r150, ν151) => (scl ss L (y1 + 1)).bind fun x152 => (m_X9_beforehand Z km x152 ν151).bind fun (r153, ν154) => (if r150 = r153 then some (Sum.inr ν154) else some (Sum.inl (Sum.inr (Sum.inl (0, ν154))))) else if (x9 &&& 31) = 18 then (scl ss L (y1 + 1)).bind fun x156 => (scl ss L (y1 + 2)).bind fun x157 => (m_X8_spots Z zn kx x156 x157 ν2).bind fun (r158, ν159) => (scl ss L (y1 + 1)).bind fun x160 => (scl ss L (y1 + 2)).bind fun x161 => (m_X9_spots Z km x160 x161 ν159).bind fun (r162, ν163) => (if r158 = r162 then some (Sum.inr ν163) else some (Sum.inl (Sum.inr (Sum.inl (0, ν163))))) else if (x9 &&& 31) = 19 then (scl ss L (y1 + 1)).bind fun x165 => (m_X8_crack Z kx x165 ν2).bind fun r166 => (scl ss L (y1 + 1)).bind fun x167 => (m_X9_crack Z km x167 ν2).bind fun (r168, ν169) => (if r166 = r168 then some (Sum.inr ν169) else some (Sum.inl (Sum.inr (Sum.inl (0, ν169))))) else if (x9 &&& 31) = 20 then (m_X8_warm Z zn kx ν2).bind fun r171 => (m_X9_warm Z km ν2).bind fun (r172, ν173) => (if r171 = r172 then some (Sum.inr ν173) else some (Sum.inl (Sum.inr (Sum.inl (0, ν173))))) else if (x9 &&& 31) = 21 then (scl ss L (y1 + 1)).bind fun x175 => (scl ss L (y1 + 2)).bind fun x176 => (scl ss L (y1 + 3)).bind fun x177 => (m_X8_wire Z zn kx x175 x176 x177 ν2).bind fun (r178, ν179) => (scl ss L (y1 + 1)).bind fun x180 => (scl ss L (y1 + 2)).bind fun x181 => (scl ss L (y1 + 3)).bind fun x182 => (m_X9_wire Z km x180 x181 x182 ν179).bind fun (r183, ν184) => (if r178 = r183 then some (Sum.inr ν184) else some (Sum.inl (Sum.inr (Sum.inl (0, ν184))))) else if (x9 &&& 31) = 22 then (scl ss L (y1 + 1)).bind fun x186 => (m_X8_kind Z zn kx x186 ν2).bind fun r187 => (scl ss L (y1 + 1)).bind fun x188 => (m_X9_kind Z km x188 ν2).bind fun (r189, ν190) => (if r187 = r189 then some (Sum.inr ν190) else some (Sum.inl (Sum.inr (Sum.inl (0, ν190))))) else if (x9 &&& 31) = 23 then (scl ss L (y1 + 1)).bind fun x192 => (scl ss L (y1 + 2)).bind fun x193 => (m_X8_as Z zn kx x192 x193 ν2).bind fun (r194, ν195) => (scl ss L (y1 + 1)).bind fun x196 => (scl ss L (y1 + 2)).bind fun x197 => (m_X9_as Z km x196 x197 ν195).bind fun (r198, ν199) => (if r194 = r198 then some (Sum.inr ν199) else some (Sum.inl (Sum.inr (Sum.inl (0, ν199))))) else if (x9 &&& 31) = 24 then (scl ss L (y1 + 1)).bind fun x201 => (scl ss L (y1 + 2)).bind fun x202 => (m_X8_ask Z zn kx x201 x202 ν2).bind fun (r203, ν204) => (scl ss L (y1 + 1)).bind fun x205 => (scl ss L (y1 + 2)).bind fun x206 => (m_X9_ask Z km x205 x206 ν204).bind fun (r207, ν208) => (if r203 = r207 then some (Sum.inr ν208) else some (Sum.inl (Sum.inr (Sum.inl (0, ν208))))) else if (x9 &&& 31) = 25 then (scl ss L (y1 + 1)).bind fun x210 => (m_X8_trace Z kx x210 ν2).bind fun r211 => (scl ss L (y1 + 1)).bind fun x212 => (m_X9_trace Z km x212 ν2).bind fun (r213, ν214) => (if r211 = r213 then some (Sum.inr ν214) else some (Sum.inl (Sum.inr (Sum.inl (0, ν214))))) else if (x9 &&& 31) = 26 then (scl ss L (y1 + 1)).bind fun x216 => (m_X8_count Z zn kx x216 ν2).bind fun r217 => (scl ss L (y1 + 1)).bind fun x218 => (m_X9_count Z km x218 ν2).bind fun (r219, ν220) => (if r217 = r219 then some (Sum.inr ν220) else some (Sum.inl (Sum.inr (Sum.inl (0, ν220))))) else if (x9 &&& 31) = 27 then (m_X8_status Z kx ν2).bind fun r222 => (m_X9_status Z km ν2).bind fun (r223, ν224) => (if r222 = r223 then some (Sum.inr ν224) else some (Sum.inl (Sum.inr (Sum.inl (0, ν224))))) else some (Sum.inr ν2)) : Option (((Int32 × MT) ⊕ ((Int32 × MT) ⊕ (MT))) ⊕ (MT)))).bind (jn (fun ν10 => (some (y1 + 6)).bind fun x14 => some (Sum.inl (x14, ν10))))) : Option ((Int32 × MT) ⊕ ((Int32 × MT) ⊕ (MT))))) LN (0, μ)).bind (jn (fun ν3 => some (1, ν3)))
set_option maxRecDepth 100000 in
set_option maxHeartbeats 8000000 in
theorem s_L_law {x : CX} {G : GT} {Z : ZT} {cs : Nat × Nat} {b : Nat} (hG : DA G) (hZ : WT G Z) {ss : Nat → Int32} {L kx km : Nat} {μ : MT} (C : CF x G Z code 4 BG RL) (hS : SCR x G ss L) (hkx : Ob G Z kx 8) (hkm : Ob G Z km 9) (hR : RO x cs 46) (hgb : gb G = (xs x).heap.size) (hRm : xR x = room_1) (hxa : xa x = #[Value.ref b]) (hc1 : cs.1 ≤ 600000) (hc2 : cs.2 ≤ 7302250) (hr : (xM x).sig.returnType = ret) : VK x G Z cs 4 (QL x) (fun q : Int32 × MT => (some (.int q.1), q.2)) 16 [(2, .ref (ga G km)), (1, .ref (ga G kx)), (0, .ref (ga G 3000))] [] μ (m_L_law Z (gn G) ss L kx km μ) some := by
  unfold m_L_law
  refine v_iconst C (v := 0) (by decide) dL_law_16 ?_
  refine v_istore_n C (lv' := [(3, .int 0), (2, .ref (ga G km)), (1, .ref (ga G kx)), (0, .ref (ga G 3000))]) rfl (by decide) rfl dL_law_17 ?_
  refine v_sub (lv' := [(0, .ref (ga G 3000)), (1, .ref (ga G kx)), (2, .ref (ga G km)), (3, .int 0)]) [3, 2, 1, 0] rfl ?_
  refine v_lpm 18 950 (fun t : Int32 × MT => [(0, .ref (ga G 3000)), (1, .ref (ga G kx)), (2, .ref (ga G km)), (3, .int (t.1))]) (fun t : Int32 × MT => t.2) (fun t : MT => []) (fun t : MT => t) ?_ ?_ LN (0, μ)
  · intro ν3
    refine v_iconst C (v := 1) (by decide) dL_law_950 ?_
    exact v_lw1 C hgb hRm hxa hc1 hc2 hr dL_law_951
  · intro X4 F6 e8 hX5 hF7
    rintro ⟨y1, ν2⟩
    refine v_iload_n C (n := 3) rfl rfl dL_law_18 ?_
    refine v_aload_n C (n := 0) rfl rfl dL_law_19 ?_
    refine v_scl C hS dL_law_20 ?_
    refine v_bipush C (v := 6) (by decide) dL_law_21 ?_
    refine v_isub C dL_law_23 ?_
    refine v_icgt C (t := 950) dL_law_24 (by decide) ?_ ?_
    · refine v_sub (lv' := []) [] rfl ?_
      exact v_leaf (hF7 ν2)
    · refine v_aload_n C (n := 0) rfl rfl dL_law_27 ?_
      refine v_iload_n C (n := 3) rfl rfl dL_law_28 ?_
      refine v_sca C hS dL_law_29 (fun x9 => ?_)
      refine v_bipush C (v := 31) (by decide) dL_law_30 ?_
      refine v_iand C dL_law_32 ?_
      refine v_joinm 944 (fun t : MT => [(0, .ref (ga G 3000)), (1, .ref (ga G kx)), (2, .ref (ga G km)), (3, .int y1)]) (fun t : MT => []) (fun t : MT => t) ?_ ?_
      · intro ν10
        refine v_iinc C (n := 3) (v := y1 + 6) (lv' := [(3, .int (y1 + 6)), (0, .ref (ga G 3000)), (1, .ref (ga G kx)), (2, .ref (ga G km))]) rfl (congrArg (y1 + ·) (by decide : Int32.ofInt (6) = (6 : Int32))) (by decide) rfl dL_law_944 ?_
        refine v_let (y := y1 + 6) (fun x14 => [(3, .int x14), (0, .ref (ga G 3000)), (1, .ref (ga G kx)), (2, .ref (ga G km))]) (fun x14 => []) (fun x14 => ?_)
        refine v_goto C (t := 18) (by decide) dL_law_947 ?_
        refine v_sub (lv' := [(0, .ref (ga G 3000)), (1, .ref (ga G kx)), (2, .ref (ga G km)), (3, .int x14)]) [1, 2, 3, 0] rfl ?_
        exact v_leaf (hX5 (x14, ν10))
      intro F12 e13 hF11
      refine v_case (fun c15 => ?_) (fun c15 => ?_)
      · refine v_tin C (t := 160) (k := 0) c15 dL_law_33 (by decide) (by decide) rfl (by decide) ?_
        refine v_aload_n C (n := 1) rfl rfl dL_law_160 ?_
        refine v_aload_n C (n := 0) rfl rfl dL_law_161 ?_
        refine v_iload_n C (n := 3) rfl rfl dL_law_162 ?_
        refine v_iconst C (v := 1) (by decide) dL_law_163 ?_
        refine v_iadd C dL_law_164 ?_
        refine v_sca C hS dL_law_165 (fun x16 => ?_)
        refine v_aload_n C (n := 0) rfl rfl dL_law_166 ?_
        refine v_iload_n C (n := 3) rfl rfl dL_law_167 ?_
        refine v_iconst C (v := 2) (by decide) dL_law_168 ?_
        refine v_iadd C dL_law_169 ?_
        refine v_sca C hS dL_law_170 (fun x17 => ?_)
        refine v_aload_n C (n := 0) rfl rfl dL_law_171 ?_
        refine v_iload_n C (n := 3) rfl rfl dL_law_172 ?_
        refine v_iconst C (v := 3) (by decide) dL_law_173 ?_
        refine v_iadd C dL_law_174 ?_
        refine v_sca C hS dL_law_175 (fun x18 => ?_)
        refine v_cvIi C (d := 2) (hR.le (by omega)) (c := 8) rfl cv_L_13 (by decide) hkx (by decide) [.int x16, .int x17, .int x18] rfl (fun _ hc => s_X8_sheet G Z hG hZ   hkx hc) (Nat.le_of_ble_eq_true rfl) dL_law_176 rfl (fun r19 ν20 => ?_)
        refine v_aload_n C (n := 2) rfl rfl dL_law_179 ?_
        refine v_aload_n C (n := 0) rfl rfl dL_law_180 ?_
        refine v_iload_n C (n := 3) rfl rfl dL_law_181 ?_
        refine v_iconst C (v := 1) (by decide) dL_law_182 ?_
        refine v_iadd C dL_law_183 ?_
        refine v_sca C hS dL_law_184 (fun x21 => ?_)
        refine v_aload_n C (n := 0) rfl rfl dL_law_185 ?_
        refine v_iload_n C (n := 3) rfl rfl dL_law_186 ?_
        refine v_iconst C (v := 2) (by decide) dL_law_187 ?_
        refine v_iadd C dL_law_188 ?_
        refine v_sca C hS dL_law_189 (fun x22 => ?_)
        refine v_aload_n C (n := 0) rfl rfl dL_law_190 ?_
        refine v_iload_n C (n := 3) rfl rfl dL_law_191 ?_
        refine v_iconst C (v := 3) (by decide) dL_law_192 ?_
        refine v_iadd C dL_law_193 ?_
        refine v_sca C hS dL_law_194 (fun x23 => ?_)
        refine v_cvIi C (d := 2) (hR.le (by omega)) (c := 9) rfl cv_L_17 (by decide) hkm (by decide) [.int x21, .int x22, .int x23] rfl (fun _ hc => s_X9_sheet G Z hG hZ   hkm hc) (Nat.le_of_ble_eq_true rfl) dL_law_195 rfl (fun r24 ν25 => ?_)
        refine v_iceq C (t := 944) dL_law_198 (by decide) ?_ ?_
        · exact v_leaf (hF11 ν25)
        · refine v_iconst C (v := 0) (by decide) dL_law_201 ?_
          exact v_lw0 (fun a h => by simp only [ob_s, lq, e13, e8] at h; have h := Option.some.inj h; subst h; rfl)
      refine v_case (fun c26 => ?_) (fun c26 => ?_)
      · refine v_tin C (t := 203) (k := 1) c26 dL_law_33 (by decide) (by decide) rfl (by decide) ?_
        refine v_aload_n C (n := 1) rfl rfl dL_law_203 ?_
        refine v_aload_n C (n := 0) rfl rfl dL_law_204 ?_
        refine v_iload_n C (n := 3) rfl rfl dL_law_205 ?_
        refine v_iconst C (v := 1) (by decide) dL_law_206 ?_
        refine v_iadd C dL_law_207 ?_
        refine v_sca C hS dL_law_208 (fun x27 => ?_)
        refine v_aload_n C (n := 0) rfl rfl dL_law_209 ?_
        refine v_iload_n C (n := 3) rfl rfl dL_law_210 ?_
        refine v_iconst C (v := 2) (by decide) dL_law_211 ?_
        refine v_iadd C dL_law_212 ?_
        refine v_sca C hS dL_law_213 (fun x28 => ?_)
        refine v_aload_n C (n := 0) rfl rfl dL_law_214 ?_
        refine v_iload_n C (n := 3) rfl rfl dL_law_215 ?_
        refine v_iconst C (v := 3) (by decide) dL_law_216 ?_
        refine v_iadd C dL_law_217 ?_
        refine v_sca C hS dL_law_218 (fun x29 => ?_)
        refine v_cvIi C (d := 2) (hR.le (by omega)) (c := 8) rfl cv_L_18 (by decide) hkx (by decide) [.int x27, .int x28, .int x29] rfl (fun _ hc => s_X8_set G Z hG hZ   hkx hc) (Nat.le_of_ble_eq_true rfl) dL_law_219 rfl (fun r30 ν31 => ?_)
        refine v_aload_n C (n := 2) rfl rfl dL_law_222 ?_
        refine v_aload_n C (n := 0) rfl rfl dL_law_223 ?_
        refine v_iload_n C (n := 3) rfl rfl dL_law_224 ?_
        refine v_iconst C (v := 1) (by decide) dL_law_225 ?_
        refine v_iadd C dL_law_226 ?_
        refine v_sca C hS dL_law_227 (fun x32 => ?_)
        refine v_aload_n C (n := 0) rfl rfl dL_law_228 ?_
        refine v_iload_n C (n := 3) rfl rfl dL_law_229 ?_
        refine v_iconst C (v := 2) (by decide) dL_law_230 ?_
        refine v_iadd C dL_law_231 ?_
        refine v_sca C hS dL_law_232 (fun x33 => ?_)
        refine v_aload_n C (n := 0) rfl rfl dL_law_233 ?_
        refine v_iload_n C (n := 3) rfl rfl dL_law_234 ?_
        refine v_iconst C (v := 3) (by decide) dL_law_235 ?_
        refine v_iadd C dL_law_236 ?_
        refine v_sca C hS dL_law_237 (fun x34 => ?_)
        refine v_cvIi C (d := 2) (hR.le (by omega)) (c := 9) rfl cv_L_21 (by decide) hkm (by decide) [.int x32, .int x33, .int x34] rfl (fun _ hc => s_X9_set G Z hG hZ   hkm hc) (Nat.le_of_ble_eq_true rfl) dL_law_238 rfl (fun r35 ν36 => ?_)
        refine v_iceq C (t := 944) dL_law_241 (by decide) ?_ ?_
        · exact v_leaf (hF11 ν36)
        · refine v_iconst C (v := 0) (by decide) dL_law_244 ?_
          exact v_lw0 (fun a h => by simp only [ob_s, lq, e13, e8] at h; have h := Option.some.inj h; subst h; rfl)
      refine v_case (fun c37 => ?_) (fun c37 => ?_)
      · refine v_tin C (t := 246) (k := 2) c37 dL_law_33 (by decide) (by decide) rfl (by decide) ?_
        refine v_aload_n C (n := 1) rfl rfl dL_law_246 ?_
        refine v_aload_n C (n := 0) rfl rfl dL_law_247 ?_
        refine v_iload_n C (n := 3) rfl rfl dL_law_248 ?_
        refine v_iconst C (v := 1) (by decide) dL_law_249 ?_
        refine v_iadd C dL_law_250 ?_
        refine v_sca C hS dL_law_251 (fun x38 => ?_)
        refine v_aload_n C (n := 0) rfl rfl dL_law_252 ?_
        refine v_iload_n C (n := 3) rfl rfl dL_law_253 ?_
        refine v_iconst C (v := 2) (by decide) dL_law_254 ?_
        refine v_iadd C dL_law_255 ?_
        refine v_sca C hS dL_law_256 (fun x39 => ?_)
        refine v_aload_n C (n := 0) rfl rfl dL_law_257 ?_
        refine v_iload_n C (n := 3) rfl rfl dL_law_258 ?_
        refine v_iconst C (v := 3) (by decide) dL_law_259 ?_
        refine v_iadd C dL_law_260 ?_
        refine v_sca C hS dL_law_261 (fun x40 => ?_)
        refine v_aload_n C (n := 0) rfl rfl dL_law_262 ?_
        refine v_iload_n C (n := 3) rfl rfl dL_law_263 ?_
        refine v_iconst C (v := 4) (by decide) dL_law_264 ?_
        refine v_iadd C dL_law_265 ?_
        refine v_sca C hS dL_law_266 (fun x41 => ?_)
        refine v_aload_n C (n := 0) rfl rfl dL_law_267 ?_
        refine v_iload_n C (n := 3) rfl rfl dL_law_268 ?_
        refine v_iconst C (v := 5) (by decide) dL_law_269 ?_
        refine v_iadd C dL_law_270 ?_
        refine v_sca C hS dL_law_271 (fun x42 => ?_)
        refine v_cvIi C (d := 2) (hR.le (by omega)) (c := 8) rfl cv_L_22 (by decide) hkx (by decide) [.int x38, .int x39, .int x40, .int x41, .int x42] rfl (fun _ hc => s_X8_copy G Z hG hZ   hkx hc) (Nat.le_of_ble_eq_true rfl) dL_law_272 rfl (fun r43 ν44 => ?_)
        refine v_aload_n C (n := 2) rfl rfl dL_law_275 ?_
        refine v_aload_n C (n := 0) rfl rfl dL_law_276 ?_
        refine v_iload_n C (n := 3) rfl rfl dL_law_277 ?_
        refine v_iconst C (v := 1) (by decide) dL_law_278 ?_
        refine v_iadd C dL_law_279 ?_
        refine v_sca C hS dL_law_280 (fun x45 => ?_)
        refine v_aload_n C (n := 0) rfl rfl dL_law_281 ?_
        refine v_iload_n C (n := 3) rfl rfl dL_law_282 ?_
        refine v_iconst C (v := 2) (by decide) dL_law_283 ?_
        refine v_iadd C dL_law_284 ?_
        refine v_sca C hS dL_law_285 (fun x46 => ?_)
        refine v_aload_n C (n := 0) rfl rfl dL_law_286 ?_
        refine v_iload_n C (n := 3) rfl rfl dL_law_287 ?_
        refine v_iconst C (v := 3) (by decide) dL_law_288 ?_
        refine v_iadd C dL_law_289 ?_
        refine v_sca C hS dL_law_290 (fun x47 => ?_)
        refine v_aload_n C (n := 0) rfl rfl dL_law_291 ?_
        refine v_iload_n C (n := 3) rfl rfl dL_law_292 ?_
        refine v_iconst C (v := 4) (by decide) dL_law_293 ?_
        refine v_iadd C dL_law_294 ?_
        refine v_sca C hS dL_law_295 (fun x48 => ?_)
        refine v_aload_n C (n := 0) rfl rfl dL_law_296 ?_
        refine v_iload_n C (n := 3) rfl rfl dL_law_297 ?_
        refine v_iconst C (v := 5) (by decide) dL_law_298 ?_
        refine v_iadd C dL_law_299 ?_
        refine v_sca C hS dL_law_300 (fun x49 => ?_)
        refine v_cvIi C (d := 2) (hR.le (by omega)) (c := 9) rfl cv_L_26 (by decide) hkm (by decide) [.int x45, .int x46, .int x47, .int x48, .int x49] rfl (fun _ hc => s_X9_copy G Z hG hZ   hkm hc) (Nat.le_of_ble_eq_true rfl) dL_law_301 rfl (fun r50 ν51 => ?_)
        refine v_iceq C (t := 944) dL_law_304 (by decide) ?_ ?_
        · exact v_leaf (hF11 ν51)
        · refine v_iconst C (v := 0) (by decide) dL_law_307 ?_
          exact v_lw0 (fun a h => by simp only [ob_s, lq, e13, e8] at h; have h := Option.some.inj h; subst h; rfl)
      refine v_case (fun c52 => ?_) (fun c52 => ?_)
      · refine v_tin C (t := 309) (k := 3) c52 dL_law_33 (by decide) (by decide) rfl (by decide) ?_
        refine v_aload_n C (n := 1) rfl rfl dL_law_309 ?_
        refine v_aload_n C (n := 0) rfl rfl dL_law_310 ?_
        refine v_iload_n C (n := 3) rfl rfl dL_law_311 ?_
        refine v_iconst C (v := 1) (by decide) dL_law_312 ?_
        refine v_iadd C dL_law_313 ?_
        refine v_sca C hS dL_law_314 (fun x53 => ?_)
        refine v_cvIi C (d := 1) (hR.le (by omega)) (c := 8) rfl cv_L_27 (by decide) hkx (by decide) [.int x53] rfl (fun _ hc => s_X8_drop G Z hG hZ   hkx hc) (Nat.le_of_ble_eq_true rfl) dL_law_315 rfl (fun r54 ν55 => ?_)
        refine v_aload_n C (n := 2) rfl rfl dL_law_318 ?_
        refine v_aload_n C (n := 0) rfl rfl dL_law_319 ?_
        refine v_iload_n C (n := 3) rfl rfl dL_law_320 ?_
        refine v_iconst C (v := 1) (by decide) dL_law_321 ?_
        refine v_iadd C dL_law_322 ?_
        refine v_sca C hS dL_law_323 (fun x56 => ?_)
        refine v_cvIi C (d := 2) (hR.le (by omega)) (c := 9) rfl cv_L_31 (by decide) hkm (by decide) [.int x56] rfl (fun _ hc => s_X9_drop G Z hG hZ   hkm hc) (Nat.le_of_ble_eq_true rfl) dL_law_324 rfl (fun r57 ν58 => ?_)
        refine v_iceq C (t := 944) dL_law_327 (by decide) ?_ ?_
        · exact v_leaf (hF11 ν58)
        · refine v_iconst C (v := 0) (by decide) dL_law_330 ?_
          exact v_lw0 (fun a h => by simp only [ob_s, lq, e13, e8] at h; have h := Option.some.inj h; subst h; rfl)
      refine v_case (fun c59 => ?_) (fun c59 => ?_)
      · refine v_tin C (t := 332) (k := 4) c59 dL_law_33 (by decide) (by decide) rfl (by decide) ?_
        refine v_aload_n C (n := 1) rfl rfl dL_law_332 ?_
        refine v_aload_n C (n := 0) rfl rfl dL_law_333 ?_
        refine v_iload_n C (n := 3) rfl rfl dL_law_334 ?_
        refine v_iconst C (v := 1) (by decide) dL_law_335 ?_
        refine v_iadd C dL_law_336 ?_
        refine v_sca C hS dL_law_337 (fun x60 => ?_)
        refine v_i2l C (v := (x60 : Int32).toInt64) rfl dL_law_338 ?_
        refine v_bipush C (v := 32) (by decide) dL_law_339 ?_
        refine v_lshl C (v := ((x60 : Int32).toInt64) <<< ((32 : Int32).toInt64 &&& 63)) rfl dL_law_341 ?_
        refine v_aload_n C (n := 0) rfl rfl dL_law_342 ?_
        refine v_iload_n C (n := 3) rfl rfl dL_law_343 ?_
        refine v_iconst C (v := 2) (by decide) dL_law_344 ?_
        refine v_iadd C dL_law_345 ?_
        refine v_sca C hS dL_law_346 (fun x61 => ?_)
        refine v_i2l C (v := (x61 : Int32).toInt64) rfl dL_law_347 ?_
        refine v_ldc2 C (v := 4294967295) (w18 25 rfl) dL_law_348 ?_
        refine v_land C dL_law_351 ?_
        refine v_lor C dL_law_352 ?_
        refine v_aload_n C (n := 0) rfl rfl dL_law_353 ?_
        refine v_iload_n C (n := 3) rfl rfl dL_law_354 ?_
        refine v_iconst C (v := 3) (by decide) dL_law_355 ?_
        refine v_iadd C dL_law_356 ?_
        refine v_sca C hS dL_law_357 (fun x62 => ?_)
        refine v_cvIi C (d := 1) (hR.le (by omega)) (c := 8) rfl cv_L_34 (by decide) hkx (by decide) [.long ((((x60 : Int32).toInt64) <<< ((32 : Int32).toInt64 &&& 63)) ||| (((x61 : Int32).toInt64) &&& 4294967295)), .int x62] rfl (fun _ hc => s_X8_feed G Z hG hZ   hkx hc) (Nat.le_of_ble_eq_true rfl) dL_law_358 rfl (fun r63 ν64 => ?_)
        refine v_aload_n C (n := 2) rfl rfl dL_law_361 ?_
        refine v_aload_n C (n := 0) rfl rfl dL_law_362 ?_
        refine v_iload_n C (n := 3) rfl rfl dL_law_363 ?_
        refine v_iconst C (v := 1) (by decide) dL_law_364 ?_
        refine v_iadd C dL_law_365 ?_
        refine v_sca C hS dL_law_366 (fun x65 => ?_)
        refine v_i2l C (v := (x65 : Int32).toInt64) rfl dL_law_367 ?_
        refine v_bipush C (v := 32) (by decide) dL_law_368 ?_
        refine v_lshl C (v := ((x65 : Int32).toInt64) <<< ((32 : Int32).toInt64 &&& 63)) rfl dL_law_370 ?_
        refine v_aload_n C (n := 0) rfl rfl dL_law_371 ?_
        refine v_iload_n C (n := 3) rfl rfl dL_law_372 ?_
        refine v_iconst C (v := 2) (by decide) dL_law_373 ?_
        refine v_iadd C dL_law_374 ?_
        refine v_sca C hS dL_law_375 (fun x66 => ?_)
        refine v_i2l C (v := (x66 : Int32).toInt64) rfl dL_law_376 ?_
        refine v_ldc2 C (v := 4294967295) (w18 25 rfl) dL_law_377 ?_
        refine v_land C dL_law_380 ?_
        refine v_lor C dL_law_381 ?_
        refine v_aload_n C (n := 0) rfl rfl dL_law_382 ?_
        refine v_iload_n C (n := 3) rfl rfl dL_law_383 ?_
        refine v_iconst C (v := 3) (by decide) dL_law_384 ?_
        refine v_iadd C dL_law_385 ?_
        refine v_sca C hS dL_law_386 (fun x67 => ?_)
        refine v_cvIi C (d := 1) (hR.le (by omega)) (c := 9) rfl cv_L_38 (by decide) hkm (by decide) [.long ((((x65 : Int32).toInt64) <<< ((32 : Int32).toInt64 &&& 63)) ||| (((x66 : Int32).toInt64) &&& 4294967295)), .int x67] rfl (fun _ hc => s_X9_feed G Z hG hZ   hkm hc) (Nat.le_of_ble_eq_true rfl) dL_law_387 rfl (fun r68 ν69 => ?_)
        refine v_iceq C (t := 944) dL_law_390 (by decide) ?_ ?_
        · exact v_leaf (hF11 ν69)
        · refine v_iconst C (v := 0) (by decide) dL_law_393 ?_
          exact v_lw0 (fun a h => by simp only [ob_s, lq, e13, e8] at h; have h := Option.some.inj h; subst h; rfl)
      refine v_case (fun c70 => ?_) (fun c70 => ?_)
      · refine v_tin C (t := 395) (k := 5) c70 dL_law_33 (by decide) (by decide) rfl (by decide) ?_
        refine v_aload_n C (n := 1) rfl rfl dL_law_395 ?_
        refine v_cvIi C (d := 9) (hR.le (by omega)) (c := 8) rfl cv_L_39 (by decide) hkx (by decide) [] rfl (fun _ hc => s_X8_plan G Z hG hZ   hkx hc) (Nat.le_of_ble_eq_true rfl) dL_law_396 rfl (fun r71 ν72 => ?_)
        refine v_aload_n C (n := 2) rfl rfl dL_law_399 ?_
        refine v_cvIi C (d := 6) (hR.le (by omega)) (c := 9) rfl cv_L_43 (by decide) hkm (by decide) [] rfl (fun _ hc => s_X9_plan G Z hG hZ   hkm hc) (Nat.le_of_ble_eq_true rfl) dL_law_400 rfl (fun r73 ν74 => ?_)
        refine v_iceq C (t := 944) dL_law_403 (by decide) ?_ ?_
        · exact v_leaf (hF11 ν74)
        · refine v_iconst C (v := 0) (by decide) dL_law_406 ?_
          exact v_lw0 (fun a h => by simp only [ob_s, lq, e13, e8] at h; have h := Option.some.inj h; subst h; rfl)
      refine v_case (fun c75 => ?_) (fun c75 => ?_)
      · refine v_tin C (t := 408) (k := 6) c75 dL_law_33 (by decide) (by decide) rfl (by decide) ?_
        refine v_aload_n C (n := 1) rfl rfl dL_law_408 ?_
        refine v_cvRi C (d := 0) (hR.le (by omega)) (c := 8) rfl cv_L_44 (by decide) hkx (by decide) [] rfl (fun _ hc => s_X8_fault G Z hG hZ   hkx hc) (Nat.le_of_ble_eq_true rfl) dL_law_409 rfl (fun r76 => ?_)
        refine v_aload_n C (n := 2) rfl rfl dL_law_412 ?_
        refine v_cvIi C (d := 0) (hR.le (by omega)) (c := 9) rfl cv_L_47 (by decide) hkm (by decide) [] rfl (fun _ hc => s_X9_fault G Z hG hZ   hkm hc) (Nat.le_of_ble_eq_true rfl) dL_law_413 rfl (fun r77 ν78 => ?_)
        refine v_iceq C (t := 944) dL_law_416 (by decide) ?_ ?_
        · exact v_leaf (hF11 ν78)
        · refine v_iconst C (v := 0) (by decide) dL_law_419 ?_
          exact v_lw0 (fun a h => by simp only [ob_s, lq, e13, e8] at h; have h := Option.some.inj h; subst h; rfl)
      refine v_case (fun c79 => ?_) (fun c79 => ?_)
      · refine v_tin C (t := 421) (k := 7) c79 dL_law_33 (by decide) (by decide) rfl (by decide) ?_
        refine v_aload_n C (n := 1) rfl rfl dL_law_421 ?_
        refine v_aload_n C (n := 0) rfl rfl dL_law_422 ?_
        refine v_iload_n C (n := 3) rfl rfl dL_law_423 ?_
        refine v_iconst C (v := 1) (by decide) dL_law_424 ?_
        refine v_iadd C dL_law_425 ?_
        refine v_sca C hS dL_law_426 (fun x80 => ?_)
        refine v_aload_n C (n := 0) rfl rfl dL_law_427 ?_
        refine v_iload_n C (n := 3) rfl rfl dL_law_428 ?_
        refine v_iconst C (v := 2) (by decide) dL_law_429 ?_
        refine v_iadd C dL_law_430 ?_
        refine v_sca C hS dL_law_431 (fun x81 => ?_)
        refine v_cvRi C (d := 2) (hR.le (by omega)) (c := 8) rfl cv_L_48 (by decide) hkx (by decide) [.int x80, .int x81] rfl (fun _ hc => s_X8_act G Z hG hZ   hkx hc) (Nat.le_of_ble_eq_true rfl) dL_law_432 rfl (fun r82 => ?_)
        refine v_aload_n C (n := 2) rfl rfl dL_law_435 ?_
        refine v_aload_n C (n := 0) rfl rfl dL_law_436 ?_
        refine v_iload_n C (n := 3) rfl rfl dL_law_437 ?_
        refine v_iconst C (v := 1) (by decide) dL_law_438 ?_
        refine v_iadd C dL_law_439 ?_
        refine v_sca C hS dL_law_440 (fun x83 => ?_)
        refine v_aload_n C (n := 0) rfl rfl dL_law_441 ?_
        refine v_iload_n C (n := 3) rfl rfl dL_law_442 ?_
        refine v_iconst C (v := 2) (by decide) dL_law_443 ?_
        refine v_iadd C dL_law_444 ?_
        refine v_sca C hS dL_law_445 (fun x84 => ?_)
        refine v_cvIi C (d := 2) (hR.le (by omega)) (c := 9) rfl cv_L_52 (by decide) hkm (by decide) [.int x83, .int x84] rfl (fun _ hc => s_X9_act G Z hG hZ   hkm hc) (Nat.le_of_ble_eq_true rfl) dL_law_446 rfl (fun r85 ν86 => ?_)
        refine v_iceq C (t := 944) dL_law_449 (by decide) ?_ ?_
        · exact v_leaf (hF11 ν86)
        · refine v_iconst C (v := 0) (by decide) dL_law_452 ?_
          exact v_lw0 (fun a h => by simp only [ob_s, lq, e13, e8] at h; have h := Option.some.inj h; subst h; rfl)
      refine v_case (fun c87 => ?_) (fun c87 => ?_)
      · refine v_tin C (t := 454) (k := 8) c87 dL_law_33 (by decide) (by decide) rfl (by decide) ?_
        refine v_aload_n C (n := 1) rfl rfl dL_law_454 ?_
        refine v_aload_n C (n := 0) rfl rfl dL_law_455 ?_
        refine v_iload_n C (n := 3) rfl rfl dL_law_456 ?_
        refine v_iconst C (v := 1) (by decide) dL_law_457 ?_
        refine v_iadd C dL_law_458 ?_
        refine v_sca C hS dL_law_459 (fun x88 => ?_)
        refine v_aload_n C (n := 0) rfl rfl dL_law_460 ?_
        refine v_iload_n C (n := 3) rfl rfl dL_law_461 ?_
        refine v_iconst C (v := 2) (by decide) dL_law_462 ?_
        refine v_iadd C dL_law_463 ?_
        refine v_sca C hS dL_law_464 (fun x89 => ?_)
        refine v_cvIi C (d := 2) (hR.le (by omega)) (c := 8) rfl cv_L_53 (by decide) hkx (by decide) [.int x88, .int x89] rfl (fun _ hc => s_X8_open G Z hG hZ   hkx hc) (Nat.le_of_ble_eq_true rfl) dL_law_465 rfl (fun r90 ν91 => ?_)
        refine v_aload_n C (n := 2) rfl rfl dL_law_468 ?_
        refine v_aload_n C (n := 0) rfl rfl dL_law_469 ?_
        refine v_iload_n C (n := 3) rfl rfl dL_law_470 ?_
        refine v_iconst C (v := 1) (by decide) dL_law_471 ?_
        refine v_iadd C dL_law_472 ?_
        refine v_sca C hS dL_law_473 (fun x92 => ?_)
        refine v_aload_n C (n := 0) rfl rfl dL_law_474 ?_
        refine v_iload_n C (n := 3) rfl rfl dL_law_475 ?_
        refine v_iconst C (v := 2) (by decide) dL_law_476 ?_
        refine v_iadd C dL_law_477 ?_
        refine v_sca C hS dL_law_478 (fun x93 => ?_)
        refine v_cvIi C (d := 2) (hR.le (by omega)) (c := 9) rfl cv_L_56 (by decide) hkm (by decide) [.int x92, .int x93] rfl (fun _ hc => s_X9_open G Z hG hZ   hkm hc) (Nat.le_of_ble_eq_true rfl) dL_law_479 rfl (fun r94 ν95 => ?_)
        refine v_iceq C (t := 944) dL_law_482 (by decide) ?_ ?_
        · exact v_leaf (hF11 ν95)
        · refine v_iconst C (v := 0) (by decide) dL_law_485 ?_
          exact v_lw0 (fun a h => by simp only [ob_s, lq, e13, e8] at h; have h := Option.some.inj h; subst h; rfl)
      refine v_case (fun c96 => ?_) (fun c96 => ?_)
      · refine v_tin C (t := 487) (k := 9) c96 dL_law_33 (by decide) (by decide) rfl (by decide) ?_
        refine v_aload_n C (n := 1) rfl rfl dL_law_487 ?_
        refine v_aload_n C (n := 0) rfl rfl dL_law_488 ?_
        refine v_iload_n C (n := 3) rfl rfl dL_law_489 ?_
        refine v_iconst C (v := 1) (by decide) dL_law_490 ?_
        refine v_iadd C dL_law_491 ?_
        refine v_sca C hS dL_law_492 (fun x97 => ?_)
        refine v_aload_n C (n := 0) rfl rfl dL_law_493 ?_
        refine v_iload_n C (n := 3) rfl rfl dL_law_494 ?_
        refine v_iconst C (v := 2) (by decide) dL_law_495 ?_
        refine v_iadd C dL_law_496 ?_
        refine v_sca C hS dL_law_497 (fun x98 => ?_)
        refine v_cvIi C (d := 6) (hR.le (by omega)) (c := 8) rfl cv_L_57 (by decide) hkx (by decide) [.int x97, .int x98] rfl (fun _ hc => s_X8_run G Z hG hZ   hkx hc) (Nat.le_of_ble_eq_true rfl) dL_law_498 rfl (fun r99 ν100 => ?_)
        refine v_aload_n C (n := 2) rfl rfl dL_law_501 ?_
        refine v_aload_n C (n := 0) rfl rfl dL_law_502 ?_
        refine v_iload_n C (n := 3) rfl rfl dL_law_503 ?_
        refine v_iconst C (v := 1) (by decide) dL_law_504 ?_
        refine v_iadd C dL_law_505 ?_
        refine v_sca C hS dL_law_506 (fun x101 => ?_)
        refine v_aload_n C (n := 0) rfl rfl dL_law_507 ?_
        refine v_iload_n C (n := 3) rfl rfl dL_law_508 ?_
        refine v_iconst C (v := 2) (by decide) dL_law_509 ?_
        refine v_iadd C dL_law_510 ?_
        refine v_sca C hS dL_law_511 (fun x102 => ?_)
        refine v_cvIi C (d := 7) (hR.le (by omega)) (c := 9) rfl cv_L_60 (by decide) hkm (by decide) [.int x101, .int x102] rfl (fun _ hc => s_X9_run G Z hG hZ   hkm hc) (Nat.le_of_ble_eq_true rfl) dL_law_512 rfl (fun r103 ν104 => ?_)
        refine v_iceq C (t := 944) dL_law_515 (by decide) ?_ ?_
        · exact v_leaf (hF11 ν104)
        · refine v_iconst C (v := 0) (by decide) dL_law_518 ?_
          exact v_lw0 (fun a h => by simp only [ob_s, lq, e13, e8] at h; have h := Option.some.inj h; subst h; rfl)
      refine v_case (fun c105 => ?_) (fun c105 => ?_)
      · refine v_tin C (t := 520) (k := 10) c105 dL_law_33 (by decide) (by decide) rfl (by decide) ?_
        refine v_aload_n C (n := 1) rfl rfl dL_law_520 ?_
        refine v_cvIi C (d := 6) (hR.le (by omega)) (c := 8) rfl cv_L_61 (by decide) hkx (by decide) [] rfl (fun _ hc => s_X8_runs G Z hG hZ   hkx hc) (Nat.le_of_ble_eq_true rfl) dL_law_521 rfl (fun r106 ν107 => ?_)
        refine v_aload_n C (n := 2) rfl rfl dL_law_524 ?_
        refine v_cvIi C (d := 7) (hR.le (by omega)) (c := 9) rfl cv_L_64 (by decide) hkm (by decide) [] rfl (fun _ hc => s_X9_runs G Z hG hZ   hkm hc) (Nat.le_of_ble_eq_true rfl) dL_law_525 rfl (fun r108 ν109 => ?_)
        refine v_iceq C (t := 944) dL_law_528 (by decide) ?_ ?_
        · exact v_leaf (hF11 ν109)
        · refine v_iconst C (v := 0) (by decide) dL_law_531 ?_
          exact v_lw0 (fun a h => by simp only [ob_s, lq, e13, e8] at h; have h := Option.some.inj h; subst h; rfl)
      refine v_case (fun c110 => ?_) (fun c110 => ?_)
      · refine v_tin C (t := 533) (k := 11) c110 dL_law_33 (by decide) (by decide) rfl (by decide) ?_
        refine v_aload_n C (n := 1) rfl rfl dL_law_533 ?_
        refine v_aload_n C (n := 0) rfl rfl dL_law_534 ?_
        refine v_iload_n C (n := 3) rfl rfl dL_law_535 ?_
        refine v_iconst C (v := 1) (by decide) dL_law_536 ?_
        refine v_iadd C dL_law_537 ?_
        refine v_sca C hS dL_law_538 (fun x111 => ?_)
        refine v_aload_n C (n := 0) rfl rfl dL_law_539 ?_
        refine v_iload_n C (n := 3) rfl rfl dL_law_540 ?_
        refine v_iconst C (v := 2) (by decide) dL_law_541 ?_
        refine v_iadd C dL_law_542 ?_
        refine v_sca C hS dL_law_543 (fun x112 => ?_)
        refine v_cvIi C (d := 2) (hR.le (by omega)) (c := 8) rfl cv_L_65 (by decide) hkx (by decide) [.int x111, .int x112] rfl (fun _ hc => s_X8_cell G Z hG hZ   hkx hc) (Nat.le_of_ble_eq_true rfl) dL_law_544 rfl (fun r113 ν114 => ?_)
        refine v_aload_n C (n := 2) rfl rfl dL_law_547 ?_
        refine v_aload_n C (n := 0) rfl rfl dL_law_548 ?_
        refine v_iload_n C (n := 3) rfl rfl dL_law_549 ?_
        refine v_iconst C (v := 1) (by decide) dL_law_550 ?_
        refine v_iadd C dL_law_551 ?_
        refine v_sca C hS dL_law_552 (fun x115 => ?_)
        refine v_aload_n C (n := 0) rfl rfl dL_law_553 ?_
        refine v_iload_n C (n := 3) rfl rfl dL_law_554 ?_
        refine v_iconst C (v := 2) (by decide) dL_law_555 ?_
        refine v_iadd C dL_law_556 ?_
        refine v_sca C hS dL_law_557 (fun x116 => ?_)
        refine v_cvIi C (d := 2) (hR.le (by omega)) (c := 9) rfl cv_L_68 (by decide) hkm (by decide) [.int x115, .int x116] rfl (fun _ hc => s_X9_cell G Z hG hZ   hkm hc) (Nat.le_of_ble_eq_true rfl) dL_law_558 rfl (fun r117 ν118 => ?_)
        refine v_iceq C (t := 944) dL_law_561 (by decide) ?_ ?_
        · exact v_leaf (hF11 ν118)
        · refine v_iconst C (v := 0) (by decide) dL_law_564 ?_
          exact v_lw0 (fun a h => by simp only [ob_s, lq, e13, e8] at h; have h := Option.some.inj h; subst h; rfl)
      refine v_case (fun c119 => ?_) (fun c119 => ?_)
      · refine v_tin C (t := 566) (k := 12) c119 dL_law_33 (by decide) (by decide) rfl (by decide) ?_
        refine v_aload_n C (n := 1) rfl rfl dL_law_566 ?_
        refine v_aload_n C (n := 0) rfl rfl dL_law_567 ?_
        refine v_iload_n C (n := 3) rfl rfl dL_law_568 ?_
        refine v_iconst C (v := 1) (by decide) dL_law_569 ?_
        refine v_iadd C dL_law_570 ?_
        refine v_sca C hS dL_law_571 (fun x120 => ?_)
        refine v_cvRi C (d := 1) (hR.le (by omega)) (c := 8) rfl cv_L_69 (by decide) hkx (by decide) [.int x120] rfl (fun _ hc => s_X8_height G Z hG hZ   hkx hc) (Nat.le_of_ble_eq_true rfl) dL_law_572 rfl (fun r121 => ?_)
        refine v_aload_n C (n := 2) rfl rfl dL_law_575 ?_
        refine v_aload_n C (n := 0) rfl rfl dL_law_576 ?_
        refine v_iload_n C (n := 3) rfl rfl dL_law_577 ?_
        refine v_iconst C (v := 1) (by decide) dL_law_578 ?_
        refine v_iadd C dL_law_579 ?_
        refine v_sca C hS dL_law_580 (fun x122 => ?_)
        refine v_cvIi C (d := 2) (hR.le (by omega)) (c := 9) rfl cv_L_72 (by decide) hkm (by decide) [.int x122] rfl (fun _ hc => s_X9_height G Z hG hZ   hkm hc) (Nat.le_of_ble_eq_true rfl) dL_law_581 rfl (fun r123 ν124 => ?_)
        refine v_iceq C (t := 944) dL_law_584 (by decide) ?_ ?_
        · exact v_leaf (hF11 ν124)
        · refine v_iconst C (v := 0) (by decide) dL_law_587 ?_
          exact v_lw0 (fun a h => by simp only [ob_s, lq, e13, e8] at h; have h := Option.some.inj h; subst h; rfl)
      refine v_case (fun c125 => ?_) (fun c125 => ?_)
      · refine v_tin C (t := 589) (k := 13) c125 dL_law_33 (by decide) (by decide) rfl (by decide) ?_
        refine v_aload_n C (n := 1) rfl rfl dL_law_589 ?_
        refine v_cvRi C (d := 0) (hR.le (by omega)) (c := 8) rfl cv_L_73 (by decide) hkx (by decide) [] rfl (fun _ hc => s_X8_minutes G Z hG hZ   hkx hc) (Nat.le_of_ble_eq_true rfl) dL_law_590 rfl (fun r126 => ?_)
        refine v_aload_n C (n := 2) rfl rfl dL_law_593 ?_
        refine v_cvIi C (d := 0) (hR.le (by omega)) (c := 9) rfl cv_L_76 (by decide) hkm (by decide) [] rfl (fun _ hc => s_X9_minutes G Z hG hZ   hkm hc) (Nat.le_of_ble_eq_true rfl) dL_law_594 rfl (fun r127 ν128 => ?_)
        refine v_iceq C (t := 944) dL_law_597 (by decide) ?_ ?_
        · exact v_leaf (hF11 ν128)
        · refine v_iconst C (v := 0) (by decide) dL_law_600 ?_
          exact v_lw0 (fun a h => by simp only [ob_s, lq, e13, e8] at h; have h := Option.some.inj h; subst h; rfl)
      refine v_case (fun c129 => ?_) (fun c129 => ?_)
      · refine v_tin C (t := 602) (k := 14) c129 dL_law_33 (by decide) (by decide) rfl (by decide) ?_
        refine v_aload_n C (n := 1) rfl rfl dL_law_602 ?_
        refine v_aload_n C (n := 0) rfl rfl dL_law_603 ?_
        refine v_iload_n C (n := 3) rfl rfl dL_law_604 ?_
        refine v_iconst C (v := 1) (by decide) dL_law_605 ?_
        refine v_iadd C dL_law_606 ?_
        refine v_sca C hS dL_law_607 (fun x130 => ?_)
        refine v_cvIi C (d := 5) (hR.le (by omega)) (c := 8) rfl cv_L_77 (by decide) hkx (by decide) [.int x130] rfl (fun _ hc => s_X8_gives G Z hG hZ   hkx hc) (Nat.le_of_ble_eq_true rfl) dL_law_608 rfl (fun r131 ν132 => ?_)
        refine v_aload_n C (n := 2) rfl rfl dL_law_611 ?_
        refine v_aload_n C (n := 0) rfl rfl dL_law_612 ?_
        refine v_iload_n C (n := 3) rfl rfl dL_law_613 ?_
        refine v_iconst C (v := 1) (by decide) dL_law_614 ?_
        refine v_iadd C dL_law_615 ?_
        refine v_sca C hS dL_law_616 (fun x133 => ?_)
        refine v_cvIi C (d := 7) (hR.le (by omega)) (c := 9) rfl cv_L_80 (by decide) hkm (by decide) [.int x133] rfl (fun _ hc => s_X9_gives G Z hG hZ   hkm hc) (Nat.le_of_ble_eq_true rfl) dL_law_617 rfl (fun r134 ν135 => ?_)
        refine v_iceq C (t := 944) dL_law_620 (by decide) ?_ ?_
        · exact v_leaf (hF11 ν135)
        · refine v_iconst C (v := 0) (by decide) dL_law_623 ?_
          exact v_lw0 (fun a h => by simp only [ob_s, lq, e13, e8] at h; have h := Option.some.inj h; subst h; rfl)
      refine v_case (fun c136 => ?_) (fun c136 => ?_)
      · refine v_tin C (t := 625) (k := 15) c136 dL_law_33 (by decide) (by decide) rfl (by decide) ?_
        refine v_aload_n C (n := 1) rfl rfl dL_law_625 ?_
        refine v_aload_n C (n := 0) rfl rfl dL_law_626 ?_
        refine v_iload_n C (n := 3) rfl rfl dL_law_627 ?_
        refine v_iconst C (v := 1) (by decide) dL_law_628 ?_
        refine v_iadd C dL_law_629 ?_
        refine v_sca C hS dL_law_630 (fun x137 => ?_)
        refine v_cvIi C (d := 14) (hR.le (by omega)) (c := 8) rfl cv_L_81 (by decide) hkx (by decide) [.int x137] rfl (fun _ hc => s_X8_best G Z hG hZ   hkx hc) (Nat.le_of_ble_eq_true rfl) dL_law_631 rfl (fun r138 ν139 => ?_)
        refine v_aload_n C (n := 2) rfl rfl dL_law_634 ?_
        refine v_aload_n C (n := 0) rfl rfl dL_law_635 ?_
        refine v_iload_n C (n := 3) rfl rfl dL_law_636 ?_
        refine v_iconst C (v := 1) (by decide) dL_law_637 ?_
        refine v_iadd C dL_law_638 ?_
        refine v_sca C hS dL_law_639 (fun x140 => ?_)
        refine v_cvIi C (d := 7) (hR.le (by omega)) (c := 9) rfl cv_L_84 (by decide) hkm (by decide) [.int x140] rfl (fun _ hc => s_X9_best G Z hG hZ   hkm hc) (Nat.le_of_ble_eq_true rfl) dL_law_640 rfl (fun r141 ν142 => ?_)
        refine v_iceq C (t := 944) dL_law_643 (by decide) ?_ ?_
        · exact v_leaf (hF11 ν142)
        · refine v_iconst C (v := 0) (by decide) dL_law_646 ?_
          exact v_lw0 (fun a h => by simp only [ob_s, lq, e13, e8] at h; have h := Option.some.inj h; subst h; rfl)
      refine v_case (fun c143 => ?_) (fun c143 => ?_)
      · refine v_tin C (t := 648) (k := 16) c143 dL_law_33 (by decide) (by decide) rfl (by decide) ?_
        refine v_aload_n C (n := 1) rfl rfl dL_law_648 ?_
        refine v_cvIi C (d := 3) (hR.le (by omega)) (c := 8) rfl cv_L_85 (by decide) hkx (by decide) [] rfl (fun _ hc => s_X8_orders G Z hG hZ   hkx hc) (Nat.le_of_ble_eq_true rfl) dL_law_649 rfl (fun r144 ν145 => ?_)
        refine v_aload_n C (n := 2) rfl rfl dL_law_652 ?_
        refine v_cvIi C (d := 1) (hR.le (by omega)) (c := 9) rfl cv_L_88 (by decide) hkm (by decide) [] rfl (fun _ hc => s_X9_orders G Z hG hZ   hkm hc) (Nat.le_of_ble_eq_true rfl) dL_law_653 rfl (fun r146 ν147 => ?_)
        refine v_iceq C (t := 944) dL_law_656 (by decide) ?_ ?_
        · exact v_leaf (hF11 ν147)
        · refine v_iconst C (v := 0) (by decide) dL_law_659 ?_
          exact v_lw0 (fun a h => by simp only [ob_s, lq, e13, e8] at h; have h := Option.some.inj h; subst h; rfl)
      refine v_case (fun c148 => ?_) (fun c148 => ?_)
      · refine v_tin C (t := 661) (k := 17) c148 dL_law_33 (by decide) (by decide) rfl (by decide) ?_
        refine v_aload_n C (n := 1) rfl rfl dL_law_661 ?_
        refine v_aload_n C (n := 0) rfl rfl dL_law_662 ?_
        refine v_iload_n C (n := 3) rfl rfl dL_law_663 ?_
        refine v_iconst C (v := 1) (by decide) dL_law_664 ?_
        refine v_iadd C dL_law_665 ?_
        refine v_sca C hS dL_law_666 (fun x149 => ?_)
        refine v_cvIi C (d := 6) (hR.le (by omega)) (c := 8) rfl cv_L_89 (by decide) hkx (by decide) [.int x149] rfl (fun _ hc => s_X8_beforehand G Z hG hZ   hkx hc) (Nat.le_of_ble_eq_true rfl) dL_law_667 rfl (fun r150 ν151 => ?_)
        refine v_aload_n C (n := 2) rfl rfl dL_law_670 ?_
        refine v_aload_n C (n := 0) rfl rfl dL_law_671 ?_
        refine v_iload_n C (n := 3) rfl rfl dL_law_672 ?_
        refine v_iconst C (v := 1) (by decide) dL_law_673 ?_
        refine v_iadd C dL_law_674 ?_
        refine v_sca C hS dL_law_675 (fun x152 => ?_)
        refine v_cvIi C (d := 8) (hR.le (by omega)) (c := 9) rfl cv_L_92 (by decide) hkm (by decide) [.int x152] rfl (fun _ hc => s_X9_beforehand G Z hG hZ   hkm hc) (Nat.le_of_ble_eq_true rfl) dL_law_676 rfl (fun r153 ν154 => ?_)
        refine v_iceq C (t := 944) dL_law_679 (by decide) ?_ ?_
        · exact v_leaf (hF11 ν154)
        · refine v_iconst C (v := 0) (by decide) dL_law_682 ?_
          exact v_lw0 (fun a h => by simp only [ob_s, lq, e13, e8] at h; have h := Option.some.inj h; subst h; rfl)
      refine v_case (fun c155 => ?_) (fun c155 => ?_)
      · refine v_tin C (t := 684) (k := 18) c155 dL_law_33 (by decide) (by decide) rfl (by decide) ?_
        refine v_aload_n C (n := 1) rfl rfl dL_law_684 ?_
        refine v_aload_n C (n := 0) rfl rfl dL_law_685 ?_
        refine v_iload_n C (n := 3) rfl rfl dL_law_686 ?_
        refine v_iconst C (v := 1) (by decide) dL_law_687 ?_
        refine v_iadd C dL_law_688 ?_
        refine v_sca C hS dL_law_689 (fun x156 => ?_)
        refine v_aload_n C (n := 0) rfl rfl dL_law_690 ?_
        refine v_iload_n C (n := 3) rfl rfl dL_law_691 ?_
        refine v_iconst C (v := 2) (by decide) dL_law_692 ?_
        refine v_iadd C dL_law_693 ?_
        refine v_sca C hS dL_law_694 (fun x157 => ?_)
        refine v_cvIi C (d := 3) (hR.le (by omega)) (c := 8) rfl cv_L_93 (by decide) hkx (by decide) [.int x156, .int x157] rfl (fun _ hc => s_X8_spots G Z hG hZ   hkx hc) (Nat.le_of_ble_eq_true rfl) dL_law_695 rfl (fun r158 ν159 => ?_)
        refine v_aload_n C (n := 2) rfl rfl dL_law_698 ?_
        refine v_aload_n C (n := 0) rfl rfl dL_law_699 ?_
        refine v_iload_n C (n := 3) rfl rfl dL_law_700 ?_
        refine v_iconst C (v := 1) (by decide) dL_law_701 ?_
        refine v_iadd C dL_law_702 ?_
        refine v_sca C hS dL_law_703 (fun x160 => ?_)
        refine v_aload_n C (n := 0) rfl rfl dL_law_704 ?_
        refine v_iload_n C (n := 3) rfl rfl dL_law_705 ?_
        refine v_iconst C (v := 2) (by decide) dL_law_706 ?_
        refine v_iadd C dL_law_707 ?_
        refine v_sca C hS dL_law_708 (fun x161 => ?_)
        refine v_cvIi C (d := 2) (hR.le (by omega)) (c := 9) rfl cv_L_96 (by decide) hkm (by decide) [.int x160, .int x161] rfl (fun _ hc => s_X9_spots G Z hG hZ   hkm hc) (Nat.le_of_ble_eq_true rfl) dL_law_709 rfl (fun r162 ν163 => ?_)
        refine v_iceq C (t := 944) dL_law_712 (by decide) ?_ ?_
        · exact v_leaf (hF11 ν163)
        · refine v_iconst C (v := 0) (by decide) dL_law_715 ?_
          exact v_lw0 (fun a h => by simp only [ob_s, lq, e13, e8] at h; have h := Option.some.inj h; subst h; rfl)
      refine v_case (fun c164 => ?_) (fun c164 => ?_)
      · refine v_tin C (t := 717) (k := 19) c164 dL_law_33 (by decide) (by decide) rfl (by decide) ?_
        refine v_aload_n C (n := 1) rfl rfl dL_law_717 ?_
        refine v_aload_n C (n := 0) rfl rfl dL_law_718 ?_
        refine v_iload_n C (n := 3) rfl rfl dL_law_719 ?_
        refine v_iconst C (v := 1) (by decide) dL_law_720 ?_
        refine v_iadd C dL_law_721 ?_
        refine v_sca C hS dL_law_722 (fun x165 => ?_)
        refine v_cvRi C (d := 3) (hR.le (by omega)) (c := 8) rfl cv_L_97 (by decide) hkx (by decide) [.int x165] rfl (fun _ hc => s_X8_crack G Z hG hZ   hkx hc) (Nat.le_of_ble_eq_true rfl) dL_law_723 rfl (fun r166 => ?_)
        refine v_aload_n C (n := 2) rfl rfl dL_law_726 ?_
        refine v_aload_n C (n := 0) rfl rfl dL_law_727 ?_
        refine v_iload_n C (n := 3) rfl rfl dL_law_728 ?_
        refine v_iconst C (v := 1) (by decide) dL_law_729 ?_
        refine v_iadd C dL_law_730 ?_
        refine v_sca C hS dL_law_731 (fun x167 => ?_)
        refine v_cvIi C (d := 3) (hR.le (by omega)) (c := 9) rfl cv_L_100 (by decide) hkm (by decide) [.int x167] rfl (fun _ hc => s_X9_crack G Z hG hZ   hkm hc) (Nat.le_of_ble_eq_true rfl) dL_law_732 rfl (fun r168 ν169 => ?_)
        refine v_iceq C (t := 944) dL_law_735 (by decide) ?_ ?_
        · exact v_leaf (hF11 ν169)
        · refine v_iconst C (v := 0) (by decide) dL_law_738 ?_
          exact v_lw0 (fun a h => by simp only [ob_s, lq, e13, e8] at h; have h := Option.some.inj h; subst h; rfl)
      refine v_case (fun c170 => ?_) (fun c170 => ?_)
      · refine v_tin C (t := 740) (k := 20) c170 dL_law_33 (by decide) (by decide) rfl (by decide) ?_
        refine v_aload_n C (n := 1) rfl rfl dL_law_740 ?_
        refine v_cvRi C (d := 3) (hR.le (by omega)) (c := 8) rfl cv_L_101 (by decide) hkx (by decide) [] rfl (fun _ hc => s_X8_warm G Z hG hZ   hkx hc) (Nat.le_of_ble_eq_true rfl) dL_law_741 rfl (fun r171 => ?_)
        refine v_aload_n C (n := 2) rfl rfl dL_law_744 ?_
        refine v_cvIi C (d := 3) (hR.le (by omega)) (c := 9) rfl cv_L_104 (by decide) hkm (by decide) [] rfl (fun _ hc => s_X9_warm G Z hG hZ   hkm hc) (Nat.le_of_ble_eq_true rfl) dL_law_745 rfl (fun r172 ν173 => ?_)
        refine v_iceq C (t := 944) dL_law_748 (by decide) ?_ ?_
        · exact v_leaf (hF11 ν173)
        · refine v_iconst C (v := 0) (by decide) dL_law_751 ?_
          exact v_lw0 (fun a h => by simp only [ob_s, lq, e13, e8] at h; have h := Option.some.inj h; subst h; rfl)
      refine v_case (fun c174 => ?_) (fun c174 => ?_)
      · refine v_tin C (t := 753) (k := 21) c174 dL_law_33 (by decide) (by decide) rfl (by decide) ?_
        refine v_aload_n C (n := 1) rfl rfl dL_law_753 ?_
        refine v_aload_n C (n := 0) rfl rfl dL_law_754 ?_
        refine v_iload_n C (n := 3) rfl rfl dL_law_755 ?_
        refine v_iconst C (v := 1) (by decide) dL_law_756 ?_
        refine v_iadd C dL_law_757 ?_
        refine v_sca C hS dL_law_758 (fun x175 => ?_)
        refine v_aload_n C (n := 0) rfl rfl dL_law_759 ?_
        refine v_iload_n C (n := 3) rfl rfl dL_law_760 ?_
        refine v_iconst C (v := 2) (by decide) dL_law_761 ?_
        refine v_iadd C dL_law_762 ?_
        refine v_sca C hS dL_law_763 (fun x176 => ?_)
        refine v_aload_n C (n := 0) rfl rfl dL_law_764 ?_
        refine v_iload_n C (n := 3) rfl rfl dL_law_765 ?_
        refine v_iconst C (v := 3) (by decide) dL_law_766 ?_
        refine v_iadd C dL_law_767 ?_
        refine v_sca C hS dL_law_768 (fun x177 => ?_)
        refine v_cvIi C (d := 6) (hR.le (by omega)) (c := 8) rfl cv_L_105 (by decide) hkx (by decide) [.int x175, .int x176, .int x177] rfl (fun _ hc => s_X8_wire G Z hG hZ   hkx hc) (Nat.le_of_ble_eq_true rfl) dL_law_769 rfl (fun r178 ν179 => ?_)
        refine v_aload_n C (n := 2) rfl rfl dL_law_772 ?_
        refine v_aload_n C (n := 0) rfl rfl dL_law_773 ?_
        refine v_iload_n C (n := 3) rfl rfl dL_law_774 ?_
        refine v_iconst C (v := 1) (by decide) dL_law_775 ?_
        refine v_iadd C dL_law_776 ?_
        refine v_sca C hS dL_law_777 (fun x180 => ?_)
        refine v_aload_n C (n := 0) rfl rfl dL_law_778 ?_
        refine v_iload_n C (n := 3) rfl rfl dL_law_779 ?_
        refine v_iconst C (v := 2) (by decide) dL_law_780 ?_
        refine v_iadd C dL_law_781 ?_
        refine v_sca C hS dL_law_782 (fun x181 => ?_)
        refine v_aload_n C (n := 0) rfl rfl dL_law_783 ?_
        refine v_iload_n C (n := 3) rfl rfl dL_law_784 ?_
        refine v_iconst C (v := 3) (by decide) dL_law_785 ?_
        refine v_iadd C dL_law_786 ?_
        refine v_sca C hS dL_law_787 (fun x182 => ?_)
        refine v_cvIi C (d := 2) (hR.le (by omega)) (c := 9) rfl cv_L_108 (by decide) hkm (by decide) [.int x180, .int x181, .int x182] rfl (fun _ hc => s_X9_wire G Z hG hZ   hkm hc) (Nat.le_of_ble_eq_true rfl) dL_law_788 rfl (fun r183 ν184 => ?_)
        refine v_iceq C (t := 944) dL_law_791 (by decide) ?_ ?_
        · exact v_leaf (hF11 ν184)
        · refine v_iconst C (v := 0) (by decide) dL_law_794 ?_
          exact v_lw0 (fun a h => by simp only [ob_s, lq, e13, e8] at h; have h := Option.some.inj h; subst h; rfl)
      refine v_case (fun c185 => ?_) (fun c185 => ?_)
      · refine v_tin C (t := 796) (k := 22) c185 dL_law_33 (by decide) (by decide) rfl (by decide) ?_
        refine v_aload_n C (n := 1) rfl rfl dL_law_796 ?_
        refine v_aload_n C (n := 0) rfl rfl dL_law_797 ?_
        refine v_iload_n C (n := 3) rfl rfl dL_law_798 ?_
        refine v_iconst C (v := 1) (by decide) dL_law_799 ?_
        refine v_iadd C dL_law_800 ?_
        refine v_sca C hS dL_law_801 (fun x186 => ?_)
        refine v_cvRi C (d := 2) (hR.le (by omega)) (c := 8) rfl cv_L_109 (by decide) hkx (by decide) [.int x186] rfl (fun _ hc => s_X8_kind G Z hG hZ   hkx hc) (Nat.le_of_ble_eq_true rfl) dL_law_802 rfl (fun r187 => ?_)
        refine v_aload_n C (n := 2) rfl rfl dL_law_805 ?_
        refine v_aload_n C (n := 0) rfl rfl dL_law_806 ?_
        refine v_iload_n C (n := 3) rfl rfl dL_law_807 ?_
        refine v_iconst C (v := 1) (by decide) dL_law_808 ?_
        refine v_iadd C dL_law_809 ?_
        refine v_sca C hS dL_law_810 (fun x188 => ?_)
        refine v_cvIi C (d := 3) (hR.le (by omega)) (c := 9) rfl cv_L_112 (by decide) hkm (by decide) [.int x188] rfl (fun _ hc => s_X9_kind G Z hG hZ   hkm hc) (Nat.le_of_ble_eq_true rfl) dL_law_811 rfl (fun r189 ν190 => ?_)
        refine v_iceq C (t := 944) dL_law_814 (by decide) ?_ ?_
        · exact v_leaf (hF11 ν190)
        · refine v_iconst C (v := 0) (by decide) dL_law_817 ?_
          exact v_lw0 (fun a h => by simp only [ob_s, lq, e13, e8] at h; have h := Option.some.inj h; subst h; rfl)
      refine v_case (fun c191 => ?_) (fun c191 => ?_)
      · refine v_tin C (t := 819) (k := 23) c191 dL_law_33 (by decide) (by decide) rfl (by decide) ?_
        refine v_aload_n C (n := 1) rfl rfl dL_law_819 ?_
        refine v_aload_n C (n := 0) rfl rfl dL_law_820 ?_
        refine v_iload_n C (n := 3) rfl rfl dL_law_821 ?_
        refine v_iconst C (v := 1) (by decide) dL_law_822 ?_
        refine v_iadd C dL_law_823 ?_
        refine v_sca C hS dL_law_824 (fun x192 => ?_)
        refine v_aload_n C (n := 0) rfl rfl dL_law_825 ?_
        refine v_iload_n C (n := 3) rfl rfl dL_law_826 ?_
        refine v_iconst C (v := 2) (by decide) dL_law_827 ?_
        refine v_iadd C dL_law_828 ?_
        refine v_sca C hS dL_law_829 (fun x193 => ?_)
        refine v_cvIi C (d := 2) (hR.le (by omega)) (c := 8) rfl cv_L_113 (by decide) hkx (by decide) [.int x192, .int x193] rfl (fun _ hc => s_X8_as G Z hG hZ   hkx hc) (Nat.le_of_ble_eq_true rfl) dL_law_830 rfl (fun r194 ν195 => ?_)
        refine v_aload_n C (n := 2) rfl rfl dL_law_833 ?_
        refine v_aload_n C (n := 0) rfl rfl dL_law_834 ?_
        refine v_iload_n C (n := 3) rfl rfl dL_law_835 ?_
        refine v_iconst C (v := 1) (by decide) dL_law_836 ?_
        refine v_iadd C dL_law_837 ?_
        refine v_sca C hS dL_law_838 (fun x196 => ?_)
        refine v_aload_n C (n := 0) rfl rfl dL_law_839 ?_
        refine v_iload_n C (n := 3) rfl rfl dL_law_840 ?_
        refine v_iconst C (v := 2) (by decide) dL_law_841 ?_
        refine v_iadd C dL_law_842 ?_
        refine v_sca C hS dL_law_843 (fun x197 => ?_)
        refine v_cvIi C (d := 3) (hR.le (by omega)) (c := 9) rfl cv_L_116 (by decide) hkm (by decide) [.int x196, .int x197] rfl (fun _ hc => s_X9_as G Z hG hZ   hkm hc) (Nat.le_of_ble_eq_true rfl) dL_law_844 rfl (fun r198 ν199 => ?_)
        refine v_iceq C (t := 944) dL_law_847 (by decide) ?_ ?_
        · exact v_leaf (hF11 ν199)
        · refine v_iconst C (v := 0) (by decide) dL_law_850 ?_
          exact v_lw0 (fun a h => by simp only [ob_s, lq, e13, e8] at h; have h := Option.some.inj h; subst h; rfl)
      refine v_case (fun c200 => ?_) (fun c200 => ?_)
      · refine v_tin C (t := 852) (k := 24) c200 dL_law_33 (by decide) (by decide) rfl (by decide) ?_
        refine v_aload_n C (n := 1) rfl rfl dL_law_852 ?_
        refine v_aload_n C (n := 0) rfl rfl dL_law_853 ?_
        refine v_iload_n C (n := 3) rfl rfl dL_law_854 ?_
        refine v_iconst C (v := 1) (by decide) dL_law_855 ?_
        refine v_iadd C dL_law_856 ?_
        refine v_sca C hS dL_law_857 (fun x201 => ?_)
        refine v_aload_n C (n := 0) rfl rfl dL_law_858 ?_
        refine v_iload_n C (n := 3) rfl rfl dL_law_859 ?_
        refine v_iconst C (v := 2) (by decide) dL_law_860 ?_
        refine v_iadd C dL_law_861 ?_
        refine v_sca C hS dL_law_862 (fun x202 => ?_)
        refine v_cvIi C (d := 45) (hR.le (by omega)) (c := 8) rfl cv_L_117 (by decide) hkx (by decide) [.int x201, .int x202] rfl (fun _ hc => s_X8_ask G Z hG hZ   hkx hc) (Nat.le_of_ble_eq_true rfl) dL_law_863 rfl (fun r203 ν204 => ?_)
        refine v_aload_n C (n := 2) rfl rfl dL_law_866 ?_
        refine v_aload_n C (n := 0) rfl rfl dL_law_867 ?_
        refine v_iload_n C (n := 3) rfl rfl dL_law_868 ?_
        refine v_iconst C (v := 1) (by decide) dL_law_869 ?_
        refine v_iadd C dL_law_870 ?_
        refine v_sca C hS dL_law_871 (fun x205 => ?_)
        refine v_aload_n C (n := 0) rfl rfl dL_law_872 ?_
        refine v_iload_n C (n := 3) rfl rfl dL_law_873 ?_
        refine v_iconst C (v := 2) (by decide) dL_law_874 ?_
        refine v_iadd C dL_law_875 ?_
        refine v_sca C hS dL_law_876 (fun x206 => ?_)
        refine v_cvIi C (d := 4) (hR.le (by omega)) (c := 9) rfl cv_L_120 (by decide) hkm (by decide) [.int x205, .int x206] rfl (fun _ hc => s_X9_ask G Z hG hZ   hkm hc) (Nat.le_of_ble_eq_true rfl) dL_law_877 rfl (fun r207 ν208 => ?_)
        refine v_iceq C (t := 944) dL_law_880 (by decide) ?_ ?_
        · exact v_leaf (hF11 ν208)
        · refine v_iconst C (v := 0) (by decide) dL_law_883 ?_
          exact v_lw0 (fun a h => by simp only [ob_s, lq, e13, e8] at h; have h := Option.some.inj h; subst h; rfl)
      refine v_case (fun c209 => ?_) (fun c209 => ?_)
      · refine v_tin C (t := 885) (k := 25) c209 dL_law_33 (by decide) (by decide) rfl (by decide) ?_
        refine v_aload_n C (n := 1) rfl rfl dL_law_885 ?_
        refine v_aload_n C (n := 0) rfl rfl dL_law_886 ?_
        refine v_iload_n C (n := 3) rfl rfl dL_law_887 ?_
        refine v_iconst C (v := 1) (by decide) dL_law_888 ?_
        refine v_iadd C dL_law_889 ?_
        refine v_sca C hS dL_law_890 (fun x210 => ?_)
        refine v_cvRi C (d := 1) (hR.le (by omega)) (c := 8) rfl cv_L_121 (by decide) hkx (by decide) [.int x210] rfl (fun _ hc => s_X8_trace G Z hG hZ   hkx hc) (Nat.le_of_ble_eq_true rfl) dL_law_891 rfl (fun r211 => ?_)
        refine v_aload_n C (n := 2) rfl rfl dL_law_894 ?_
        refine v_aload_n C (n := 0) rfl rfl dL_law_895 ?_
        refine v_iload_n C (n := 3) rfl rfl dL_law_896 ?_
        refine v_iconst C (v := 1) (by decide) dL_law_897 ?_
        refine v_iadd C dL_law_898 ?_
        refine v_sca C hS dL_law_899 (fun x212 => ?_)
        refine v_cvIi C (d := 1) (hR.le (by omega)) (c := 9) rfl cv_L_124 (by decide) hkm (by decide) [.int x212] rfl (fun _ hc => s_X9_trace G Z hG hZ   hkm hc) (Nat.le_of_ble_eq_true rfl) dL_law_900 rfl (fun r213 ν214 => ?_)
        refine v_iceq C (t := 944) dL_law_903 (by decide) ?_ ?_
        · exact v_leaf (hF11 ν214)
        · refine v_iconst C (v := 0) (by decide) dL_law_906 ?_
          exact v_lw0 (fun a h => by simp only [ob_s, lq, e13, e8] at h; have h := Option.some.inj h; subst h; rfl)
      refine v_case (fun c215 => ?_) (fun c215 => ?_)
      · refine v_tin C (t := 908) (k := 26) c215 dL_law_33 (by decide) (by decide) rfl (by decide) ?_
        refine v_aload_n C (n := 1) rfl rfl dL_law_908 ?_
        refine v_aload_n C (n := 0) rfl rfl dL_law_909 ?_
        refine v_iload_n C (n := 3) rfl rfl dL_law_910 ?_
        refine v_iconst C (v := 1) (by decide) dL_law_911 ?_
        refine v_iadd C dL_law_912 ?_
        refine v_sca C hS dL_law_913 (fun x216 => ?_)
        refine v_cvRi C (d := 1) (hR.le (by omega)) (c := 8) rfl cv_L_125 (by decide) hkx (by decide) [.int x216] rfl (fun _ hc => s_X8_count G Z hG hZ   hkx hc) (Nat.le_of_ble_eq_true rfl) dL_law_914 rfl (fun r217 => ?_)
        refine v_aload_n C (n := 2) rfl rfl dL_law_917 ?_
        refine v_aload_n C (n := 0) rfl rfl dL_law_918 ?_
        refine v_iload_n C (n := 3) rfl rfl dL_law_919 ?_
        refine v_iconst C (v := 1) (by decide) dL_law_920 ?_
        refine v_iadd C dL_law_921 ?_
        refine v_sca C hS dL_law_922 (fun x218 => ?_)
        refine v_cvIi C (d := 0) (hR.le (by omega)) (c := 9) rfl cv_L_128 (by decide) hkm (by decide) [.int x218] rfl (fun _ hc => s_X9_count G Z hG hZ   hkm hc) (Nat.le_of_ble_eq_true rfl) dL_law_923 rfl (fun r219 ν220 => ?_)
        refine v_iceq C (t := 944) dL_law_926 (by decide) ?_ ?_
        · exact v_leaf (hF11 ν220)
        · refine v_iconst C (v := 0) (by decide) dL_law_929 ?_
          exact v_lw0 (fun a h => by simp only [ob_s, lq, e13, e8] at h; have h := Option.some.inj h; subst h; rfl)
      refine v_case (fun c221 => ?_) (fun c221 => ?_)
      · refine v_tin C (t := 931) (k := 27) c221 dL_law_33 (by decide) (by decide) rfl (by decide) ?_
        refine v_aload_n C (n := 1) rfl rfl dL_law_931 ?_
        refine v_cvRi C (d := 0) (hR.le (by omega)) (c := 8) rfl cv_L_129 (by decide) hkx (by decide) [] rfl (fun _ hc => s_X8_status G Z hG hZ   hkx hc) (Nat.le_of_ble_eq_true rfl) dL_law_932 rfl (fun r222 => ?_)
        refine v_aload_n C (n := 2) rfl rfl dL_law_935 ?_
        refine v_cvIi C (d := 0) (hR.le (by omega)) (c := 9) rfl cv_L_132 (by decide) hkm (by decide) [] rfl (fun _ hc => s_X9_status G Z hG hZ   hkm hc) (Nat.le_of_ble_eq_true rfl) dL_law_936 rfl (fun r223 ν224 => ?_)
        refine v_iceq C (t := 944) dL_law_939 (by decide) ?_ ?_
        · exact v_leaf (hF11 ν224)
        · refine v_iconst C (v := 0) (by decide) dL_law_942 ?_
          exact v_lw0 (fun a h => by simp only [ob_s, lq, e13, e8] at h; have h := Option.some.inj h; subst h; rfl)
      have nc15 := lv_neT (k := 0) (a := 0) c15 (by decide)
      have nc26 := lv_neT (k := 1) (a := 1) c26 (by decide)
      have nc37 := lv_neT (k := 2) (a := 2) c37 (by decide)
      have nc52 := lv_neT (k := 3) (a := 3) c52 (by decide)
      have nc59 := lv_neT (k := 4) (a := 4) c59 (by decide)
      have nc70 := lv_neT (k := 5) (a := 5) c70 (by decide)
      have nc75 := lv_neT (k := 6) (a := 6) c75 (by decide)
      have nc79 := lv_neT (k := 7) (a := 7) c79 (by decide)
      have nc87 := lv_neT (k := 8) (a := 8) c87 (by decide)
      have nc96 := lv_neT (k := 9) (a := 9) c96 (by decide)
      have nc105 := lv_neT (k := 10) (a := 10) c105 (by decide)
      have nc110 := lv_neT (k := 11) (a := 11) c110 (by decide)
      have nc119 := lv_neT (k := 12) (a := 12) c119 (by decide)
      have nc125 := lv_neT (k := 13) (a := 13) c125 (by decide)
      have nc129 := lv_neT (k := 14) (a := 14) c129 (by decide)
      have nc136 := lv_neT (k := 15) (a := 15) c136 (by decide)
      have nc143 := lv_neT (k := 16) (a := 16) c143 (by decide)
      have nc148 := lv_neT (k := 17) (a := 17) c148 (by decide)
      have nc155 := lv_neT (k := 18) (a := 18) c155 (by decide)
      have nc164 := lv_neT (k := 19) (a := 19) c164 (by decide)
      have nc170 := lv_neT (k := 20) (a := 20) c170 (by decide)
      have nc174 := lv_neT (k := 21) (a := 21) c174 (by decide)
      have nc185 := lv_neT (k := 22) (a := 22) c185 (by decide)
      have nc191 := lv_neT (k := 23) (a := 23) c191 (by decide)
      have nc200 := lv_neT (k := 24) (a := 24) c200 (by decide)
      have nc209 := lv_neT (k := 25) (a := 25) c209 (by decide)
      have nc215 := lv_neT (k := 26) (a := 26) c215 (by decide)
      have nc221 := lv_neT (k := 27) (a := 27) c221 (by decide)
      refine v_tout C (t := 944) dL_law_33 (by omega) (by decide) ?_
      exact v_leaf (hF11 ν2)
