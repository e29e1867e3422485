set_option maxRecDepth 20000 in
theorem ft_X0_0 : FTy RX0 0 0 := ⟨RX0, TX0, 2, tyX0, rfl, tyX0_ok, nmX0, rfl, rfl⟩
set_option maxRecDepth 20000 in
theorem ft_X0_1 : FTy RX0 0 1 := ⟨RX0, TX0, 2, tyX0, rfl, tyX0_ok, nmX0, rfl, rfl⟩
set_option maxRecDepth 20000 in
theorem ft_X1_0 : FTy RX1 1 0 := ⟨RX1, TX1, 3, tyX1, rfl, tyX1_ok, nmX1, rfl, rfl⟩
set_option maxRecDepth 20000 in
theorem ft_X1_1 : FTy RX1 1 1 := ⟨RX1, TX1, 3, tyX1, rfl, tyX1_ok, nmX1, rfl, rfl⟩
set_option maxRecDepth 20000 in
theorem ft_X1_2 : FTy RX1 1 2 := ⟨RX1, TX1, 3, tyX1, rfl, tyX1_ok, nmX1, rfl, rfl⟩
set_option maxRecDepth 20000 in
theorem ft_X2_0 : FTy RX2 2 0 := ⟨RX2, TX2, 10, tyX2, rfl, tyX2_ok, nmX2, rfl, rfl⟩
set_option maxRecDepth 20000 in
theorem ft_X2_1 : FTy RX2 2 1 := ⟨RX2, TX2, 10, tyX2, rfl, tyX2_ok, nmX2, rfl, rfl⟩
set_option maxRecDepth 20000 in
theorem ft_X2_2 : FTy RX2 2 2 := ⟨RX2, TX2, 10, tyX2, rfl, tyX2_ok, nmX2, rfl, rfl⟩
set_option maxRecDepth 20000 in
theorem ft_X2_3 : FTy RX2 2 3 := ⟨RX2, TX2, 10, tyX2, rfl, tyX2_ok, nmX2, rfl, rfl⟩
set_option maxRecDepth 20000 in
theorem ft_X2_4 : FTy RX2 2 4 := ⟨RX2, TX2, 10, tyX2, rfl, tyX2_ok, nmX2, rfl, rfl⟩
set_option maxRecDepth 20000 in
theorem ft_X2_5 : FTy RX2 2 5 := ⟨RX2, TX2, 10, tyX2, rfl, tyX2_ok, nmX2, rfl, rfl⟩
set_option maxRecDepth 20000 in
theorem ft_X2_6 : FTy RX2 2 6 := ⟨RX2, TX2, 10, tyX2, rfl, tyX2_ok, nmX2, rfl, rfl⟩
set_option maxRecDepth 20000 in
theorem ft_X2_7 : FTy RX2 2 7 := ⟨RX2, TX2, 10, tyX2, rfl, tyX2_ok, nmX2, rfl, rfl⟩
set_option maxRecDepth 20000 in
theorem ft_X2_8 : FTy RX2 2 8 := ⟨RX2, TX2, 10, tyX2, rfl, tyX2_ok, nmX2, rfl, rfl⟩
set_option maxRecDepth 20000 in
theorem ft_X2_9 : FTy RX2 2 9 := ⟨RX2, TX2, 10, tyX2, rfl, tyX2_ok, nmX2, rfl, rfl⟩
set_option maxRecDepth 20000 in
theorem ft_X3_0 : FTy RX3 3 0 := ⟨RX3, TX3, 10, tyX3, rfl, tyX3_ok, nmX3, rfl, rfl⟩
set_option maxRecDepth 20000 in
theorem ft_X3_1 : FTy RX3 3 1 := ⟨RX3, TX3, 10, tyX3, rfl, tyX3_ok, nmX3, rfl, rfl⟩
set_option maxRecDepth 20000 in
theorem ft_X3_2 : FTy RX3 3 2 := ⟨RX3, TX3, 10, tyX3, rfl, tyX3_ok, nmX3, rfl, rfl⟩
set_option maxRecDepth 20000 in
theorem ft_X3_3 : FTy RX3 3 3 := ⟨RX3, TX3, 10, tyX3, rfl, tyX3_ok, nmX3, rfl, rfl⟩
set_option maxRecDepth 20000 in
theorem ft_X3_4 : FTy RX3 3 4 := ⟨RX3, TX3, 10, tyX3, rfl, tyX3_ok, nmX3, rfl, rfl⟩
set_option maxRecDepth 20000 in
theorem ft_X3_5 : FTy RX3 3 5 := ⟨RX3, TX3, 10, tyX3, rfl, tyX3_ok, nmX3, rfl, rfl⟩
set_option maxRecDepth 20000 in
theorem ft_X3_6 : FTy RX3 3 6 := ⟨RX3, TX3, 10, tyX3, rfl, tyX3_ok, nmX3, rfl, rfl⟩
set_option maxRecDepth 20000 in
theorem ft_X3_7 : FTy RX3 3 7 := ⟨RX3, TX3, 10, tyX3, rfl, tyX3_ok, nmX3, rfl, rfl⟩
set_option maxRecDepth 20000 in
theorem ft_X3_8 : FTy RX3 3 8 := ⟨RX3, TX3, 10, tyX3, rfl, tyX3_ok, nmX3, rfl, rfl⟩
set_option maxRecDepth 20000 in
theorem ft_X3_9 : FTy RX3 3 9 := ⟨RX3, TX3, 10, tyX3, rfl, tyX3_ok, nmX3, rfl, rfl⟩
set_option maxRecDepth 20000 in
theorem ft_X4_1 : FTy RX4 4 1 := ⟨RX4, TX4, 2, tyX4, rfl, tyX4_ok, nmX4, rfl, rfl⟩
set_option maxRecDepth 20000 in
theorem ft_X4_0 : FTy RX4 4 0 := ⟨RX4, TX4, 2, tyX4, rfl, tyX4_ok, nmX4, rfl, rfl⟩
set_option maxRecDepth 20000 in
theorem ft_X7_0 : FTy RX7 7 0 := ⟨RX7, TX7, 5, tyX7, rfl, tyX7_ok, nmX7, rfl, rfl⟩
set_option maxRecDepth 20000 in
theorem ft_X7_1 : FTy RX7 7 1 := ⟨RX7, TX7, 5, tyX7, rfl, tyX7_ok, nmX7, rfl, rfl⟩
set_option maxRecDepth 20000 in
theorem ft_X7_2 : FTy RX7 7 2 := ⟨RX7, TX7, 5, tyX7, rfl, tyX7_ok, nmX7, rfl, rfl⟩
set_option maxRecDepth 20000 in
theorem ft_X7_3 : FTy RX7 7 3 := ⟨RX7, TX7, 5, tyX7, rfl, tyX7_ok, nmX7, rfl, rfl⟩
set_option maxRecDepth 20000 in
theorem ft_X7_4 : FTy RX7 7 4 := ⟨RX7, TX7, 5, tyX7, rfl, tyX7_ok, nmX7, rfl, rfl⟩
set_option maxRecDepth 20000 in
theorem ft_X6_0 : FTy RX6 6 0 := ⟨RX6, TX6, 3, tyX6, rfl, tyX6_ok, nmX6, rfl, rfl⟩
set_option maxRecDepth 20000 in
theorem ft_X6_1 : FTy RX6 6 1 := ⟨RX6, TX6, 3, tyX6, rfl, tyX6_ok, nmX6, rfl, rfl⟩
set_option maxRecDepth 20000 in
theorem ft_X6_2 : FTy RX6 6 2 := ⟨RX6, TX6, 3, tyX6, rfl, tyX6_ok, nmX6, rfl, rfl⟩
set_option maxRecDepth 20000 in
theorem ft_X5_0 : FTy RX5 5 0 := ⟨RX5, TX5, 7, tyX5, rfl, tyX5_ok, nmX5, rfl, rfl⟩
set_option maxRecDepth 20000 in
theorem ft_X5_1 : FTy RX5 5 1 := ⟨RX5, TX5, 7, tyX5, rfl, tyX5_ok, nmX5, rfl, rfl⟩
set_option maxRecDepth 20000 in
theorem ft_X5_2 : FTy RX5 5 2 := ⟨RX5, TX5, 7, tyX5, rfl, tyX5_ok, nmX5, rfl, rfl⟩
set_option maxRecDepth 20000 in
theorem ft_X5_3 : FTy RX5 5 3 := ⟨RX5, TX5, 7, tyX5, rfl, tyX5_ok, nmX5, rfl, rfl⟩
set_option maxRecDepth 20000 in
theorem ft_X5_4 : FTy RX5 5 4 := ⟨RX5, TX5, 7, tyX5, rfl, tyX5_ok, nmX5, rfl, rfl⟩
set_option maxRecDepth 20000 in
theorem ft_X5_5 : FTy RX5 5 5 := ⟨RX5, TX5, 7, tyX5, rfl, tyX5_ok, nmX5, rfl, rfl⟩
set_option maxRecDepth 20000 in
theorem ft_X5_6 : FTy RX5 5 6 := ⟨RX5, TX5, 7, tyX5, rfl, tyX5_ok, nmX5, rfl, rfl⟩
set_option maxRecDepth 20000 in
theorem ci_X5_38 : CWj RX5 38 yX2_init cX2_init 1 0 := ⟨List.forall_mem_cons.mpr ⟨w2 12 rfl, List.forall_mem_cons.mpr ⟨w1 10 rfl, List.forall_mem_cons.mpr ⟨w2 13 rfl, fun _ h => absurd h List.not_mem_nil⟩⟩⟩, ⟨"SeamPull", List.mem_of_getElem? (i := 8) rfl⟩, rfl, by decide, by decide, by decide +kernel⟩
set_option maxRecDepth 20000 in
theorem ci_X8_9 : CWi RX8 9 yX6_init cX6_init 1 0 := ⟨List.forall_mem_cons.mpr ⟨w1 33 rfl, List.forall_mem_cons.mpr ⟨w1 34 rfl, List.forall_mem_cons.mpr ⟨w1 6 rfl, List.forall_mem_cons.mpr ⟨w1 35 rfl, fun _ h => absurd h List.not_mem_nil⟩⟩⟩⟩, rfl, by decide, by decide, by decide +kernel⟩
set_option maxRecDepth 20000 in
theorem ft_X8_0 : FTy RX8 8 0 := ⟨RX8, TX8, 16, tyX8, rfl, tyX8_ok, nmX8, rfl, rfl⟩
set_option maxRecDepth 20000 in
theorem ci_X8_18 : CWj RX8 18 yX7_init cX7_init 1 0 := ⟨List.forall_mem_cons.mpr ⟨w1 50 rfl, List.forall_mem_cons.mpr ⟨w1 8 rfl, List.forall_mem_cons.mpr ⟨w1 51 rfl, fun _ h => absurd h List.not_mem_nil⟩⟩⟩, ⟨"SeamPull", List.mem_of_getElem? (i := 0) rfl⟩, rfl, by decide, by decide, by decide +kernel⟩
set_option maxRecDepth 20000 in
theorem ft_X8_1 : FTy RX8 8 1 := ⟨RX8, TX8, 16, tyX8, rfl, tyX8_ok, nmX8, rfl, rfl⟩
set_option maxRecDepth 20000 in
theorem ci_X8_25 : CWi RX8 25 yX4_init cX4_init 2 1 := ⟨List.forall_mem_cons.mpr ⟨w2 2 rfl, List.forall_mem_cons.mpr ⟨w2 3 rfl, List.forall_mem_cons.mpr ⟨w1 9 rfl, List.forall_mem_cons.mpr ⟨w2 4 rfl, fun _ h => absurd h List.not_mem_nil⟩⟩⟩⟩, rfl, by decide, by decide, by decide +kernel⟩
set_option maxRecDepth 20000 in
theorem ft_X8_2 : FTy RX8 8 2 := ⟨RX8, TX8, 16, tyX8, rfl, tyX8_ok, nmX8, rfl, rfl⟩
set_option maxRecDepth 20000 in
theorem ft_X8_3 : FTy RX8 8 3 := ⟨RX8, TX8, 16, tyX8, rfl, tyX8_ok, nmX8, rfl, rfl⟩
set_option maxRecDepth 20000 in
theorem ft_X8_4 : FTy RX8 8 4 := ⟨RX8, TX8, 16, tyX8, rfl, tyX8_ok, nmX8, rfl, rfl⟩
set_option maxRecDepth 20000 in
theorem ft_X8_5 : FTy RX8 8 5 := ⟨RX8, TX8, 16, tyX8, rfl, tyX8_ok, nmX8, rfl, rfl⟩
set_option maxRecDepth 20000 in
theorem ci_X8_44 : CWj RX8 44 yX2_init cX2_init 1 0 := ⟨List.forall_mem_cons.mpr ⟨w2 12 rfl, List.forall_mem_cons.mpr ⟨w1 10 rfl, List.forall_mem_cons.mpr ⟨w2 13 rfl, fun _ h => absurd h List.not_mem_nil⟩⟩⟩, ⟨"SeamPull", List.mem_of_getElem? (i := 2) rfl⟩, rfl, by decide, by decide, by decide +kernel⟩
set_option maxRecDepth 20000 in
theorem ft_X8_6 : FTy RX8 8 6 := ⟨RX8, TX8, 16, tyX8, rfl, tyX8_ok, nmX8, rfl, rfl⟩
set_option maxRecDepth 20000 in
theorem ft_X8_7 : FTy RX8 8 7 := ⟨RX8, TX8, 16, tyX8, rfl, tyX8_ok, nmX8, rfl, rfl⟩
set_option maxRecDepth 20000 in
theorem ci_X8_54 : CWi RX8 54 yX5_init cX5_init 2 0 := ⟨List.forall_mem_cons.mpr ⟨w2 37 rfl, List.forall_mem_cons.mpr ⟨w2 38 rfl, List.forall_mem_cons.mpr ⟨w1 11 rfl, List.forall_mem_cons.mpr ⟨w2 39 rfl, fun _ h => absurd h List.not_mem_nil⟩⟩⟩⟩, rfl, by decide, by decide, by decide +kernel⟩
set_option maxRecDepth 20000 in
theorem ft_X8_8 : FTy RX8 8 8 := ⟨RX8, TX8, 16, tyX8, rfl, tyX8_ok, nmX8, rfl, rfl⟩
set_option maxRecDepth 20000 in
theorem ci_X8_61 : CWj RX8 61 yX1_init cX1_init 1 0 := ⟨List.forall_mem_cons.mpr ⟨w2 58 rfl, List.forall_mem_cons.mpr ⟨w1 12 rfl, List.forall_mem_cons.mpr ⟨w2 59 rfl, fun _ h => absurd h List.not_mem_nil⟩⟩⟩, ⟨"SeamPull", List.mem_of_getElem? (i := 12) rfl⟩, rfl, by decide, by decide, by decide +kernel⟩
set_option maxRecDepth 20000 in
theorem ft_X8_9 : FTy RX8 8 9 := ⟨RX8, TX8, 16, tyX8, rfl, tyX8_ok, nmX8, rfl, rfl⟩
set_option maxRecDepth 20000 in
theorem ci_X8_68 : CWj RX8 68 yX0_init cX0_init 1 0 := ⟨List.forall_mem_cons.mpr ⟨w3 5 rfl, List.forall_mem_cons.mpr ⟨w1 13 rfl, List.forall_mem_cons.mpr ⟨w3 6 rfl, fun _ h => absurd h List.not_mem_nil⟩⟩⟩, ⟨"SeamPull", List.mem_of_getElem? (i := 14) rfl⟩, rfl, by decide, by decide, by decide +kernel⟩
set_option maxRecDepth 20000 in
theorem ft_X8_10 : FTy RX8 8 10 := ⟨RX8, TX8, 16, tyX8, rfl, tyX8_ok, nmX8, rfl, rfl⟩
set_option maxRecDepth 20000 in
theorem ci_X8_75 : CWj RX8 75 yX3_init cX3_init 1 0 := ⟨List.forall_mem_cons.mpr ⟨w3 14 rfl, List.forall_mem_cons.mpr ⟨w1 14 rfl, List.forall_mem_cons.mpr ⟨w3 15 rfl, fun _ h => absurd h List.not_mem_nil⟩⟩⟩, ⟨"SeamPull", List.mem_of_getElem? (i := 15) rfl⟩, rfl, by decide, by decide, by decide +kernel⟩
set_option maxRecDepth 20000 in
theorem ft_X8_11 : FTy RX8 8 11 := ⟨RX8, TX8, 16, tyX8, rfl, tyX8_ok, nmX8, rfl, rfl⟩
set_option maxRecDepth 20000 in
theorem ft_X8_12 : FTy RX8 8 12 := ⟨RX8, TX8, 16, tyX8, rfl, tyX8_ok, nmX8, rfl, rfl⟩
set_option maxRecDepth 20000 in
theorem ft_X8_13 : FTy RX8 8 13 := ⟨RX8, TX8, 16, tyX8, rfl, tyX8_ok, nmX8, rfl, rfl⟩
set_option maxRecDepth 20000 in
theorem ft_X8_14 : FTy RX8 8 14 := ⟨RX8, TX8, 16, tyX8, rfl, tyX8_ok, nmX8, rfl, rfl⟩
set_option maxRecDepth 20000 in
theorem ft_X8_15 : FTy RX8 8 15 := ⟨RX8, TX8, 16, tyX8, rfl, tyX8_ok, nmX8, rfl, rfl⟩
set_option maxRecDepth 20000 in
theorem ft_X9_2 : FTy RX9 9 2 := ⟨RX9, TX9, 43, tyX9, rfl, tyX9_ok, nmX9, rfl, rfl⟩
set_option maxRecDepth 20000 in
theorem ft_X9_3 : FTy RX9 9 3 := ⟨RX9, TX9, 43, tyX9, rfl, tyX9_ok, nmX9, rfl, rfl⟩
set_option maxRecDepth 20000 in
theorem ft_X9_4 : FTy RX9 9 4 := ⟨RX9, TX9, 43, tyX9, rfl, tyX9_ok, nmX9, rfl, rfl⟩
set_option maxRecDepth 20000 in
theorem ft_X9_9 : FTy RX9 9 9 := ⟨RX9, TX9, 43, tyX9, rfl, tyX9_ok, nmX9, rfl, rfl⟩
set_option maxRecDepth 20000 in
theorem ft_X9_10 : FTy RX9 9 10 := ⟨RX9, TX9, 43, tyX9, rfl, tyX9_ok, nmX9, rfl, rfl⟩
set_option maxRecDepth 20000 in
theorem ft_X9_11 : FTy RX9 9 11 := ⟨RX9, TX9, 43, tyX9, rfl, tyX9_ok, nmX9, rfl, rfl⟩
set_option maxRecDepth 20000 in
theorem ft_X9_16 : FTy RX9 9 16 := ⟨RX9, TX9, 43, tyX9, rfl, tyX9_ok, nmX9, rfl, rfl⟩
set_option maxRecDepth 20000 in
theorem ft_X9_17 : FTy RX9 9 17 := ⟨RX9, TX9, 43, tyX9, rfl, tyX9_ok, nmX9, rfl, rfl⟩
set_option maxRecDepth 20000 in
theorem ft_X9_18 : FTy RX9 9 18 := ⟨RX9, TX9, 43, tyX9, rfl, tyX9_ok, nmX9, rfl, rfl⟩
set_option maxRecDepth 20000 in
theorem ft_X9_19 : FTy RX9 9 19 := ⟨RX9, TX9, 43, tyX9, rfl, tyX9_ok, nmX9, rfl, rfl⟩
set_option maxRecDepth 20000 in
theorem ft_X9_29 : FTy RX9 9 29 := ⟨RX9, TX9, 43, tyX9, rfl, tyX9_ok, nmX9, rfl, rfl⟩
set_option maxRecDepth 20000 in
theorem ft_X9_30 : FTy RX9 9 30 := ⟨RX9, TX9, 43, tyX9, rfl, tyX9_ok, nmX9, rfl, rfl⟩
set_option maxRecDepth 20000 in
theorem ft_X9_32 : FTy RX9 9 32 := ⟨RX9, TX9, 43, tyX9, rfl, tyX9_ok, nmX9, rfl, rfl⟩
set_option maxRecDepth 20000 in
theorem ft_X9_33 : FTy RX9 9 33 := ⟨RX9, TX9, 43, tyX9, rfl, tyX9_ok, nmX9, rfl, rfl⟩
set_option maxRecDepth 20000 in
theorem ft_X9_34 : FTy RX9 9 34 := ⟨RX9, TX9, 43, tyX9, rfl, tyX9_ok, nmX9, rfl, rfl⟩
set_option maxRecDepth 20000 in
theorem ft_X9_36 : FTy RX9 9 36 := ⟨RX9, TX9, 43, tyX9, rfl, tyX9_ok, nmX9, rfl, rfl⟩
set_option maxRecDepth 20000 in
theorem ft_X9_38 : FTy RX9 9 38 := ⟨RX9, TX9, 43, tyX9, rfl, tyX9_ok, nmX9, rfl, rfl⟩
set_option maxRecDepth 20000 in
theorem ft_X9_39 : FTy RX9 9 39 := ⟨RX9, TX9, 43, tyX9, rfl, tyX9_ok, nmX9, rfl, rfl⟩
set_option maxRecDepth 20000 in
theorem ft_X9_40 : FTy RX9 9 40 := ⟨RX9, TX9, 43, tyX9, rfl, tyX9_ok, nmX9, rfl, rfl⟩
set_option maxRecDepth 20000 in
theorem ft_X9_41 : FTy RX9 9 41 := ⟨RX9, TX9, 43, tyX9, rfl, tyX9_ok, nmX9, rfl, rfl⟩
set_option maxRecDepth 20000 in
theorem kp_J7_fill_53178 {σ : NS} {this : Nat} : KP σ (c_J7_fill_53178 σ this) := ((((((((KP.int).tr (KP.int)).tr (KP.int)).tr (KP.int)).tr (KP.int)).tr (KP.int)).tr (KP.int)).tr (KP.int) : KP σ (c_J7_fill_53178_s8 σ this))
set_option maxRecDepth 20000 in
set_option maxHeartbeats 4000000 in
theorem s_fill8 {l : Launch} {B : BT} {σ : NS} {this : Nat} (hk : zk σ.2.1 this = 20) (hkn : this < σ.1) (hl0 : zl σ.2.1 this = 8) (hN : σ.1 + 0 < 900)  : MN l B yJ7_fill_53178 cJ7_fill_53178 4 0 0 0 [.ref (nad B this), .int (-1)] σ (c_J7_fill_53178 σ this) := by
  refine n_metS (by decide) (Nat.le_of_ble_eq_true rfl) ?_
  intro x C hRm _ hr
  show NK x B 4 0 0 (QMN x B 0 0 (c_J7_fill_53178_s8 σ this)) 0 [(0, .ref (nad B this)), (1, .int (-1))] [] σ
  refine n_iconst C (v := 0) (by decide) dJ7_fill_53178_0 ?_
  refine n_istore_n C (lv' := [(2, .int 0), (0, .ref (nad B this)), (1, .int (-1))]) rfl (by decide) rfl dJ7_fill_53178_1 ?_
  refine n_aload_n C (n := 1) rfl rfl dJ7_fill_53178_2 ?_
  refine n_alen (N := 8) C hk (by show this < σ.1 + 0; omega) hl0 (v := 8) rfl dJ7_fill_53178_3 ?_
  refine n_istore_n C (lv' := [(3, .int 8), (2, .int 0), (0, .ref (nad B this)), (1, .int (-1))]) rfl (by decide) rfl dJ7_fill_53178_4 ?_
  refine n_iload_n C (n := 1) rfl rfl dJ7_fill_53178_5 ?_
  refine n_iload_n C (n := 0) rfl rfl dJ7_fill_53178_6 ?_
  refine n_icgeN C (by decide) dJ7_fill_53178_7 20 (by decide) ?_
  refine n_aload_n C (n := 2) rfl rfl dJ7_fill_53178_10 ?_
  refine n_iload_n C (n := 1) rfl rfl dJ7_fill_53178_11 ?_
  refine n_iload_n C (n := 3) rfl rfl dJ7_fill_53178_12 ?_
  refine n_iast (N := 8) (j := 0) C hk (by show this < σ.1 + 0; omega) hl0 (inb_vp.mp (by decide)) (by decide) dJ7_fill_53178_13 ?_
  refine n_iinc C (n := 1) (v := 1) (lv' := [(2, .int 1), (3, .int 8), (0, .ref (nad B this)), (1, .int (-1))]) rfl (by decide) (by decide) rfl dJ7_fill_53178_14 ?_
  refine n_goto C (t := 5) (by decide) dJ7_fill_53178_17 ?_
  refine n_iload_n C (n := 0) rfl rfl dJ7_fill_53178_5 ?_
  refine n_iload_n C (n := 1) rfl rfl dJ7_fill_53178_6 ?_
  refine n_icgeN C (by decide) dJ7_fill_53178_7 20 (by decide) ?_
  refine n_aload_n C (n := 2) rfl rfl dJ7_fill_53178_10 ?_
  refine n_iload_n C (n := 0) rfl rfl dJ7_fill_53178_11 ?_
  refine n_iload_n C (n := 3) rfl rfl dJ7_fill_53178_12 ?_
  refine n_iast (N := 8) (j := 1) C (((KP.int).2 this hkn).1.trans hk) (by show this < σ.1 + 0; omega) (((KP.int : KP σ (c_J7_fill_53178_s1 σ this)).2 this hkn).2.trans hl0) (inb_vp.mp (by decide)) (by decide) dJ7_fill_53178_13 ?_
  refine n_iinc C (n := 0) (v := 2) (lv' := [(2, .int 2), (3, .int 8), (0, .ref (nad B this)), (1, .int (-1))]) rfl (by decide) (by decide) rfl dJ7_fill_53178_14 ?_
  refine n_goto C (t := 5) (by decide) dJ7_fill_53178_17 ?_
  refine n_iload_n C (n := 0) rfl rfl dJ7_fill_53178_5 ?_
  refine n_iload_n C (n := 1) rfl rfl dJ7_fill_53178_6 ?_
  refine n_icgeN C (by decide) dJ7_fill_53178_7 20 (by decide) ?_
  refine n_aload_n C (n := 2) rfl rfl dJ7_fill_53178_10 ?_
  refine n_iload_n C (n := 0) rfl rfl dJ7_fill_53178_11 ?_
  refine n_iload_n C (n := 3) rfl rfl dJ7_fill_53178_12 ?_
  refine n_iast (N := 8) (j := 2) C ((((KP.int).tr (KP.int)).2 this hkn).1.trans hk) (by show this < σ.1 + 0; omega) ((((KP.int).tr (KP.int) : KP σ (c_J7_fill_53178_s2 σ this)).2 this hkn).2.trans hl0) (inb_vp.mp (by decide)) (by decide) dJ7_fill_53178_13 ?_
  refine n_iinc C (n := 0) (v := 3) (lv' := [(2, .int 3), (3, .int 8), (0, .ref (nad B this)), (1, .int (-1))]) rfl (by decide) (by decide) rfl dJ7_fill_53178_14 ?_
  refine n_goto C (t := 5) (by decide) dJ7_fill_53178_17 ?_
  refine n_iload_n C (n := 0) rfl rfl dJ7_fill_53178_5 ?_
  refine n_iload_n C (n := 1) rfl rfl dJ7_fill_53178_6 ?_
  refine n_icgeN C (by decide) dJ7_fill_53178_7 20 (by decide) ?_
  refine n_aload_n C (n := 2) rfl rfl dJ7_fill_53178_10 ?_
  refine n_iload_n C (n := 0) rfl rfl dJ7_fill_53178_11 ?_
  refine n_iload_n C (n := 3) rfl rfl dJ7_fill_53178_12 ?_
  refine n_iast (N := 8) (j := 3) C (((((KP.int).tr (KP.int)).tr (KP.int)).2 this hkn).1.trans hk) (by show this < σ.1 + 0; omega) (((((KP.int).tr (KP.int)).tr (KP.int) : KP σ (c_J7_fill_53178_s3 σ this)).2 this hkn).2.trans hl0) (inb_vp.mp (by decide)) (by decide) dJ7_fill_53178_13 ?_
  refine n_iinc C (n := 0) (v := 4) (lv' := [(2, .int 4), (3, .int 8), (0, .ref (nad B this)), (1, .int (-1))]) rfl (by decide) (by decide) rfl dJ7_fill_53178_14 ?_
  refine n_goto C (t := 5) (by decide) dJ7_fill_53178_17 ?_
  refine n_iload_n C (n := 0) rfl rfl dJ7_fill_53178_5 ?_
  refine n_iload_n C (n := 1) rfl rfl dJ7_fill_53178_6 ?_
  refine n_icgeN C (by decide) dJ7_fill_53178_7 20 (by decide) ?_
  refine n_aload_n C (n := 2) rfl rfl dJ7_fill_53178_10 ?_
  refine n_iload_n C (n := 0) rfl rfl dJ7_fill_53178_11 ?_
  refine n_iload_n C (n := 3) rfl rfl dJ7_fill_53178_12 ?_
  refine n_iast (N := 8) (j := 4) C ((((((KP.int).tr (KP.int)).tr (KP.int)).tr (KP.int)).2 this hkn).1.trans hk) (by show this < σ.1 + 0; omega) ((((((KP.int).tr (KP.int)).tr (KP.int)).tr (KP.int) : KP σ (c_J7_fill_53178_s4 σ this)).2 this hkn).2.trans hl0) (inb_vp.mp (by decide)) (by decide) dJ7_fill_53178_13 ?_
  refine n_iinc C (n := 0) (v := 5) (lv' := [(2, .int 5), (3, .int 8), (0, .ref (nad B this)), (1, .int (-1))]) rfl (by decide) (by decide) rfl dJ7_fill_53178_14 ?_
  refine n_goto C (t := 5) (by decide) dJ7_fill_53178_17 ?_
  refine n_iload_n C (n := 0) rfl rfl dJ7_fill_53178_5 ?_
  refine n_iload_n C (n := 1) rfl rfl dJ7_fill_53178_6 ?_
  refine n_icgeN C (by decide) dJ7_fill_53178_7 20 (by decide) ?_
  refine n_aload_n C (n := 2) rfl rfl dJ7_fill_53178_10 ?_
  refine n_iload_n C (n := 0) rfl rfl dJ7_fill_53178_11 ?_
  refine n_iload_n C (n := 3) rfl rfl dJ7_fill_53178_12 ?_
  refine n_iast (N := 8) (j := 5) C (((((((KP.int).tr (KP.int)).tr (KP.int)).tr (KP.int)).tr (KP.int)).2 this hkn).1.trans hk) (by show this < σ.1 + 0; omega) (((((((KP.int).tr (KP.int)).tr (KP.int)).tr (KP.int)).tr (KP.int) : KP σ (c_J7_fill_53178_s5 σ this)).2 this hkn).2.trans hl0) (inb_vp.mp (by decide)) (by decide) dJ7_fill_53178_13 ?_
  refine n_iinc C (n := 0) (v := 6) (lv' := [(2, .int 6), (3, .int 8), (0, .ref (nad B this)), (1, .int (-1))]) rfl (by decide) (by decide) rfl dJ7_fill_53178_14 ?_
  refine n_goto C (t := 5) (by decide) dJ7_fill_53178_17 ?_
  refine n_iload_n C (n := 0) rfl rfl dJ7_fill_53178_5 ?_
  refine n_iload_n C (n := 1) rfl rfl dJ7_fill_53178_6 ?_
  refine n_icgeN C (by decide) dJ7_fill_53178_7 20 (by decide) ?_
  refine n_aload_n C (n := 2) rfl rfl dJ7_fill_53178_10 ?_
  refine n_iload_n C (n := 0) rfl rfl dJ7_fill_53178_11 ?_
  refine n_iload_n C (n := 3) rfl rfl dJ7_fill_53178_12 ?_
  refine n_iast (N := 8) (j := 6) C ((((((((KP.int).tr (KP.int)).tr (KP.int)).tr (KP.int)).tr (KP.int)).tr (KP.int)).2 this hkn).1.trans hk) (by show this < σ.1 + 0; omega) ((((((((KP.int).tr (KP.int)).tr (KP.int)).tr (KP.int)).tr (KP.int)).tr (KP.int) : KP σ (c_J7_fill_53178_s6 σ this)).2 this hkn).2.trans hl0) (inb_vp.mp (by decide)) (by decide) dJ7_fill_53178_13 ?_
  refine n_iinc C (n := 0) (v := 7) (lv' := [(2, .int 7), (3, .int 8), (0, .ref (nad B this)), (1, .int (-1))]) rfl (by decide) (by decide) rfl dJ7_fill_53178_14 ?_
  refine n_goto C (t := 5) (by decide) dJ7_fill_53178_17 ?_
  refine n_iload_n C (n := 0) rfl rfl dJ7_fill_53178_5 ?_
  refine n_iload_n C (n := 1) rfl rfl dJ7_fill_53178_6 ?_
  refine n_icgeN C (by decide) dJ7_fill_53178_7 20 (by decide) ?_
  refine n_aload_n C (n := 2) rfl rfl dJ7_fill_53178_10 ?_
  refine n_iload_n C (n := 0) rfl rfl dJ7_fill_53178_11 ?_
  refine n_iload_n C (n := 3) rfl rfl dJ7_fill_53178_12 ?_
  refine n_iast (N := 8) (j := 7) C (((((((((KP.int).tr (KP.int)).tr (KP.int)).tr (KP.int)).tr (KP.int)).tr (KP.int)).tr (KP.int)).2 this hkn).1.trans hk) (by show this < σ.1 + 0; omega) (((((((((KP.int).tr (KP.int)).tr (KP.int)).tr (KP.int)).tr (KP.int)).tr (KP.int)).tr (KP.int) : KP σ (c_J7_fill_53178_s7 σ this)).2 this hkn).2.trans hl0) (inb_vp.mp (by decide)) (by decide) dJ7_fill_53178_13 ?_
  refine n_iinc C (n := 0) (v := 8) (lv' := [(2, .int 8), (3, .int 8), (0, .ref (nad B this)), (1, .int (-1))]) rfl (by decide) (by decide) rfl dJ7_fill_53178_14 ?_
  refine n_goto C (t := 5) (by decide) dJ7_fill_53178_17 ?_
  refine n_iload_n C (n := 0) rfl rfl dJ7_fill_53178_5 ?_
  refine n_iload_n C (n := 1) rfl rfl dJ7_fill_53178_6 ?_
  refine n_icgeY C (by decide) dJ7_fill_53178_7 20 (by decide) ?_
  exact n_ret C hr dJ7_fill_53178_20
set_option maxRecDepth 20000 in
theorem kp_X0_init {σ : NS} {this : Nat} : KP σ (c_X0_init σ this) := (((KP.arr).tr (KP.ref)).tr (KP.int) : KP σ (c_X0_init_s3 σ this))
set_option maxRecDepth 20000 in
theorem kr_X0_init {σ : NS} {this : Nat} {k : Nat} (h : k < σ.1) (hk : k ≠ this) : KR σ (c_X0_init σ this) k := by
  have e1 : KR σ (c_X0_init_s1 σ this) k := (KR.arr (by show k < σ.1 + 0; omega))
  have e2 : KR (c_X0_init_s1 σ this) (c_X0_init_s2 σ this) k := (KR.ref (by omega))
  have e3 : KR (c_X0_init_s2 σ this) (c_X0_init_s3 σ this) k := KR.int
  exact ((e1).tr e2).tr e3
set_option maxRecDepth 20000 in
set_option maxHeartbeats 4000000 in
theorem s_X0_init {l : Launch} {B : BT} {σ : NS} {this : Nat} (hk : zk σ.2.1 this = 0) (hkn : this < σ.1) (hN : σ.1 + 1 < 900)  : MN l B yX0_init cX0_init 1 1 1 16 [.ref (nad B this)] σ (c_X0_init σ this) := by
  refine n_met (by decide) rfl (Nat.le_of_ble_eq_true rfl) ?_
  intro x C hin hRm _ hr
  show NK x B 1 0 0 (QMN x B 1 16 (c_X0_init_s3 σ this)) 0 [(0, .ref (nad B this))] [] σ
  refine n_aload_n C (n := 0) rfl rfl dX0_init_0 ?_
  refine n_obj C (w3 7 rfl) (by rw [hRm]; decide) (by rw [hRm]; decide) dX0_init_1 ?_
  refine n_aload_n C (n := 0) rfl rfl dX0_init_4 ?_
  refine n_bipush C (v := 16) (by decide) dX0_init_5 ?_
  refine n_newa C (atype := .int) (ty := .int) (t := 20) (ti := 0) (N := 16) rfl rfl (fun _ _ h => h) rfl (by decide) (by decide) (w1 47 rfl) (by decide) (by decide) (by decide) (by show σ.1 + 0 < 900; omega) (by rw [hRm]; decide) (by rw [hRm]; decide) dX0_init_7 ?_
  refine n_putr (q := σ.1) C hin fl_X0_11 ft_X0_0 rfl (fun _ => rfl) (fun _ => rfl) (((KP.arr).2 this hkn).1.trans hk) (by show this < σ.1 + 1; omega) (by omega) dX0_init_9 ?_
  refine n_aload_n C (n := 0) rfl rfl dX0_init_12 ?_
  refine n_iconst C (v := 0) (by decide) dX0_init_13 ?_
  refine n_puti C hin fl_X0_15 ft_X0_1 rfl rfl rfl ((((KP.arr).tr (KP.ref)).2 this hkn).1.trans hk) (by show this < σ.1 + 1; omega) dX0_init_14 ?_
  exact n_ret C hr dX0_init_17
set_option maxRecDepth 20000 in
theorem kp_X1_init {σ : NS} {this : Nat} : KP σ (c_X1_init σ this) := (((((KP.arr).tr (KP.ref)).tr (KP.arr)).tr (KP.ref)).tr (KP.int) : KP σ (c_X1_init_s5 σ this))
set_option maxRecDepth 20000 in
theorem kr_X1_init {σ : NS} {this : Nat} {k : Nat} (h : k < σ.1) (hk : k ≠ this) : KR σ (c_X1_init σ this) k := by
  have e1 : KR σ (c_X1_init_s1 σ this) k := (KR.arr (by show k < σ.1 + 0; omega))
  have e2 : KR (c_X1_init_s1 σ this) (c_X1_init_s2 σ this) k := (KR.ref (by omega))
  have e3 : KR (c_X1_init_s2 σ this) (c_X1_init_s3 σ this) k := (KR.arr (by show k < σ.1 + 1; omega))
  have e4 : KR (c_X1_init_s3 σ this) (c_X1_init_s4 σ this) k := (KR.ref (by omega))
  have e5 : KR (c_X1_init_s4 σ this) (c_X1_init_s5 σ this) k := KR.int
  exact ((((e1).tr e2).tr e3).tr e4).tr e5
set_option maxRecDepth 20000 in
set_option maxHeartbeats 4000000 in
theorem s_X1_init {l : Launch} {B : BT} {σ : NS} {this : Nat} (hk : zk σ.2.1 this = 1) (hkn : this < σ.1) (hN : σ.1 + 2 < 900)  : MN l B yX1_init cX1_init 1 1 2 24 [.ref (nad B this)] σ (c_X1_init σ this) := by
  refine n_met (by decide) rfl (Nat.le_of_ble_eq_true rfl) ?_
  intro x C hin hRm _ hr
  show NK x B 1 0 0 (QMN x B 2 24 (c_X1_init_s5 σ this)) 0 [(0, .ref (nad B this))] [] σ
  refine n_aload_n C (n := 0) rfl rfl dX1_init_0 ?_
  refine n_obj C (w2 60 rfl) (by rw [hRm]; decide) (by rw [hRm]; decide) dX1_init_1 ?_
  refine n_aload_n C (n := 0) rfl rfl dX1_init_4 ?_
  refine n_bipush C (v := 12) (by decide) dX1_init_5 ?_
  refine n_newa C (atype := .int) (ty := .int) (t := 20) (ti := 0) (N := 12) rfl rfl (fun _ _ h => h) rfl (by decide) (by decide) (w1 47 rfl) (by decide) (by decide) (by decide) (by show σ.1 + 0 < 900; omega) (by rw [hRm]; decide) (by rw [hRm]; decide) dX1_init_7 ?_
  refine n_putr (q := σ.1) C hin fl_X1_9 ft_X1_0 rfl (fun _ => rfl) (fun _ => rfl) (((KP.arr).2 this hkn).1.trans hk) (by show this < σ.1 + 1; omega) (by omega) dX1_init_9 ?_
  refine n_aload_n C (n := 0) rfl rfl dX1_init_12 ?_
  refine n_bipush C (v := 12) (by decide) dX1_init_13 ?_
  refine n_newa C (atype := .int) (ty := .int) (t := 20) (ti := 0) (N := 12) rfl rfl (fun _ _ h => h) rfl (by decide) (by decide) (w1 47 rfl) (by decide) (by decide) (by decide) (by show σ.1 + 1 < 900; omega) (by rw [hRm]; decide) (by rw [hRm]; decide) dX1_init_15 ?_
  refine n_putr (q := σ.1 + 1) C hin fl_X1_15 ft_X1_1 rfl (fun _ => rfl) (fun _ => rfl) (((((KP.arr).tr (KP.ref)).tr (KP.arr)).2 this hkn).1.trans hk) (by show this < σ.1 + 2; omega) (by omega) dX1_init_17 ?_
  refine n_aload_n C (n := 0) rfl rfl dX1_init_20 ?_
  refine n_iconst C (v := 0) (by decide) dX1_init_21 ?_
  refine n_puti C hin fl_X1_18 ft_X1_2 rfl rfl rfl ((((((KP.arr).tr (KP.ref)).tr (KP.arr)).tr (KP.ref)).2 this hkn).1.trans hk) (by show this < σ.1 + 2; omega) dX1_init_22 ?_
  exact n_ret C hr dX1_init_25
set_option maxRecDepth 20000 in
theorem kp_X2_init {σ : NS} {this : Nat} : KP σ (c_X2_init σ this) := ((((((((((((((((KP.arr).tr (KP.ref)).tr (KP.arr)).tr (KP.ref)).tr (KP.arr)).tr (KP.ref)).tr (KP.arr)).tr (KP.ref)).tr (KP.arr)).tr (KP.ref)).tr (KP.arr)).tr (KP.ref)).tr (KP.int)).tr (KP.int)).tr (KP.int)).tr (KP.int) : KP σ (c_X2_init_s16 σ this))
set_option maxRecDepth 20000 in
theorem kr_X2_init {σ : NS} {this : Nat} {k : Nat} (h : k < σ.1) (hk : k ≠ this) : KR σ (c_X2_init σ this) k := by
  have e1 : KR σ (c_X2_init_s1 σ this) k := (KR.arr (by show k < σ.1 + 0; omega))
  have e2 : KR (c_X2_init_s1 σ this) (c_X2_init_s2 σ this) k := (KR.ref (by omega))
  have e3 : KR (c_X2_init_s2 σ this) (c_X2_init_s3 σ this) k := (KR.arr (by show k < σ.1 + 1; omega))
  have e4 : KR (c_X2_init_s3 σ this) (c_X2_init_s4 σ this) k := (KR.ref (by omega))
  have e5 : KR (c_X2_init_s4 σ this) (c_X2_init_s5 σ this) k := (KR.arr (by show k < σ.1 + 2; omega))
  have e6 : KR (c_X2_init_s5 σ this) (c_X2_init_s6 σ this) k := (KR.ref (by omega))
  have e7 : KR (c_X2_init_s6 σ this) (c_X2_init_s7 σ this) k := (KR.arr (by show k < σ.1 + 3; omega))
  have e8 : KR (c_X2_init_s7 σ this) (c_X2_init_s8 σ this) k := (KR.ref (by omega))
  have e9 : KR (c_X2_init_s8 σ this) (c_X2_init_s9 σ this) k := (KR.arr (by show k < σ.1 + 4; omega))
  have e10 : KR (c_X2_init_s9 σ this) (c_X2_init_s10 σ this) k := (KR.ref (by omega))
  have e11 : KR (c_X2_init_s10 σ this) (c_X2_init_s11 σ this) k := (KR.arr (by show k < σ.1 + 5; omega))
  have e12 : KR (c_X2_init_s11 σ this) (c_X2_init_s12 σ this) k := (KR.ref (by omega))
  have e13 : KR (c_X2_init_s12 σ this) (c_X2_init_s13 σ this) k := KR.int
  have e14 : KR (c_X2_init_s13 σ this) (c_X2_init_s14 σ this) k := KR.int
  have e15 : KR (c_X2_init_s14 σ this) (c_X2_init_s15 σ this) k := KR.int
  have e16 : KR (c_X2_init_s15 σ this) (c_X2_init_s16 σ this) k := KR.int
  exact (((((((((((((((e1).tr e2).tr e3).tr e4).tr e5).tr e6).tr e7).tr e8).tr e9).tr e10).tr e11).tr e12).tr e13).tr e14).tr e15).tr e16
set_option maxRecDepth 20000 in
set_option maxHeartbeats 4000000 in
theorem s_X2_init {l : Launch} {B : BT} {σ : NS} {this : Nat} (hk : zk σ.2.1 this = 2) (hkn : this < σ.1) (hN : σ.1 + 6 < 900)  : MN l B yX2_init cX2_init 1 1 6 72 [.ref (nad B this)] σ (c_X2_init σ this) := by
  refine n_met (by decide) rfl (Nat.le_of_ble_eq_true rfl) ?_
  intro x C hin hRm _ hr
  show NK x B 1 0 0 (QMN x B 6 72 (c_X2_init_s16 σ this)) 0 [(0, .ref (nad B this))] [] σ
  refine n_aload_n C (n := 0) rfl rfl dX2_init_0 ?_
  refine n_obj C (w2 14 rfl) (by rw [hRm]; decide) (by rw [hRm]; decide) dX2_init_1 ?_
  refine n_aload_n C (n := 0) rfl rfl dX2_init_4 ?_
  refine n_bipush C (v := 12) (by decide) dX2_init_5 ?_
  refine n_newa C (atype := .int) (ty := .int) (t := 20) (ti := 0) (N := 12) rfl rfl (fun _ _ h => h) rfl (by decide) (by decide) (w1 47 rfl) (by decide) (by decide) (by decide) (by show σ.1 + 0 < 900; omega) (by rw [hRm]; decide) (by rw [hRm]; decide) dX2_init_7 ?_
  refine n_putr (q := σ.1) C hin fl_X2_9 ft_X2_0 rfl (fun _ => rfl) (fun _ => rfl) (((KP.arr).2 this hkn).1.trans hk) (by show this < σ.1 + 1; omega) (by omega) dX2_init_9 ?_
  refine n_aload_n C (n := 0) rfl rfl dX2_init_12 ?_
  refine n_bipush C (v := 12) (by decide) dX2_init_13 ?_
  refine n_newa C (atype := .int) (ty := .int) (t := 20) (ti := 0) (N := 12) rfl rfl (fun _ _ h => h) rfl (by decide) (by decide) (w1 47 rfl) (by decide) (by decide) (by decide) (by show σ.1 + 1 < 900; omega) (by rw [hRm]; decide) (by rw [hRm]; decide) dX2_init_15 ?_
  refine n_putr (q := σ.1 + 1) C hin fl_X2_15 ft_X2_1 rfl (fun _ => rfl) (fun _ => rfl) (((((KP.arr).tr (KP.ref)).tr (KP.arr)).2 this hkn).1.trans hk) (by show this < σ.1 + 2; omega) (by omega) dX2_init_17 ?_
  refine n_aload_n C (n := 0) rfl rfl dX2_init_20 ?_
  refine n_bipush C (v := 12) (by decide) dX2_init_21 ?_
  refine n_newa C (atype := .int) (ty := .int) (t := 20) (ti := 0) (N := 12) rfl rfl (fun _ _ h => h) rfl (by decide) (by decide) (w1 47 rfl) (by decide) (by decide) (by decide) (by show σ.1 + 2 < 900; omega) (by rw [hRm]; decide) (by rw [hRm]; decide) dX2_init_23 ?_
  refine n_putr (q := σ.1 + 2) C hin fl_X2_18 ft_X2_2 rfl (fun _ => rfl) (fun _ => rfl) (((((((KP.arr).tr (KP.ref)).tr (KP.arr)).tr (KP.ref)).tr (KP.arr)).2 this hkn).1.trans hk) (by show this < σ.1 + 3; omega) (by omega) dX2_init_25 ?_
  refine n_aload_n C (n := 0) rfl rfl dX2_init_28 ?_
  refine n_bipush C (v := 12) (by decide) dX2_init_29 ?_
  refine n_newa C (atype := .int) (ty := .int) (t := 20) (ti := 0) (N := 12) rfl rfl (fun _ _ h => h) rfl (by decide) (by decide) (w1 47 rfl) (by decide) (by decide) (by decide) (by show σ.1 + 3 < 900; omega) (by rw [hRm]; decide) (by rw [hRm]; decide) dX2_init_31 ?_
  refine n_putr (q := σ.1 + 3) C hin fl_X2_21 ft_X2_3 rfl (fun _ => rfl) (fun _ => rfl) (((((((((KP.arr).tr (KP.ref)).tr (KP.arr)).tr (KP.ref)).tr (KP.arr)).tr (KP.ref)).tr (KP.arr)).2 this hkn).1.trans hk) (by show this < σ.1 + 4; omega) (by omega) dX2_init_33 ?_
  refine n_aload_n C (n := 0) rfl rfl dX2_init_36 ?_
  refine n_bipush C (v := 12) (by decide) dX2_init_37 ?_
  refine n_newa C (atype := .int) (ty := .int) (t := 20) (ti := 0) (N := 12) rfl rfl (fun _ _ h => h) rfl (by decide) (by decide) (w1 47 rfl) (by decide) (by decide) (by decide) (by show σ.1 + 4 < 900; omega) (by rw [hRm]; decide) (by rw [hRm]; decide) dX2_init_39 ?_
  refine n_putr (q := σ.1 + 4) C hin fl_X2_24 ft_X2_4 rfl (fun _ => rfl) (fun _ => rfl) (((((((((((KP.arr).tr (KP.ref)).tr (KP.arr)).tr (KP.ref)).tr (KP.arr)).tr (KP.ref)).tr (KP.arr)).tr (KP.ref)).tr (KP.arr)).2 this hkn).1.trans hk) (by show this < σ.1 + 5; omega) (by omega) dX2_init_41 ?_
  refine n_aload_n C (n := 0) rfl rfl dX2_init_44 ?_
  refine n_bipush C (v := 12) (by decide) dX2_init_45 ?_
  refine n_newa C (atype := .int) (ty := .int) (t := 20) (ti := 0) (N := 12) rfl rfl (fun _ _ h => h) rfl (by decide) (by decide) (w1 47 rfl) (by decide) (by decide) (by decide) (by show σ.1 + 5 < 900; omega) (by rw [hRm]; decide) (by rw [hRm]; decide) dX2_init_47 ?_
  refine n_putr (q := σ.1 + 5) C hin fl_X2_27 ft_X2_5 rfl (fun _ => rfl) (fun _ => rfl) (((((((((((((KP.arr).tr (KP.ref)).tr (KP.arr)).tr (KP.ref)).tr (KP.arr)).tr (KP.ref)).tr (KP.arr)).tr (KP.ref)).tr (KP.arr)).tr (KP.ref)).tr (KP.arr)).2 this hkn).1.trans hk) (by show this < σ.1 + 6; omega) (by omega) dX2_init_49 ?_
  refine n_aload_n C (n := 0) rfl rfl dX2_init_52 ?_
  refine n_iconst C (v := 0) (by decide) dX2_init_53 ?_
  refine n_puti C hin fl_X2_30 ft_X2_6 rfl rfl rfl ((((((((((((((KP.arr).tr (KP.ref)).tr (KP.arr)).tr (KP.ref)).tr (KP.arr)).tr (KP.ref)).tr (KP.arr)).tr (KP.ref)).tr (KP.arr)).tr (KP.ref)).tr (KP.arr)).tr (KP.ref)).2 this hkn).1.trans hk) (by show this < σ.1 + 6; omega) dX2_init_54 ?_
  refine n_aload_n C (n := 0) rfl rfl dX2_init_57 ?_
  refine n_iconst C (v := 0) (by decide) dX2_init_58 ?_
  refine n_puti C hin fl_X2_34 ft_X2_7 rfl rfl rfl (((((((((((((((KP.arr).tr (KP.ref)).tr (KP.arr)).tr (KP.ref)).tr (KP.arr)).tr (KP.ref)).tr (KP.arr)).tr (KP.ref)).tr (KP.arr)).tr (KP.ref)).tr (KP.arr)).tr (KP.ref)).tr (KP.int)).2 this hkn).1.trans hk) (by show this < σ.1 + 6; omega) dX2_init_59 ?_
  refine n_aload_n C (n := 0) rfl rfl dX2_init_62 ?_
  refine n_iconst C (v := 0) (by decide) dX2_init_63 ?_
  refine n_puti C hin fl_X2_37 ft_X2_8 rfl rfl rfl ((((((((((((((((KP.arr).tr (KP.ref)).tr (KP.arr)).tr (KP.ref)).tr (KP.arr)).tr (KP.ref)).tr (KP.arr)).tr (KP.ref)).tr (KP.arr)).tr (KP.ref)).tr (KP.arr)).tr (KP.ref)).tr (KP.int)).tr (KP.int)).2 this hkn).1.trans hk) (by show this < σ.1 + 6; omega) dX2_init_64 ?_
  refine n_aload_n C (n := 0) rfl rfl dX2_init_67 ?_
  refine n_iconst C (v := 0) (by decide) dX2_init_68 ?_
  refine n_puti C hin fl_X2_40 ft_X2_9 rfl rfl rfl (((((((((((((((((KP.arr).tr (KP.ref)).tr (KP.arr)).tr (KP.ref)).tr (KP.arr)).tr (KP.ref)).tr (KP.arr)).tr (KP.ref)).tr (KP.arr)).tr (KP.ref)).tr (KP.arr)).tr (KP.ref)).tr (KP.int)).tr (KP.int)).tr (KP.int)).2 this hkn).1.trans hk) (by show this < σ.1 + 6; omega) dX2_init_69 ?_
  exact n_ret C hr dX2_init_72
set_option maxRecDepth 20000 in
theorem kp_X3_init {σ : NS} {this : Nat} : KP σ (c_X3_init σ this) := ((((((((((((((((KP.int).tr (KP.int)).tr (KP.int)).tr (KP.int)).tr (KP.arr)).tr (KP.ref)).tr (KP.arr)).tr (KP.ref)).tr (KP.arr)).tr (KP.ref)).tr (KP.arr)).tr (KP.ref)).tr (KP.arr)).tr (KP.ref)).tr (KP.arr)).tr (KP.ref) : KP σ (c_X3_init_s16 σ this))
set_option maxRecDepth 20000 in
theorem kr_X3_init {σ : NS} {this : Nat} {k : Nat} (h : k < σ.1) (hk : k ≠ this) : KR σ (c_X3_init σ this) k := by
  have e1 : KR σ (c_X3_init_s1 σ this) k := KR.int
  have e2 : KR (c_X3_init_s1 σ this) (c_X3_init_s2 σ this) k := KR.int
  have e3 : KR (c_X3_init_s2 σ this) (c_X3_init_s3 σ this) k := KR.int
  have e4 : KR (c_X3_init_s3 σ this) (c_X3_init_s4 σ this) k := KR.int
  have e5 : KR (c_X3_init_s4 σ this) (c_X3_init_s5 σ this) k := (KR.arr (by show k < σ.1 + 0; omega))
  have e6 : KR (c_X3_init_s5 σ this) (c_X3_init_s6 σ this) k := (KR.ref (by omega))
  have e7 : KR (c_X3_init_s6 σ this) (c_X3_init_s7 σ this) k := (KR.arr (by show k < σ.1 + 1; omega))
  have e8 : KR (c_X3_init_s7 σ this) (c_X3_init_s8 σ this) k := (KR.ref (by omega))
  have e9 : KR (c_X3_init_s8 σ this) (c_X3_init_s9 σ this) k := (KR.arr (by show k < σ.1 + 2; omega))
  have e10 : KR (c_X3_init_s9 σ this) (c_X3_init_s10 σ this) k := (KR.ref (by omega))
  have e11 : KR (c_X3_init_s10 σ this) (c_X3_init_s11 σ this) k := (KR.arr (by show k < σ.1 + 3; omega))
  have e12 : KR (c_X3_init_s11 σ this) (c_X3_init_s12 σ this) k := (KR.ref (by omega))
  have e13 : KR (c_X3_init_s12 σ this) (c_X3_init_s13 σ this) k := (KR.arr (by show k < σ.1 + 4; omega))
  have e14 : KR (c_X3_init_s13 σ this) (c_X3_init_s14 σ this) k := (KR.ref (by omega))
  have e15 : KR (c_X3_init_s14 σ this) (c_X3_init_s15 σ this) k := (KR.arr (by show k < σ.1 + 5; omega))
  have e16 : KR (c_X3_init_s15 σ this) (c_X3_init_s16 σ this) k := (KR.ref (by omega))
  exact (((((((((((((((e1).tr e2).tr e3).tr e4).tr e5).tr e6).tr e7).tr e8).tr e9).tr e10).tr e11).tr e12).tr e13).tr e14).tr e15).tr e16
set_option maxRecDepth 20000 in
set_option maxHeartbeats 4000000 in
theorem s_X3_init {l : Launch} {B : BT} {σ : NS} {this : Nat} (hk : zk σ.2.1 this = 3) (hkn : this < σ.1) (hN : σ.1 + 6 < 900)  : MN l B yX3_init cX3_init 1 1 6 172 [.ref (nad B this)] σ (c_X3_init σ this) := by
  refine n_met (by decide) rfl (Nat.le_of_ble_eq_true rfl) ?_
  intro x C hin hRm _ hr
  show NK x B 1 0 0 (QMN x B 6 172 (c_X3_init_s16 σ this)) 0 [(0, .ref (nad B this))] [] σ
  refine n_aload_n C (n := 0) rfl rfl dX3_init_0 ?_
  refine n_obj C (w3 16 rfl) (by rw [hRm]; decide) (by rw [hRm]; decide) dX3_init_1 ?_
  refine n_aload_n C (n := 0) rfl rfl dX3_init_4 ?_
  refine n_iconst C (v := 0) (by decide) dX3_init_5 ?_
  refine n_puti C hin fl_X3_9 ft_X3_0 rfl rfl rfl hk (by show this < σ.1 + 0; omega) dX3_init_6 ?_
  refine n_aload_n C (n := 0) rfl rfl dX3_init_9 ?_
  refine n_iconst C (v := 0) (by decide) dX3_init_10 ?_
  refine n_puti C hin fl_X3_15 ft_X3_1 rfl rfl rfl (((KP.int).2 this hkn).1.trans hk) (by show this < σ.1 + 0; omega) dX3_init_11 ?_
  refine n_aload_n C (n := 0) rfl rfl dX3_init_14 ?_
  refine n_iconst C (v := 0) (by decide) dX3_init_15 ?_
  refine n_puti C hin fl_X3_18 ft_X3_2 rfl rfl rfl ((((KP.int).tr (KP.int)).2 this hkn).1.trans hk) (by show this < σ.1 + 0; omega) dX3_init_16 ?_
  refine n_aload_n C (n := 0) rfl rfl dX3_init_19 ?_
  refine n_iconst C (v := 0) (by decide) dX3_init_20 ?_
  refine n_puti C hin fl_X3_21 ft_X3_3 rfl rfl rfl (((((KP.int).tr (KP.int)).tr (KP.int)).2 this hkn).1.trans hk) (by show this < σ.1 + 0; omega) dX3_init_21 ?_
  refine n_aload_n C (n := 0) rfl rfl dX3_init_24 ?_
  refine n_bipush C (v := 40) (by decide) dX3_init_25 ?_
  refine n_newa C (atype := .int) (ty := .int) (t := 20) (ti := 0) (N := 40) rfl rfl (fun _ _ h => h) rfl (by decide) (by decide) (w1 47 rfl) (by decide) (by decide) (by decide) (by show σ.1 + 0 < 900; omega) (by rw [hRm]; decide) (by rw [hRm]; decide) dX3_init_27 ?_
  refine n_putr (q := σ.1) C hin fl_X3_24 ft_X3_4 rfl (fun _ => rfl) (fun _ => rfl) (((((((KP.int).tr (KP.int)).tr (KP.int)).tr (KP.int)).tr (KP.arr)).2 this hkn).1.trans hk) (by show this < σ.1 + 1; omega) (by omega) dX3_init_29 ?_
  refine n_aload_n C (n := 0) rfl rfl dX3_init_32 ?_
  refine n_bipush C (v := 40) (by decide) dX3_init_33 ?_
  refine n_newa C (atype := .int) (ty := .int) (t := 20) (ti := 0) (N := 40) rfl rfl (fun _ _ h => h) rfl (by decide) (by decide) (w1 47 rfl) (by decide) (by decide) (by decide) (by show σ.1 + 1 < 900; omega) (by rw [hRm]; decide) (by rw [hRm]; decide) dX3_init_35 ?_
  refine n_putr (q := σ.1 + 1) C hin fl_X3_28 ft_X3_5 rfl (fun _ => rfl) (fun _ => rfl) (((((((((KP.int).tr (KP.int)).tr (KP.int)).tr (KP.int)).tr (KP.arr)).tr (KP.ref)).tr (KP.arr)).2 this hkn).1.trans hk) (by show this < σ.1 + 2; omega) (by omega) dX3_init_37 ?_
  refine n_aload_n C (n := 0) rfl rfl dX3_init_40 ?_
  refine n_bipush C (v := 40) (by decide) dX3_init_41 ?_
  refine n_newa C (atype := .int) (ty := .int) (t := 20) (ti := 0) (N := 40) rfl rfl (fun _ _ h => h) rfl (by decide) (by decide) (w1 47 rfl) (by decide) (by decide) (by decide) (by show σ.1 + 2 < 900; omega) (by rw [hRm]; decide) (by rw [hRm]; decide) dX3_init_43 ?_
  refine n_putr (q := σ.1 + 2) C hin fl_X3_31 ft_X3_6 rfl (fun _ => rfl) (fun _ => rfl) (((((((((((KP.int).tr (KP.int)).tr (KP.int)).tr (KP.int)).tr (KP.arr)).tr (KP.ref)).tr (KP.arr)).tr (KP.ref)).tr (KP.arr)).2 this hkn).1.trans hk) (by show this < σ.1 + 3; omega) (by omega) dX3_init_45 ?_
  refine n_aload_n C (n := 0) rfl rfl dX3_init_48 ?_
  refine n_bipush C (v := 40) (by decide) dX3_init_49 ?_
  refine n_newa C (atype := .int) (ty := .int) (t := 20) (ti := 0) (N := 40) rfl rfl (fun _ _ h => h) rfl (by decide) (by decide) (w1 47 rfl) (by decide) (by decide) (by decide) (by show σ.1 + 3 < 900; omega) (by rw [hRm]; decide) (by rw [hRm]; decide) dX3_init_51 ?_
  refine n_putr (q := σ.1 + 3) C hin fl_X3_34 ft_X3_7 rfl (fun _ => rfl) (fun _ => rfl) (((((((((((((KP.int).tr (KP.int)).tr (KP.int)).tr (KP.int)).tr (KP.arr)).tr (KP.ref)).tr (KP.arr)).tr (KP.ref)).tr (KP.arr)).tr (KP.ref)).tr (KP.arr)).2 this hkn).1.trans hk) (by show this < σ.1 + 4; omega) (by omega) dX3_init_53 ?_
  refine n_aload_n C (n := 0) rfl rfl dX3_init_56 ?_
  refine n_bipush C (v := 6) (by decide) dX3_init_57 ?_
  refine n_newa C (atype := .int) (ty := .int) (t := 20) (ti := 0) (N := 6) rfl rfl (fun _ _ h => h) rfl (by decide) (by decide) (w1 47 rfl) (by decide) (by decide) (by decide) (by show σ.1 + 4 < 900; omega) (by rw [hRm]; decide) (by rw [hRm]; decide) dX3_init_59 ?_
  refine n_putr (q := σ.1 + 4) C hin fl_X3_37 ft_X3_8 rfl (fun _ => rfl) (fun _ => rfl) (((((((((((((((KP.int).tr (KP.int)).tr (KP.int)).tr (KP.int)).tr (KP.arr)).tr (KP.ref)).tr (KP.arr)).tr (KP.ref)).tr (KP.arr)).tr (KP.ref)).tr (KP.arr)).tr (KP.ref)).tr (KP.arr)).2 this hkn).1.trans hk) (by show this < σ.1 + 5; omega) (by omega) dX3_init_61 ?_
  refine n_aload_n C (n := 0) rfl rfl dX3_init_64 ?_
  refine n_bipush C (v := 6) (by decide) dX3_init_65 ?_
  refine n_newa C (atype := .int) (ty := .int) (t := 20) (ti := 0) (N := 6) rfl rfl (fun _ _ h => h) rfl (by decide) (by decide) (w1 47 rfl) (by decide) (by decide) (by decide) (by show σ.1 + 5 < 900; omega) (by rw [hRm]; decide) (by rw [hRm]; decide) dX3_init_67 ?_
  refine n_putr (q := σ.1 + 5) C hin fl_X3_40 ft_X3_9 rfl (fun _ => rfl) (fun _ => rfl) (((((((((((((((((KP.int).tr (KP.int)).tr (KP.int)).tr (KP.int)).tr (KP.arr)).tr (KP.ref)).tr (KP.arr)).tr (KP.ref)).tr (KP.arr)).tr (KP.ref)).tr (KP.arr)).tr (KP.ref)).tr (KP.arr)).tr (KP.ref)).tr (KP.arr)).2 this hkn).1.trans hk) (by show this < σ.1 + 6; omega) (by omega) dX3_init_69 ?_
  exact n_ret C hr dX3_init_72
set_option maxRecDepth 20000 in
theorem kp_X4_init {σ : NS} {this : Nat} {a0 : Nat} : KP σ (c_X4_init σ this a0) := ((KP.int).tr (KP.ref) : KP σ (c_X4_init_s2 σ this a0))
set_option maxRecDepth 20000 in
theorem kr_X4_init {σ : NS} {this : Nat} {a0 : Nat} {k : Nat} (h : k < σ.1) (hk : k ≠ this) : KR σ (c_X4_init σ this a0) k := by
  have e1 : KR σ (c_X4_init_s1 σ this a0) k := KR.int
  have e2 : KR (c_X4_init_s1 σ this a0) (c_X4_init_s2 σ this a0) k := (KR.ref (by omega))
  exact (e1).tr e2
set_option maxRecDepth 20000 in
set_option maxHeartbeats 4000000 in
theorem s_X4_init {l : Launch} {B : BT} {σ : NS} {this : Nat} {a0 : Nat} (hk : zk σ.2.1 this = 4) (hkn : this < σ.1) (hN : σ.1 + 0 < 900) (ha0 : a0 ≠ 999) : MN l B yX4_init cX4_init 2 1 0 0 [.ref (nad B this), .ref (nad B a0)] σ (c_X4_init σ this a0) := by
  refine n_met (by decide) rfl (Nat.le_of_ble_eq_true rfl) ?_
  intro x C hin hRm _ hr
  show NK x B 2 0 0 (QMN x B 0 0 (c_X4_init_s2 σ this a0)) 0 [(0, .ref (nad B this)), (1, .ref (nad B a0))] [] σ
  refine n_aload_n C (n := 0) rfl rfl dX4_init_0 ?_
  refine n_obj C (w2 5 rfl) (by rw [hRm]; decide) (by rw [hRm]; decide) dX4_init_1 ?_
  refine n_aload_n C (n := 0) rfl rfl dX4_init_4 ?_
  refine n_iconst C (v := 0) (by decide) dX4_init_5 ?_
  refine n_puti C hin fl_X4_9 ft_X4_1 rfl rfl rfl hk (by show this < σ.1 + 0; omega) dX4_init_6 ?_
  refine n_aload_n C (n := 0) rfl rfl dX4_init_9 ?_
  refine n_aload_n C (n := 1) rfl rfl dX4_init_10 ?_
  refine n_putr (q := a0) C hin fl_X4_15 ft_X4_0 rfl (fun _ => rfl) (fun _ => rfl) (((KP.int).2 this hkn).1.trans hk) (by show this < σ.1 + 0; omega) (by omega) dX4_init_11 ?_
  exact n_ret C hr dX4_init_14
set_option maxRecDepth 20000 in
theorem kp_X7_init {σ : NS} {this : Nat} : KP σ (c_X7_init σ this) := ((((((KP.arr).tr (KP.ref)).tr (KP.int)).tr (KP.int)).tr (KP.int)).tr (KP.int) : KP σ (c_X7_init_s6 σ this))
set_option maxRecDepth 20000 in
theorem kr_X7_init {σ : NS} {this : Nat} {k : Nat} (h : k < σ.1) (hk : k ≠ this) : KR σ (c_X7_init σ this) k := by
  have e1 : KR σ (c_X7_init_s1 σ this) k := (KR.arr (by show k < σ.1 + 0; omega))
  have e2 : KR (c_X7_init_s1 σ this) (c_X7_init_s2 σ this) k := (KR.ref (by omega))
  have e3 : KR (c_X7_init_s2 σ this) (c_X7_init_s3 σ this) k := KR.int
  have e4 : KR (c_X7_init_s3 σ this) (c_X7_init_s4 σ this) k := KR.int
  have e5 : KR (c_X7_init_s4 σ this) (c_X7_init_s5 σ this) k := KR.int
  have e6 : KR (c_X7_init_s5 σ this) (c_X7_init_s6 σ this) k := KR.int
  exact (((((e1).tr e2).tr e3).tr e4).tr e5).tr e6
set_option maxRecDepth 20000 in
set_option maxHeartbeats 4000000 in
theorem s_X7_init {l : Launch} {B : BT} {σ : NS} {this : Nat} (hk : zk σ.2.1 this = 7) (hkn : this < σ.1) (hN : σ.1 + 1 < 900)  : MN l B yX7_init cX7_init 1 1 1 500 [.ref (nad B this)] σ (c_X7_init σ this) := by
  refine n_met (by decide) rfl (Nat.le_of_ble_eq_true rfl) ?_
  intro x C hin hRm _ hr
  show NK x B 1 0 0 (QMN x B 1 500 (c_X7_init_s6 σ this)) 0 [(0, .ref (nad B this))] [] σ
  refine n_aload_n C (n := 0) rfl rfl dX7_init_0 ?_
  refine n_obj C (w1 52 rfl) (by rw [hRm]; decide) (by rw [hRm]; decide) dX7_init_1 ?_
  refine n_aload_n C (n := 0) rfl rfl dX7_init_4 ?_
  refine n_sipush C (v := 500) (by decide) dX7_init_5 ?_
  refine n_newa C (atype := .byte) (ty := .byte) (t := 21) (ti := 1) (N := 500) rfl rfl (fun _ _ h => h) rfl (by decide) (by decide) (w1 63 rfl) (by decide) (by decide) (by decide) (by show σ.1 + 0 < 900; omega) (by rw [hRm]; decide) (by rw [hRm]; decide) dX7_init_8 ?_
  refine n_putr (q := σ.1) C hin fl_X7_9 ft_X7_0 rfl (fun _ => rfl) (fun _ => rfl) (((KP.arr).2 this hkn).1.trans hk) (by show this < σ.1 + 1; omega) (by omega) dX7_init_10 ?_
  refine n_aload_n C (n := 0) rfl rfl dX7_init_13 ?_
  refine n_iconst C (v := 0) (by decide) dX7_init_14 ?_
  refine n_puti C hin fl_X7_15 ft_X7_1 rfl rfl rfl ((((KP.arr).tr (KP.ref)).2 this hkn).1.trans hk) (by show this < σ.1 + 1; omega) dX7_init_15 ?_
  refine n_aload_n C (n := 0) rfl rfl dX7_init_18 ?_
  refine n_iconst C (v := 0) (by decide) dX7_init_19 ?_
  refine n_puti C hin fl_X7_19 ft_X7_2 rfl rfl rfl (((((KP.arr).tr (KP.ref)).tr (KP.int)).2 this hkn).1.trans hk) (by show this < σ.1 + 1; omega) dX7_init_20 ?_
  refine n_aload_n C (n := 0) rfl rfl dX7_init_23 ?_
  refine n_iconst C (v := 0) (by decide) dX7_init_24 ?_
  refine n_puti C hin fl_X7_22 ft_X7_3 rfl rfl rfl ((((((KP.arr).tr (KP.ref)).tr (KP.int)).tr (KP.int)).2 this hkn).1.trans hk) (by show this < σ.1 + 1; omega) dX7_init_25 ?_
  refine n_aload_n C (n := 0) rfl rfl dX7_init_28 ?_
  refine n_iconst C (v := 0) (by decide) dX7_init_29 ?_
  refine n_puti C hin fl_X7_25 ft_X7_4 rfl rfl rfl (((((((KP.arr).tr (KP.ref)).tr (KP.int)).tr (KP.int)).tr (KP.int)).2 this hkn).1.trans hk) (by show this < σ.1 + 1; omega) dX7_init_30 ?_
  exact n_ret C hr dX7_init_33
set_option maxRecDepth 20000 in
theorem kp_X6_init {σ : NS} {this : Nat} : KP σ (c_X6_init σ this) := (((((((KP.arr).tr (KP.ref)).tr (KP.arr)).tr (KP.ref)).tr (KP.mul)).tr (KP.ref)).tr (kp_J7_fill_53178) : KP σ (c_X6_init_s7 σ this))
set_option maxRecDepth 20000 in
theorem kr_X6_init {σ : NS} {this : Nat} {k : Nat} (h : k < σ.1) (hk : k ≠ this) : KR σ (c_X6_init σ this) k := by
  have e1 : KR σ (c_X6_init_s1 σ this) k := (KR.arr (by show k < σ.1 + 0; omega))
  have e2 : KR (c_X6_init_s1 σ this) (c_X6_init_s2 σ this) k := (KR.ref (by omega))
  have e3 : KR (c_X6_init_s2 σ this) (c_X6_init_s3 σ this) k := (KR.arr (by show k < σ.1 + 1; omega))
  have e4 : KR (c_X6_init_s3 σ this) (c_X6_init_s4 σ this) k := (KR.ref (by omega))
  have e5 : KR (c_X6_init_s4 σ this) (c_X6_init_s5 σ this) k := (KR.mul (by show k < σ.1 + 2; omega))
  have e6 : KR (c_X6_init_s5 σ this) (c_X6_init_s6 σ this) k := (KR.ref (by omega))
  have e7 : KR (c_X6_init_s6 σ this) (c_X6_init_s7 σ this) k := rfl
  exact ((((((e1).tr e2).tr e3).tr e4).tr e5).tr e6).tr e7
set_option maxRecDepth 20000 in
set_option maxHeartbeats 4000000 in
theorem s_X6_init {l : Launch} {B : BT} {σ : NS} {this : Nat} (hk : zk σ.2.1 this = 6) (hkn : this < σ.1) (hN : σ.1 + 11 < 900)  : MN l B yX6_init cX6_init 1 1 11 344 [.ref (nad B this)] σ (c_X6_init σ this) := by
  refine n_met (by decide) rfl (Nat.le_of_ble_eq_true rfl) ?_
  intro x C hin hRm _ hr
  show NK x B 1 0 0 (QMN x B 11 344 (c_X6_init_s7 σ this)) 0 [(0, .ref (nad B this))] [] σ
  refine n_aload_n C (n := 0) rfl rfl dX6_init_0 ?_
  refine n_obj C (w1 36 rfl) (by rw [hRm]; decide) (by rw [hRm]; decide) dX6_init_1 ?_
  refine n_aload_n C (n := 0) rfl rfl dX6_init_4 ?_
  refine n_bipush C (v := 8) (by decide) dX6_init_5 ?_
  refine n_newa C (atype := .int) (ty := .int) (t := 20) (ti := 0) (N := 8) rfl rfl (fun _ _ h => h) rfl (by decide) (by decide) (w1 47 rfl) (by decide) (by decide) (by decide) (by show σ.1 + 0 < 900; omega) (by rw [hRm]; decide) (by rw [hRm]; decide) dX6_init_7 ?_
  refine n_putr (q := σ.1) C hin fl_X6_9 ft_X6_0 rfl (fun _ => rfl) (fun _ => rfl) (((KP.arr).2 this hkn).1.trans hk) (by show this < σ.1 + 1; omega) (by omega) dX6_init_9 ?_
  refine n_aload_n C (n := 0) rfl rfl dX6_init_12 ?_
  refine n_bipush C (v := 8) (by decide) dX6_init_13 ?_
  refine n_newa C (atype := .int) (ty := .int) (t := 20) (ti := 0) (N := 8) rfl rfl (fun _ _ h => h) rfl (by decide) (by decide) (w1 47 rfl) (by decide) (by decide) (by decide) (by show σ.1 + 1 < 900; omega) (by rw [hRm]; decide) (by rw [hRm]; decide) dX6_init_15 ?_
  refine n_putr (q := σ.1 + 1) C hin fl_X6_15 ft_X6_1 rfl (fun _ => rfl) (fun _ => rfl) (((((KP.arr).tr (KP.ref)).tr (KP.arr)).2 this hkn).1.trans hk) (by show this < σ.1 + 2; omega) (by omega) dX6_init_17 ?_
  refine n_aload_n C (n := 0) rfl rfl dX6_init_20 ?_
  refine n_bipush C (v := 8) (by decide) dX6_init_21 ?_
  refine n_bipush C (v := 40) (by decide) dX6_init_23 ?_
  refine n_mul C (N := 8) (K := 40) (w1 37 rfl) (w1 47 rfl) (by decide) (by decide) (by decide) (by decide) (by decide) (by decide) (by show σ.1 + 2 + 1 + 8 < 900; omega) (by rw [hRm]; decide) (by rw [hRm]; decide) dX6_init_25 ?_
  refine n_putr (q := σ.1 + 2) C hin fl_X6_20 ft_X6_2 rfl (fun _ => rfl) (fun _ => rfl) (((((((KP.arr).tr (KP.ref)).tr (KP.arr)).tr (KP.ref)).tr (KP.mul)).2 this hkn).1.trans hk) (by show this < σ.1 + 11; omega) (by omega) dX6_init_29 ?_
  refine n_aload_n C (n := 0) rfl rfl dX6_init_32 ?_
  refine n_getr (q := σ.1 + 1) C fl_X6_15 rfl ((((((((KP.arr).tr (KP.ref)).tr (KP.arr)).tr (KP.ref)).tr (KP.mul)).tr (KP.ref)).2 this hkn).1.trans hk) (by show this < σ.1 + 11; omega) ((KR.ne (by decide)).trans ((congrFun ((KR.mul (by show this < σ.1 + 2; omega))) 1).trans (KR.at))) (by omega) dX6_init_33 ?_
  refine n_iconst C (v := (-1)) (by decide) dX6_init_36 ?_
  refine n_cs C (d := 0) (mc := 0) (ms := 0) (by rw [hRm]; decide) (by rw [hRm]; decide) (by rw [hRm]; decide) (by rw [hRm]; decide) cs_X6_23 (by decide) [.ref (nad B (σ.1 + 1)), .int (-1)] rfl (s_fill8 (((((KP.ref).tr (KP.mul)).tr (KP.ref) : KP (c_X6_init_s3 σ this) (c_X6_init_s6 σ this)).2 _ (Nat.lt_succ_self _)).1.trans up_s) (by show σ.1 + 1 < σ.1 + 11; omega) (((((KP.ref).tr (KP.mul)).tr (KP.ref) : KP (c_X6_init_s3 σ this) (c_X6_init_s6 σ this)).2 _ (Nat.lt_succ_self _)).2.trans up_s) (by show σ.1 + 11 + 0 < 900; omega)) (Nat.le_of_ble_eq_true rfl) dX6_init_37 rfl ?_
  exact n_ret C hr dX6_init_40
set_option maxRecDepth 20000 in
theorem kp_X5_init {σ : NS} {this : Nat} : KP σ (c_X5_init σ this) := ((((((((((((((((((((((((((((((((KP.arr).tr (KP.ref)).tr (KP.arr)).tr (KP.ref)).tr (KP.arr)).tr (KP.ref)).tr (KP.arr)).tr (KP.ref)).tr (KP.int)).tr (KP.int)).tr (KP.int)).tr (KP.obj)).tr (kp_X2_init)).tr (KP.ref)).tr (KP.obj)).tr (kp_X2_init)).tr (KP.ref)).tr (KP.obj)).tr (kp_X2_init)).tr (KP.ref)).tr (KP.obj)).tr (kp_X2_init)).tr (KP.ref)).tr (KP.obj)).tr (kp_X2_init)).tr (KP.ref)).tr (KP.obj)).tr (kp_X2_init)).tr (KP.ref)).tr (KP.obj)).tr (kp_X2_init)).tr (KP.ref) : KP σ (c_X5_init_s32 σ this))
set_option maxRecDepth 20000 in
theorem kr_X5_init {σ : NS} {this : Nat} {k : Nat} (h : k < σ.1) (hk : k ≠ this) : KR σ (c_X5_init σ this) k := by
  have e1 : KR σ (c_X5_init_s1 σ this) k := (KR.arr (by show k < σ.1 + 0; omega))
  have e2 : KR (c_X5_init_s1 σ this) (c_X5_init_s2 σ this) k := (KR.ref (by omega))
  have e3 : KR (c_X5_init_s2 σ this) (c_X5_init_s3 σ this) k := (KR.arr (by show k < σ.1 + 1; omega))
  have e4 : KR (c_X5_init_s3 σ this) (c_X5_init_s4 σ this) k := (KR.ref (by omega))
  have e5 : KR (c_X5_init_s4 σ this) (c_X5_init_s5 σ this) k := (KR.arr (by show k < σ.1 + 2; omega))
  have e6 : KR (c_X5_init_s5 σ this) (c_X5_init_s6 σ this) k := (KR.ref (by omega))
  have e7 : KR (c_X5_init_s6 σ this) (c_X5_init_s7 σ this) k := (KR.arr (by show k < σ.1 + 3; omega))
  have e8 : KR (c_X5_init_s7 σ this) (c_X5_init_s8 σ this) k := (KR.ref (by omega))
  have e9 : KR (c_X5_init_s8 σ this) (c_X5_init_s9 σ this) k := KR.int
  have e10 : KR (c_X5_init_s9 σ this) (c_X5_init_s10 σ this) k := KR.int
  have e11 : KR (c_X5_init_s10 σ this) (c_X5_init_s11 σ this) k := KR.int
  have e12 : KR (c_X5_init_s11 σ this) (c_X5_init_s12 σ this) k := (KR.obj (by show k < σ.1 + 4; omega))
  have e13 : KR (c_X5_init_s12 σ this) (c_X5_init_s13 σ this) k := (kr_X2_init (by show k < σ.1 + 5; omega) (by omega) : KR (c_X5_init_s12 σ this) (c_X5_init_s13 σ this) k)
  have e14 : KR (c_X5_init_s13 σ this) (c_X5_init_s14 σ this) k := (KR.ref (by omega))
  have e15 : KR (c_X5_init_s14 σ this) (c_X5_init_s15 σ this) k := (KR.obj (by show k < σ.1 + 11; omega))
  have e16 : KR (c_X5_init_s15 σ this) (c_X5_init_s16 σ this) k := (kr_X2_init (by show k < σ.1 + 12; omega) (by omega) : KR (c_X5_init_s15 σ this) (c_X5_init_s16 σ this) k)
  have e17 : KR (c_X5_init_s16 σ this) (c_X5_init_s17 σ this) k := (KR.ref (by omega))
  have e18 : KR (c_X5_init_s17 σ this) (c_X5_init_s18 σ this) k := (KR.obj (by show k < σ.1 + 18; omega))
  have e19 : KR (c_X5_init_s18 σ this) (c_X5_init_s19 σ this) k := (kr_X2_init (by show k < σ.1 + 19; omega) (by omega) : KR (c_X5_init_s18 σ this) (c_X5_init_s19 σ this) k)
  have e20 : KR (c_X5_init_s19 σ this) (c_X5_init_s20 σ this) k := (KR.ref (by omega))
  have e21 : KR (c_X5_init_s20 σ this) (c_X5_init_s21 σ this) k := (KR.obj (by show k < σ.1 + 25; omega))
  have e22 : KR (c_X5_init_s21 σ this) (c_X5_init_s22 σ this) k := (kr_X2_init (by show k < σ.1 + 26; omega) (by omega) : KR (c_X5_init_s21 σ this) (c_X5_init_s22 σ this) k)
  have e23 : KR (c_X5_init_s22 σ this) (c_X5_init_s23 σ this) k := (KR.ref (by omega))
  have e24 : KR (c_X5_init_s23 σ this) (c_X5_init_s24 σ this) k := (KR.obj (by show k < σ.1 + 32; omega))
  have e25 : KR (c_X5_init_s24 σ this) (c_X5_init_s25 σ this) k := (kr_X2_init (by show k < σ.1 + 33; omega) (by omega) : KR (c_X5_init_s24 σ this) (c_X5_init_s25 σ this) k)
  have e26 : KR (c_X5_init_s25 σ this) (c_X5_init_s26 σ this) k := (KR.ref (by omega))
  have e27 : KR (c_X5_init_s26 σ this) (c_X5_init_s27 σ this) k := (KR.obj (by show k < σ.1 + 39; omega))
  have e28 : KR (c_X5_init_s27 σ this) (c_X5_init_s28 σ this) k := (kr_X2_init (by show k < σ.1 + 40; omega) (by omega) : KR (c_X5_init_s27 σ this) (c_X5_init_s28 σ this) k)
  have e29 : KR (c_X5_init_s28 σ this) (c_X5_init_s29 σ this) k := (KR.ref (by omega))
  have e30 : KR (c_X5_init_s29 σ this) (c_X5_init_s30 σ this) k := (KR.obj (by show k < σ.1 + 46; omega))
  have e31 : KR (c_X5_init_s30 σ this) (c_X5_init_s31 σ this) k := (kr_X2_init (by show k < σ.1 + 47; omega) (by omega) : KR (c_X5_init_s30 σ this) (c_X5_init_s31 σ this) k)
  have e32 : KR (c_X5_init_s31 σ this) (c_X5_init_s32 σ this) k := (KR.ref (by omega))
  exact (((((((((((((((((((((((((((((((e1).tr e2).tr e3).tr e4).tr e5).tr e6).tr e7).tr e8).tr e9).tr e10).tr e11).tr e12).tr e13).tr e14).tr e15).tr e16).tr e17).tr e18).tr e19).tr e20).tr e21).tr e22).tr e23).tr e24).tr e25).tr e26).tr e27).tr e28).tr e29).tr e30).tr e31).tr e32
set_option maxRecDepth 20000 in
set_option maxHeartbeats 4000000 in
theorem s_X5_init {l : Launch} {B : BT} {σ : NS} {this : Nat} (hk : zk σ.2.1 this = 5) (hkn : this < σ.1) (hN : σ.1 + 53 < 900)  : MN l B yX5_init cX5_init 2 2 53 657 [.ref (nad B this)] σ (c_X5_init σ this) := by
  refine n_met (by decide) rfl (Nat.le_of_ble_eq_true rfl) ?_
  intro x C hin hRm _ hr
  show NK x B 2 0 0 (QMN x B 53 657 (c_X5_init_s32 σ this)) 0 [(0, .ref (nad B this))] [] σ
  refine n_aload_n C (n := 0) rfl rfl dX5_init_0 ?_
  refine n_obj C (w2 40 rfl) (by rw [hRm]; decide) (by rw [hRm]; decide) dX5_init_1 ?_
  refine n_aload_n C (n := 0) rfl rfl dX5_init_4 ?_
  refine n_bipush C (v := 7) (by decide) dX5_init_5 ?_
  refine n_newq C (N := 7) (Cn := "SeamPull$Panel") rfl C.2.2.2.2.2.2.2.2.1 (w2 41 rfl) (by decide) (by decide) (by decide) (by show σ.1 + 0 < 900; omega) (by rw [hRm]; decide) (by rw [hRm]; decide) dX5_init_7 ?_
  refine n_putr (q := σ.1) C hin fl_X5_11 ft_X5_0 rfl (fun _ => rfl) (fun _ => rfl) (((KP.arr).2 this hkn).1.trans hk) (by show this < σ.1 + 1; omega) (by omega) dX5_init_10 ?_
  refine n_aload_n C (n := 0) rfl rfl dX5_init_13 ?_
  refine n_bipush C (v := 6) (by decide) dX5_init_14 ?_
  refine n_newa C (atype := .int) (ty := .int) (t := 20) (ti := 0) (N := 6) rfl rfl (fun _ _ h => h) rfl (by decide) (by decide) (w1 47 rfl) (by decide) (by decide) (by decide) (by show σ.1 + 1 < 900; omega) (by rw [hRm]; decide) (by rw [hRm]; decide) dX5_init_16 ?_
  refine n_putr (q := σ.1 + 1) C hin fl_X5_17 ft_X5_1 rfl (fun _ => rfl) (fun _ => rfl) (((((KP.arr).tr (KP.ref)).tr (KP.arr)).2 this hkn).1.trans hk) (by show this < σ.1 + 2; omega) (by omega) dX5_init_18 ?_
  refine n_aload_n C (n := 0) rfl rfl dX5_init_21 ?_
  refine n_bipush C (v := 6) (by decide) dX5_init_22 ?_
  refine n_newa C (atype := .int) (ty := .int) (t := 20) (ti := 0) (N := 6) rfl rfl (fun _ _ h => h) rfl (by decide) (by decide) (w1 47 rfl) (by decide) (by decide) (by decide) (by show σ.1 + 2 < 900; omega) (by rw [hRm]; decide) (by rw [hRm]; decide) dX5_init_24 ?_
  refine n_putr (q := σ.1 + 2) C hin fl_X5_21 ft_X5_2 rfl (fun _ => rfl) (fun _ => rfl) (((((((KP.arr).tr (KP.ref)).tr (KP.arr)).tr (KP.ref)).tr (KP.arr)).2 this hkn).1.trans hk) (by show this < σ.1 + 3; omega) (by omega) dX5_init_26 ?_
  refine n_aload_n C (n := 0) rfl rfl dX5_init_29 ?_
  refine n_bipush C (v := 64) (by decide) dX5_init_30 ?_
  refine n_newa C (atype := .int) (ty := .int) (t := 20) (ti := 0) (N := 64) rfl rfl (fun _ _ h => h) rfl (by decide) (by decide) (w1 47 rfl) (by decide) (by decide) (by decide) (by show σ.1 + 3 < 900; omega) (by rw [hRm]; decide) (by rw [hRm]; decide) dX5_init_32 ?_
  refine n_putr (q := σ.1 + 3) C hin fl_X5_24 ft_X5_3 rfl (fun _ => rfl) (fun _ => rfl) (((((((((KP.arr).tr (KP.ref)).tr (KP.arr)).tr (KP.ref)).tr (KP.arr)).tr (KP.ref)).tr (KP.arr)).2 this hkn).1.trans hk) (by show this < σ.1 + 4; omega) (by omega) dX5_init_34 ?_
  refine n_aload_n C (n := 0) rfl rfl dX5_init_37 ?_
  refine n_iconst C (v := 0) (by decide) dX5_init_38 ?_
  refine n_puti C hin fl_X5_27 ft_X5_4 rfl rfl rfl ((((((((((KP.arr).tr (KP.ref)).tr (KP.arr)).tr (KP.ref)).tr (KP.arr)).tr (KP.ref)).tr (KP.arr)).tr (KP.ref)).2 this hkn).1.trans hk) (by show this < σ.1 + 4; omega) dX5_init_39 ?_
  refine n_aload_n C (n := 0) rfl rfl dX5_init_42 ?_
  refine n_iconst C (v := 0) (by decide) dX5_init_43 ?_
  refine n_puti C hin fl_X5_31 ft_X5_5 rfl rfl rfl (((((((((((KP.arr).tr (KP.ref)).tr (KP.arr)).tr (KP.ref)).tr (KP.arr)).tr (KP.ref)).tr (KP.arr)).tr (KP.ref)).tr (KP.int)).2 this hkn).1.trans hk) (by show this < σ.1 + 4; omega) dX5_init_44 ?_
  refine n_aload_n C (n := 0) rfl rfl dX5_init_47 ?_
  refine n_iconst C (v := 0) (by decide) dX5_init_48 ?_
  refine n_puti C hin fl_X5_34 ft_X5_6 rfl rfl rfl ((((((((((((KP.arr).tr (KP.ref)).tr (KP.arr)).tr (KP.ref)).tr (KP.arr)).tr (KP.ref)).tr (KP.arr)).tr (KP.ref)).tr (KP.int)).tr (KP.int)).2 this hkn).1.trans hk) (by show this < σ.1 + 4; omega) dX5_init_49 ?_
  refine n_iconst C (v := 0) (by decide) dX5_init_52 ?_
  refine n_istore_n C (lv' := [(1, .int 0), (0, .ref (nad B this))]) rfl (by decide) rfl dX5_init_53 ?_
  refine n_iload_n C (n := 0) rfl rfl dX5_init_54 ?_
  refine n_bipush C (v := 6) (by decide) dX5_init_55 ?_
  refine n_icgtN C (by decide) dX5_init_57 79 (by decide) ?_
  refine n_aload_n C (n := 1) rfl rfl dX5_init_60 ?_
  refine n_getr (q := σ.1) C fl_X5_11 rfl (((((((((((((KP.arr).tr (KP.ref)).tr (KP.arr)).tr (KP.ref)).tr (KP.arr)).tr (KP.ref)).tr (KP.arr)).tr (KP.ref)).tr (KP.int)).tr (KP.int)).tr (KP.int)).2 this hkn).1.trans hk) (by show this < σ.1 + 4; omega) ((congrFun (KR.int) 0).trans ((congrFun (KR.int) 0).trans ((congrFun (KR.int) 0).trans ((KR.ne (by decide)).trans ((congrFun ((KR.arr (by show this < σ.1 + 3; omega))) 0).trans ((KR.ne (by decide)).trans ((congrFun ((KR.arr (by show this < σ.1 + 2; omega))) 0).trans ((KR.ne (by decide)).trans ((congrFun ((KR.arr (by show this < σ.1 + 1; omega))) 0).trans (KR.at)))))))))) (by omega) dX5_init_61 ?_
  refine n_iload_n C (n := 0) rfl rfl dX5_init_64 ?_
  refine n_new C (c := 2) rfl (by decide) tyX2 tyX2_ok (by decide) inbX2 (List.forall_mem_cons.mpr ⟨w2 41 rfl, List.forall_mem_cons.mpr ⟨w2 11 rfl, List.forall_mem_cons.mpr ⟨w1 10 rfl, fun _ h => absurd h List.not_mem_nil⟩⟩⟩) (by show σ.1 + 4 < 900; omega) (by rw [hRm]; decide) (by rw [hRm]; decide) dX5_init_65 ?_
  refine n_dup C rfl dX5_init_68 ?_
  refine n_cj C (d := 1) (mc := 6) (ms := 72) (by rw [hRm]; decide) (by rw [hRm]; decide) (by rw [hRm]; decide) (by rw [hRm]; decide) ci_X5_38 (by decide) (k := σ.1 + 4) [] rfl (s_X2_init (((KP.rf : KP (c_X5_init_s12 σ this) (c_X5_init_s12 σ this)).2 _ (Nat.lt_succ_self _)).1.trans up_s) (by show σ.1 + 4 < σ.1 + 5; omega) (by show σ.1 + 5 + 6 < 900; omega)) (Nat.le_of_ble_eq_true rfl) dX5_init_69 rfl ?_
  refine n_aast (N := 7) (j := 0) (q := σ.1 + 4) C (c := 2) rfl (by decide) rfl ((((((((((((((KP.ref).tr (KP.arr)).tr (KP.ref)).tr (KP.arr)).tr (KP.ref)).tr (KP.arr)).tr (KP.ref)).tr (KP.int)).tr (KP.int)).tr (KP.int)).tr (KP.obj)).tr (kp_X2_init) : KP (c_X5_init_s1 σ this) (c_X5_init_s13 σ this)).2 _ (Nat.lt_succ_self _)).1.trans up_s) (by show σ.1 < σ.1 + 11; omega) ((((((((((((((KP.ref).tr (KP.arr)).tr (KP.ref)).tr (KP.arr)).tr (KP.ref)).tr (KP.arr)).tr (KP.ref)).tr (KP.int)).tr (KP.int)).tr (KP.int)).tr (KP.obj)).tr (kp_X2_init) : KP (c_X5_init_s1 σ this) (c_X5_init_s13 σ this)).2 _ (Nat.lt_succ_self _)).2.trans up_s) (((kp_X2_init : KP (c_X5_init_s12 σ this) (c_X5_init_s13 σ this)).2 _ (Nat.lt_succ_self _)).1.trans up_s) (by show σ.1 + 4 < σ.1 + 11; omega) (inb_vp.mp (by decide)) (by decide) dX5_init_72 ?_
  refine n_iinc C (n := 0) (v := 1) (lv' := [(1, .int 1), (0, .ref (nad B this))]) rfl (by decide) (by decide) rfl dX5_init_73 ?_
  refine n_goto C (t := 54) (by decide) dX5_init_76 ?_
  refine n_iload_n C (n := 0) rfl rfl dX5_init_54 ?_
  refine n_bipush C (v := 6) (by decide) dX5_init_55 ?_
  refine n_icgtN C (by decide) dX5_init_57 79 (by decide) ?_
  refine n_aload_n C (n := 1) rfl rfl dX5_init_60 ?_
  refine n_getr (q := σ.1) C fl_X5_11 rfl ((((((((((((((((KP.arr).tr (KP.ref)).tr (KP.arr)).tr (KP.ref)).tr (KP.arr)).tr (KP.ref)).tr (KP.arr)).tr (KP.ref)).tr (KP.int)).tr (KP.int)).tr (KP.int)).tr (KP.obj)).tr (kp_X2_init)).tr (KP.ref)).2 this hkn).1.trans hk) (by show this < σ.1 + 11; omega) ((congrFun ((KR.ref (by omega))) 0).trans ((congrFun ((kr_X2_init (by show this < σ.1 + 5; omega) (by omega) : KR (c_X5_init_s12 σ this) (c_X5_init_s13 σ this) this)) 0).trans ((congrFun ((KR.obj (by show this < σ.1 + 4; omega))) 0).trans ((congrFun (KR.int) 0).trans ((congrFun (KR.int) 0).trans ((congrFun (KR.int) 0).trans ((KR.ne (by decide)).trans ((congrFun ((KR.arr (by show this < σ.1 + 3; omega))) 0).trans ((KR.ne (by decide)).trans ((congrFun ((KR.arr (by show this < σ.1 + 2; omega))) 0).trans ((KR.ne (by decide)).trans ((congrFun ((KR.arr (by show this < σ.1 + 1; omega))) 0).trans (KR.at))))))))))))) (by omega) dX5_init_61 ?_
  refine n_iload_n C (n := 0) rfl rfl dX5_init_64 ?_
  refine n_new C (c := 2) rfl (by decide) tyX2 tyX2_ok (by decide) inbX2 (List.forall_mem_cons.mpr ⟨w2 41 rfl, List.forall_mem_cons.mpr ⟨w2 11 rfl, List.forall_mem_cons.mpr ⟨w1 10 rfl, fun _ h => absurd h List.not_mem_nil⟩⟩⟩) (by show σ.1 + 11 < 900; omega) (by rw [hRm]; decide) (by rw [hRm]; decide) dX5_init_65 ?_
  refine n_dup C rfl dX5_init_68 ?_
  refine n_cj C (d := 1) (mc := 6) (ms := 72) (by rw [hRm]; decide) (by rw [hRm]; decide) (by rw [hRm]; decide) (by rw [hRm]; decide) ci_X5_38 (by decide) (k := σ.1 + 11) [] rfl (s_X2_init (((KP.rf : KP (c_X5_init_s15 σ this) (c_X5_init_s15 σ this)).2 _ (Nat.lt_succ_self _)).1.trans up_s) (by show σ.1 + 11 < σ.1 + 12; omega) (by show σ.1 + 12 + 6 < 900; omega)) (Nat.le_of_ble_eq_true rfl) dX5_init_69 rfl ?_
  refine n_aast (N := 7) (j := 1) (q := σ.1 + 11) C (c := 2) rfl (by decide) rfl (((((((((((((((((KP.ref).tr (KP.arr)).tr (KP.ref)).tr (KP.arr)).tr (KP.ref)).tr (KP.arr)).tr (KP.ref)).tr (KP.int)).tr (KP.int)).tr (KP.int)).tr (KP.obj)).tr (kp_X2_init)).tr (KP.ref)).tr (KP.obj)).tr (kp_X2_init) : KP (c_X5_init_s1 σ this) (c_X5_init_s16 σ this)).2 _ (Nat.lt_succ_self _)).1.trans up_s) (by show σ.1 < σ.1 + 18; omega) (((((((((((((((((KP.ref).tr (KP.arr)).tr (KP.ref)).tr (KP.arr)).tr (KP.ref)).tr (KP.arr)).tr (KP.ref)).tr (KP.int)).tr (KP.int)).tr (KP.int)).tr (KP.obj)).tr (kp_X2_init)).tr (KP.ref)).tr (KP.obj)).tr (kp_X2_init) : KP (c_X5_init_s1 σ this) (c_X5_init_s16 σ this)).2 _ (Nat.lt_succ_self _)).2.trans up_s) (((kp_X2_init : KP (c_X5_init_s15 σ this) (c_X5_init_s16 σ this)).2 _ (Nat.lt_succ_self _)).1.trans up_s) (by show σ.1 + 11 < σ.1 + 18; omega) (inb_vp.mp (by decide)) (by decide) dX5_init_72 ?_
  refine n_iinc C (n := 0) (v := 2) (lv' := [(1, .int 2), (0, .ref (nad B this))]) rfl (by decide) (by decide) rfl dX5_init_73 ?_
  refine n_goto C (t := 54) (by decide) dX5_init_76 ?_
  refine n_iload_n C (n := 0) rfl rfl dX5_init_54 ?_
  refine n_bipush C (v := 6) (by decide) dX5_init_55 ?_
  refine n_icgtN C (by decide) dX5_init_57 79 (by decide) ?_
  refine n_aload_n C (n := 1) rfl rfl dX5_init_60 ?_
  refine n_getr (q := σ.1) C fl_X5_11 rfl (((((((((((((((((((KP.arr).tr (KP.ref)).tr (KP.arr)).tr (KP.ref)).tr (KP.arr)).tr (KP.ref)).tr (KP.arr)).tr (KP.ref)).tr (KP.int)).tr (KP.int)).tr (KP.int)).tr (KP.obj)).tr (kp_X2_init)).tr (KP.ref)).tr (KP.obj)).tr (kp_X2_init)).tr (KP.ref)).2 this hkn).1.trans hk) (by show this < σ.1 + 18; omega) ((congrFun ((KR.ref (by omega))) 0).trans ((congrFun ((kr_X2_init (by show this < σ.1 + 12; omega) (by omega) : KR (c_X5_init_s15 σ this) (c_X5_init_s16 σ this) this)) 0).trans ((congrFun ((KR.obj (by show this < σ.1 + 11; omega))) 0).trans ((congrFun ((KR.ref (by omega))) 0).trans ((congrFun ((kr_X2_init (by show this < σ.1 + 5; omega) (by omega) : KR (c_X5_init_s12 σ this) (c_X5_init_s13 σ this) this)) 0).trans ((congrFun ((KR.obj (by show this < σ.1 + 4; omega))) 0).trans ((congrFun (KR.int) 0).trans ((congrFun (KR.int) 0).trans ((congrFun (KR.int) 0).trans ((KR.ne (by decide)).trans ((congrFun ((KR.arr (by show this < σ.1 + 3; omega))) 0).trans ((KR.ne (by decide)).trans ((congrFun ((KR.arr (by show this < σ.1 + 2; omega))) 0).trans ((KR.ne (by decide)).trans ((congrFun ((KR.arr (by show this < σ.1 + 1; omega))) 0).trans (KR.at)))))))))))))))) (by omega) dX5_init_61 ?_
  refine n_iload_n C (n := 0) rfl rfl dX5_init_64 ?_
  refine n_new C (c := 2) rfl (by decide) tyX2 tyX2_ok (by decide) inbX2 (List.forall_mem_cons.mpr ⟨w2 41 rfl, List.forall_mem_cons.mpr ⟨w2 11 rfl, List.forall_mem_cons.mpr ⟨w1 10 rfl, fun _ h => absurd h List.not_mem_nil⟩⟩⟩) (by show σ.1 + 18 < 900; omega) (by rw [hRm]; decide) (by rw [hRm]; decide) dX5_init_65 ?_
  refine n_dup C rfl dX5_init_68 ?_
  refine n_cj C (d := 1) (mc := 6) (ms := 72) (by rw [hRm]; decide) (by rw [hRm]; decide) (by rw [hRm]; decide) (by rw [hRm]; decide) ci_X5_38 (by decide) (k := σ.1 + 18) [] rfl (s_X2_init (((KP.rf : KP (c_X5_init_s18 σ this) (c_X5_init_s18 σ this)).2 _ (Nat.lt_succ_self _)).1.trans up_s) (by show σ.1 + 18 < σ.1 + 19; omega) (by show σ.1 + 19 + 6 < 900; omega)) (Nat.le_of_ble_eq_true rfl) dX5_init_69 rfl ?_
  refine n_aast (N := 7) (j := 2) (q := σ.1 + 18) C (c := 2) rfl (by decide) rfl ((((((((((((((((((((KP.ref).tr (KP.arr)).tr (KP.ref)).tr (KP.arr)).tr (KP.ref)).tr (KP.arr)).tr (KP.ref)).tr (KP.int)).tr (KP.int)).tr (KP.int)).tr (KP.obj)).tr (kp_X2_init)).tr (KP.ref)).tr (KP.obj)).tr (kp_X2_init)).tr (KP.ref)).tr (KP.obj)).tr (kp_X2_init) : KP (c_X5_init_s1 σ this) (c_X5_init_s19 σ this)).2 _ (Nat.lt_succ_self _)).1.trans up_s) (by show σ.1 < σ.1 + 25; omega) ((((((((((((((((((((KP.ref).tr (KP.arr)).tr (KP.ref)).tr (KP.arr)).tr (KP.ref)).tr (KP.arr)).tr (KP.ref)).tr (KP.int)).tr (KP.int)).tr (KP.int)).tr (KP.obj)).tr (kp_X2_init)).tr (KP.ref)).tr (KP.obj)).tr (kp_X2_init)).tr (KP.ref)).tr (KP.obj)).tr (kp_X2_init) : KP (c_X5_init_s1 σ this) (c_X5_init_s19 σ this)).2 _ (Nat.lt_succ_self _)).2.trans up_s) (((kp_X2_init : KP (c_X5_init_s18 σ this) (c_X5_init_s19 σ this)).2 _ (Nat.lt_succ_self _)).1.trans up_s) (by show σ.1 + 18 < σ.1 + 25; omega) (inb_vp.mp (by decide)) (by decide) dX5_init_72 ?_
  refine n_iinc C (n := 0) (v := 3) (lv' := [(1, .int 3), (0, .ref (nad B this))]) rfl (by decide) (by decide) rfl dX5_init_73 ?_
  refine n_goto C (t := 54) (by decide) dX5_init_76 ?_
  refine n_iload_n C (n := 0) rfl rfl dX5_init_54 ?_
  refine n_bipush C (v := 6) (by decide) dX5_init_55 ?_
  refine n_icgtN C (by decide) dX5_init_57 79 (by decide) ?_
  refine n_aload_n C (n := 1) rfl rfl dX5_init_60 ?_
  refine n_getr (q := σ.1) C fl_X5_11 rfl ((((((((((((((((((((((KP.arr).tr (KP.ref)).tr (KP.arr)).tr (KP.ref)).tr (KP.arr)).tr (KP.ref)).tr (KP.arr)).tr (KP.ref)).tr (KP.int)).tr (KP.int)).tr (KP.int)).tr (KP.obj)).tr (kp_X2_init)).tr (KP.ref)).tr (KP.obj)).tr (kp_X2_init)).tr (KP.ref)).tr (KP.obj)).tr (kp_X2_init)).tr (KP.ref)).2 this hkn).1.trans hk) (by show this < σ.1 + 25; omega) ((congrFun ((KR.ref (by omega))) 0).trans ((congrFun ((kr_X2_init (by show this < σ.1 + 19; omega) (by omega) : KR (c_X5_init_s18 σ this) (c_X5_init_s19 σ this) this)) 0).trans ((congrFun ((KR.obj (by show this < σ.1 + 18; omega))) 0).trans ((congrFun ((KR.ref (by omega))) 0).trans ((congrFun ((kr_X2_init (by show this < σ.1 + 12; omega) (by omega) : KR (c_X5_init_s15 σ this) (c_X5_init_s16 σ this) this)) 0).trans ((congrFun ((KR.obj (by show this < σ.1 + 11; omega))) 0).trans ((congrFun ((KR.ref (by omega))) 0).trans ((congrFun ((kr_X2_init (by show this < σ.1 + 5; omega) (by omega) : KR (c_X5_init_s12 σ this) (c_X5_init_s13 σ this) this)) 0).trans ((congrFun ((KR.obj (by show this < σ.1 + 4; omega))) 0).trans ((congrFun (KR.int) 0).trans ((congrFun (KR.int) 0).trans ((congrFun (KR.int) 0).trans ((KR.ne (by decide)).trans ((congrFun ((KR.arr (by show this < σ.1 + 3; omega))) 0).trans ((KR.ne (by decide)).trans ((congrFun ((KR.arr (by show this < σ.1 + 2; omega))) 0).trans ((KR.ne (by decide)).trans ((congrFun ((KR.arr (by show this < σ.1 + 1; omega))) 0).trans (KR.at))))))))))))))))))) (by omega) dX5_init_61 ?_
  refine n_iload_n C (n := 0) rfl rfl dX5_init_64 ?_
  refine n_new C (c := 2) rfl (by decide) tyX2 tyX2_ok (by decide) inbX2 (List.forall_mem_cons.mpr ⟨w2 41 rfl, List.forall_mem_cons.mpr ⟨w2 11 rfl, List.forall_mem_cons.mpr ⟨w1 10 rfl, fun _ h => absurd h List.not_mem_nil⟩⟩⟩) (by show σ.1 + 25 < 900; omega) (by rw [hRm]; decide) (by rw [hRm]; decide) dX5_init_65 ?_
  refine n_dup C rfl dX5_init_68 ?_
  refine n_cj C (d := 1) (mc := 6) (ms := 72) (by rw [hRm]; decide) (by rw [hRm]; decide) (by rw [hRm]; decide) (by rw [hRm]; decide) ci_X5_38 (by decide) (k := σ.1 + 25) [] rfl (s_X2_init (((KP.rf : KP (c_X5_init_s21 σ this) (c_X5_init_s21 σ this)).2 _ (Nat.lt_succ_self _)).1.trans up_s) (by show σ.1 + 25 < σ.1 + 26; omega) (by show σ.1 + 26 + 6 < 900; omega)) (Nat.le_of_ble_eq_true rfl) dX5_init_69 rfl ?_
  refine n_aast (N := 7) (j := 3) (q := σ.1 + 25) C (c := 2) rfl (by decide) rfl (((((((((((((((((((((((KP.ref).tr (KP.arr)).tr (KP.ref)).tr (KP.arr)).tr (KP.ref)).tr (KP.arr)).tr (KP.ref)).tr (KP.int)).tr (KP.int)).tr (KP.int)).tr (KP.obj)).tr (kp_X2_init)).tr (KP.ref)).tr (KP.obj)).tr (kp_X2_init)).tr (KP.ref)).tr (KP.obj)).tr (kp_X2_init)).tr (KP.ref)).tr (KP.obj)).tr (kp_X2_init) : KP (c_X5_init_s1 σ this) (c_X5_init_s22 σ this)).2 _ (Nat.lt_succ_self _)).1.trans up_s) (by show σ.1 < σ.1 + 32; omega) (((((((((((((((((((((((KP.ref).tr (KP.arr)).tr (KP.ref)).tr (KP.arr)).tr (KP.ref)).tr (KP.arr)).tr (KP.ref)).tr (KP.int)).tr (KP.int)).tr (KP.int)).tr (KP.obj)).tr (kp_X2_init)).tr (KP.ref)).tr (KP.obj)).tr (kp_X2_init)).tr (KP.ref)).tr (KP.obj)).tr (kp_X2_init)).tr (KP.ref)).tr (KP.obj)).tr (kp_X2_init) : KP (c_X5_init_s1 σ this) (c_X5_init_s22 σ this)).2 _ (Nat.lt_succ_self _)).2.trans up_s) (((kp_X2_init : KP (c_X5_init_s21 σ this) (c_X5_init_s22 σ this)).2 _ (Nat.lt_succ_self _)).1.trans up_s) (by show σ.1 + 25 < σ.1 + 32; omega) (inb_vp.mp (by decide)) (by decide) dX5_init_72 ?_
  refine n_iinc C (n := 0) (v := 4) (lv' := [(1, .int 4), (0, .ref (nad B this))]) rfl (by decide) (by decide) rfl dX5_init_73 ?_
  refine n_goto C (t := 54) (by decide) dX5_init_76 ?_
  refine n_iload_n C (n := 0) rfl rfl dX5_init_54 ?_
  refine n_bipush C (v := 6) (by decide) dX5_init_55 ?_
  refine n_icgtN C (by decide) dX5_init_57 79 (by decide) ?_
  refine n_aload_n C (n := 1) rfl rfl dX5_init_60 ?_
  refine n_getr (q := σ.1) C fl_X5_11 rfl (((((((((((((((((((((((((KP.arr).tr (KP.ref)).tr (KP.arr)).tr (KP.ref)).tr (KP.arr)).tr (KP.ref)).tr (KP.arr)).tr (KP.ref)).tr (KP.int)).tr (KP.int)).tr (KP.int)).tr (KP.obj)).tr (kp_X2_init)).tr (KP.ref)).tr (KP.obj)).tr (kp_X2_init)).tr (KP.ref)).tr (KP.obj)).tr (kp_X2_init)).tr (KP.ref)).tr (KP.obj)).tr (kp_X2_init)).tr (KP.ref)).2 this hkn).1.trans hk) (by show this < σ.1 + 32; omega) ((congrFun ((KR.ref (by omega))) 0).trans ((congrFun ((kr_X2_init (by show this < σ.1 + 26; omega) (by omega) : KR (c_X5_init_s21 σ this) (c_X5_init_s22 σ this) this)) 0).trans ((congrFun ((KR.obj (by show this < σ.1 + 25; omega))) 0).trans ((congrFun ((KR.ref (by omega))) 0).trans ((congrFun ((kr_X2_init (by show this < σ.1 + 19; omega) (by omega) : KR (c_X5_init_s18 σ this) (c_X5_init_s19 σ this) this)) 0).trans ((congrFun ((KR.obj (by show this < σ.1 + 18; omega))) 0).trans ((congrFun ((KR.ref (by omega))) 0).trans ((congrFun ((kr_X2_init (by show this < σ.1 + 12; omega) (by omega) : KR (c_X5_init_s15 σ this) (c_X5_init_s16 σ this) this)) 0).trans ((congrFun ((KR.obj (by show this < σ.1 + 11; omega))) 0).trans ((congrFun ((KR.ref (by omega))) 0).trans ((congrFun ((kr_X2_init (by show this < σ.1 + 5; omega) (by omega) : KR (c_X5_init_s12 σ this) (c_X5_init_s13 σ this) this)) 0).trans ((congrFun ((KR.obj (by show this < σ.1 + 4; omega))) 0).trans ((congrFun (KR.int) 0).trans ((congrFun (KR.int) 0).trans ((congrFun (KR.int) 0).trans ((KR.ne (by decide)).trans ((congrFun ((KR.arr (by show this < σ.1 + 3; omega))) 0).trans ((KR.ne (by decide)).trans ((congrFun ((KR.arr (by show this < σ.1 + 2; omega))) 0).trans ((KR.ne (by decide)).trans ((congrFun ((KR.arr (by show this < σ.1 + 1; omega))) 0).trans (KR.at)))))))))))))))))))))) (by omega) dX5_init_61 ?_
  refine n_iload_n C (n := 0) rfl rfl dX5_init_64 ?_
  refine n_new C (c := 2) rfl (by decide) tyX2 tyX2_ok (by decide) inbX2 (List.forall_mem_cons.mpr ⟨w2 41 rfl, List.forall_mem_cons.mpr ⟨w2 11 rfl, List.forall_mem_cons.mpr ⟨w1 10 rfl, fun _ h => absurd h List.not_mem_nil⟩⟩⟩) (by show σ.1 + 32 < 900; omega) (by rw [hRm]; decide) (by rw [hRm]; decide) dX5_init_65 ?_
  refine n_dup C rfl dX5_init_68 ?_
  refine n_cj C (d := 1) (mc := 6) (ms := 72) (by rw [hRm]; decide) (by rw [hRm]; decide) (by rw [hRm]; decide) (by rw [hRm]; decide) ci_X5_38 (by decide) (k := σ.1 + 32) [] rfl (s_X2_init (((KP.rf : KP (c_X5_init_s24 σ this) (c_X5_init_s24 σ this)).2 _ (Nat.lt_succ_self _)).1.trans up_s) (by show σ.1 + 32 < σ.1 + 33; omega) (by show σ.1 + 33 + 6 < 900; omega)) (Nat.le_of_ble_eq_true rfl) dX5_init_69 rfl ?_
  refine n_aast (N := 7) (j := 4) (q := σ.1 + 32) C (c := 2) rfl (by decide) rfl ((((((((((((((((((((((((((KP.ref).tr (KP.arr)).tr (KP.ref)).tr (KP.arr)).tr (KP.ref)).tr (KP.arr)).tr (KP.ref)).tr (KP.int)).tr (KP.int)).tr (KP.int)).tr (KP.obj)).tr (kp_X2_init)).tr (KP.ref)).tr (KP.obj)).tr (kp_X2_init)).tr (KP.ref)).tr (KP.obj)).tr (kp_X2_init)).tr (KP.ref)).tr (KP.obj)).tr (kp_X2_init)).tr (KP.ref)).tr (KP.obj)).tr (kp_X2_init) : KP (c_X5_init_s1 σ this) (c_X5_init_s25 σ this)).2 _ (Nat.lt_succ_self _)).1.trans up_s) (by show σ.1 < σ.1 + 39; omega) ((((((((((((((((((((((((((KP.ref).tr (KP.arr)).tr (KP.ref)).tr (KP.arr)).tr (KP.ref)).tr (KP.arr)).tr (KP.ref)).tr (KP.int)).tr (KP.int)).tr (KP.int)).tr (KP.obj)).tr (kp_X2_init)).tr (KP.ref)).tr (KP.obj)).tr (kp_X2_init)).tr (KP.ref)).tr (KP.obj)).tr (kp_X2_init)).tr (KP.ref)).tr (KP.obj)).tr (kp_X2_init)).tr (KP.ref)).tr (KP.obj)).tr (kp_X2_init) : KP (c_X5_init_s1 σ this) (c_X5_init_s25 σ this)).2 _ (Nat.lt_succ_self _)).2.trans up_s) (((kp_X2_init : KP (c_X5_init_s24 σ this) (c_X5_init_s25 σ this)).2 _ (Nat.lt_succ_self _)).1.trans up_s) (by show σ.1 + 32 < σ.1 + 39; omega) (inb_vp.mp (by decide)) (by decide) dX5_init_72 ?_
  refine n_iinc C (n := 0) (v := 5) (lv' := [(1, .int 5), (0, .ref (nad B this))]) rfl (by decide) (by decide) rfl dX5_init_73 ?_
  refine n_goto C (t := 54) (by decide) dX5_init_76 ?_
  refine n_iload_n C (n := 0) rfl rfl dX5_init_54 ?_
  refine n_bipush C (v := 6) (by decide) dX5_init_55 ?_
  refine n_icgtN C (by decide) dX5_init_57 79 (by decide) ?_
  refine n_aload_n C (n := 1) rfl rfl dX5_init_60 ?_
  refine n_getr (q := σ.1) C fl_X5_11 rfl ((((((((((((((((((((((((((((KP.arr).tr (KP.ref)).tr (KP.arr)).tr (KP.ref)).tr (KP.arr)).tr (KP.ref)).tr (KP.arr)).tr (KP.ref)).tr (KP.int)).tr (KP.int)).tr (KP.int)).tr (KP.obj)).tr (kp_X2_init)).tr (KP.ref)).tr (KP.obj)).tr (kp_X2_init)).tr (KP.ref)).tr (KP.obj)).tr (kp_X2_init)).tr (KP.ref)).tr (KP.obj)).tr (kp_X2_init)).tr (KP.ref)).tr (KP.obj)).tr (kp_X2_init)).tr (KP.ref)).2 this hkn).1.trans hk) (by show this < σ.1 + 39; omega) ((congrFun ((KR.ref (by omega))) 0).trans ((congrFun ((kr_X2_init (by show this < σ.1 + 33; omega) (by omega) : KR (c_X5_init_s24 σ this) (c_X5_init_s25 σ this) this)) 0).trans ((congrFun ((KR.obj (by show this < σ.1 + 32; omega))) 0).trans ((congrFun ((KR.ref (by omega))) 0).trans ((congrFun ((kr_X2_init (by show this < σ.1 + 26; omega) (by omega) : KR (c_X5_init_s21 σ this) (c_X5_init_s22 σ this) this)) 0).trans ((congrFun ((KR.obj (by show this < σ.1 + 25; omega))) 0).trans ((congrFun ((KR.ref (by omega))) 0).trans ((congrFun ((kr_X2_init (by show this < σ.1 + 19; omega) (by omega) : KR (c_X5_init_s18 σ this) (c_X5_init_s19 σ this) this)) 0).trans ((congrFun ((KR.obj (by show this < σ.1 + 18; omega))) 0).trans ((congrFun ((KR.ref (by omega))) 0).trans ((congrFun ((kr_X2_init (by show this < σ.1 + 12; omega) (by omega) : KR (c_X5_init_s15 σ this) (c_X5_init_s16 σ this) this)) 0).trans ((congrFun ((KR.obj (by show this < σ.1 + 11; omega))) 0).trans ((congrFun ((KR.ref (by omega))) 0).trans ((congrFun ((kr_X2_init (by show this < σ.1 + 5; omega) (by omega) : KR (c_X5_init_s12 σ this) (c_X5_init_s13 σ this) this)) 0).trans ((congrFun ((KR.obj (by show this < σ.1 + 4; omega))) 0).trans ((congrFun (KR.int) 0).trans ((congrFun (KR.int) 0).trans ((congrFun (KR.int) 0).trans ((KR.ne (by decide)).trans ((congrFun ((KR.arr (by show this < σ.1 + 3; omega))) 0).trans ((KR.ne (by decide)).trans ((congrFun ((KR.arr (by show this < σ.1 + 2; omega))) 0).trans ((KR.ne (by decide)).trans ((congrFun ((KR.arr (by show this < σ.1 + 1; omega))) 0).trans (KR.at))))))))))))))))))))))))) (by omega) dX5_init_61 ?_
  refine n_iload_n C (n := 0) rfl rfl dX5_init_64 ?_
  refine n_new C (c := 2) rfl (by decide) tyX2 tyX2_ok (by decide) inbX2 (List.forall_mem_cons.mpr ⟨w2 41 rfl, List.forall_mem_cons.mpr ⟨w2 11 rfl, List.forall_mem_cons.mpr ⟨w1 10 rfl, fun _ h => absurd h List.not_mem_nil⟩⟩⟩) (by show σ.1 + 39 < 900; omega) (by rw [hRm]; decide) (by rw [hRm]; decide) dX5_init_65 ?_
  refine n_dup C rfl dX5_init_68 ?_
  refine n_cj C (d := 1) (mc := 6) (ms := 72) (by rw [hRm]; decide) (by rw [hRm]; decide) (by rw [hRm]; decide) (by rw [hRm]; decide) ci_X5_38 (by decide) (k := σ.1 + 39) [] rfl (s_X2_init (((KP.rf : KP (c_X5_init_s27 σ this) (c_X5_init_s27 σ this)).2 _ (Nat.lt_succ_self _)).1.trans up_s) (by show σ.1 + 39 < σ.1 + 40; omega) (by show σ.1 + 40 + 6 < 900; omega)) (Nat.le_of_ble_eq_true rfl) dX5_init_69 rfl ?_
  refine n_aast (N := 7) (j := 5) (q := σ.1 + 39) C (c := 2) rfl (by decide) rfl (((((((((((((((((((((((((((((KP.ref).tr (KP.arr)).tr (KP.ref)).tr (KP.arr)).tr (KP.ref)).tr (KP.arr)).tr (KP.ref)).tr (KP.int)).tr (KP.int)).tr (KP.int)).tr (KP.obj)).tr (kp_X2_init)).tr (KP.ref)).tr (KP.obj)).tr (kp_X2_init)).tr (KP.ref)).tr (KP.obj)).tr (kp_X2_init)).tr (KP.ref)).tr (KP.obj)).tr (kp_X2_init)).tr (KP.ref)).tr (KP.obj)).tr (kp_X2_init)).tr (KP.ref)).tr (KP.obj)).tr (kp_X2_init) : KP (c_X5_init_s1 σ this) (c_X5_init_s28 σ this)).2 _ (Nat.lt_succ_self _)).1.trans up_s) (by show σ.1 < σ.1 + 46; omega) (((((((((((((((((((((((((((((KP.ref).tr (KP.arr)).tr (KP.ref)).tr (KP.arr)).tr (KP.ref)).tr (KP.arr)).tr (KP.ref)).tr (KP.int)).tr (KP.int)).tr (KP.int)).tr (KP.obj)).tr (kp_X2_init)).tr (KP.ref)).tr (KP.obj)).tr (kp_X2_init)).tr (KP.ref)).tr (KP.obj)).tr (kp_X2_init)).tr (KP.ref)).tr (KP.obj)).tr (kp_X2_init)).tr (KP.ref)).tr (KP.obj)).tr (kp_X2_init)).tr (KP.ref)).tr (KP.obj)).tr (kp_X2_init) : KP (c_X5_init_s1 σ this) (c_X5_init_s28 σ this)).2 _ (Nat.lt_succ_self _)).2.trans up_s) (((kp_X2_init : KP (c_X5_init_s27 σ this) (c_X5_init_s28 σ this)).2 _ (Nat.lt_succ_self _)).1.trans up_s) (by show σ.1 + 39 < σ.1 + 46; omega) (inb_vp.mp (by decide)) (by decide) dX5_init_72 ?_
  refine n_iinc C (n := 0) (v := 6) (lv' := [(1, .int 6), (0, .ref (nad B this))]) rfl (by decide) (by decide) rfl dX5_init_73 ?_
  refine n_goto C (t := 54) (by decide) dX5_init_76 ?_
  refine n_iload_n C (n := 0) rfl rfl dX5_init_54 ?_
  refine n_bipush C (v := 6) (by decide) dX5_init_55 ?_
  refine n_icgtN C (by decide) dX5_init_57 79 (by decide) ?_
  refine n_aload_n C (n := 1) rfl rfl dX5_init_60 ?_
  refine n_getr (q := σ.1) C fl_X5_11 rfl (((((((((((((((((((((((((((((((KP.arr).tr (KP.ref)).tr (KP.arr)).tr (KP.ref)).tr (KP.arr)).tr (KP.ref)).tr (KP.arr)).tr (KP.ref)).tr (KP.int)).tr (KP.int)).tr (KP.int)).tr (KP.obj)).tr (kp_X2_init)).tr (KP.ref)).tr (KP.obj)).tr (kp_X2_init)).tr (KP.ref)).tr (KP.obj)).tr (kp_X2_init)).tr (KP.ref)).tr (KP.obj)).tr (kp_X2_init)).tr (KP.ref)).tr (KP.obj)).tr (kp_X2_init)).tr (KP.ref)).tr (KP.obj)).tr (kp_X2_init)).tr (KP.ref)).2 this hkn).1.trans hk) (by show this < σ.1 + 46; omega) ((congrFun ((KR.ref (by omega))) 0).trans ((congrFun ((kr_X2_init (by show this < σ.1 + 40; omega) (by omega) : KR (c_X5_init_s27 σ this) (c_X5_init_s28 σ this) this)) 0).trans ((congrFun ((KR.obj (by show this < σ.1 + 39; omega))) 0).trans ((congrFun ((KR.ref (by omega))) 0).trans ((congrFun ((kr_X2_init (by show this < σ.1 + 33; omega) (by omega) : KR (c_X5_init_s24 σ this) (c_X5_init_s25 σ this) this)) 0).trans ((congrFun ((KR.obj (by show this < σ.1 + 32; omega))) 0).trans ((congrFun ((KR.ref (by omega))) 0).trans ((congrFun ((kr_X2_init (by show this < σ.1 + 26; omega) (by omega) : KR (c_X5_init_s21 σ this) (c_X5_init_s22 σ this) this)) 0).trans ((congrFun ((KR.obj (by show this < σ.1 + 25; omega))) 0).trans ((congrFun ((KR.ref (by omega))) 0).trans ((congrFun ((kr_X2_init (by show this < σ.1 + 19; omega) (by omega) : KR (c_X5_init_s18 σ this) (c_X5_init_s19 σ this) this)) 0).trans ((congrFun ((KR.obj (by show this < σ.1 + 18; omega))) 0).trans ((congrFun ((KR.ref (by omega))) 0).trans ((congrFun ((kr_X2_init (by show this < σ.1 + 12; omega) (by omega) : KR (c_X5_init_s15 σ this) (c_X5_init_s16 σ this) this)) 0).trans ((congrFun ((KR.obj (by show this < σ.1 + 11; omega))) 0).trans ((congrFun ((KR.ref (by omega))) 0).trans ((congrFun ((kr_X2_init (by show this < σ.1 + 5; omega) (by omega) : KR (c_X5_init_s12 σ this) (c_X5_init_s13 σ this) this)) 0).trans ((congrFun ((KR.obj (by show this < σ.1 + 4; omega))) 0).trans ((congrFun (KR.int) 0).trans ((congrFun (KR.int) 0).trans ((congrFun (KR.int) 0).trans ((KR.ne (by decide)).trans ((congrFun ((KR.arr (by show this < σ.1 + 3; omega))) 0).trans ((KR.ne (by decide)).trans ((congrFun ((KR.arr (by show this < σ.1 + 2; omega))) 0).trans ((KR.ne (by decide)).trans ((congrFun ((KR.arr (by show this < σ.1 + 1; omega))) 0).trans (KR.at)))))))))))))))))))))))))))) (by omega) dX5_init_61 ?_
  refine n_iload_n C (n := 0) rfl rfl dX5_init_64 ?_
  refine n_new C (c := 2) rfl (by decide) tyX2 tyX2_ok (by decide) inbX2 (List.forall_mem_cons.mpr ⟨w2 41 rfl, List.forall_mem_cons.mpr ⟨w2 11 rfl, List.forall_mem_cons.mpr ⟨w1 10 rfl, fun _ h => absurd h List.not_mem_nil⟩⟩⟩) (by show σ.1 + 46 < 900; omega) (by rw [hRm]; decide) (by rw [hRm]; decide) dX5_init_65 ?_
  refine n_dup C rfl dX5_init_68 ?_
  refine n_cj C (d := 1) (mc := 6) (ms := 72) (by rw [hRm]; decide) (by rw [hRm]; decide) (by rw [hRm]; decide) (by rw [hRm]; decide) ci_X5_38 (by decide) (k := σ.1 + 46) [] rfl (s_X2_init (((KP.rf : KP (c_X5_init_s30 σ this) (c_X5_init_s30 σ this)).2 _ (Nat.lt_succ_self _)).1.trans up_s) (by show σ.1 + 46 < σ.1 + 47; omega) (by show σ.1 + 47 + 6 < 900; omega)) (Nat.le_of_ble_eq_true rfl) dX5_init_69 rfl ?_
  refine n_aast (N := 7) (j := 6) (q := σ.1 + 46) C (c := 2) rfl (by decide) rfl ((((((((((((((((((((((((((((((((KP.ref).tr (KP.arr)).tr (KP.ref)).tr (KP.arr)).tr (KP.ref)).tr (KP.arr)).tr (KP.ref)).tr (KP.int)).tr (KP.int)).tr (KP.int)).tr (KP.obj)).tr (kp_X2_init)).tr (KP.ref)).tr (KP.obj)).tr (kp_X2_init)).tr (KP.ref)).tr (KP.obj)).tr (kp_X2_init)).tr (KP.ref)).tr (KP.obj)).tr (kp_X2_init)).tr (KP.ref)).tr (KP.obj)).tr (kp_X2_init)).tr (KP.ref)).tr (KP.obj)).tr (kp_X2_init)).tr (KP.ref)).tr (KP.obj)).tr (kp_X2_init) : KP (c_X5_init_s1 σ this) (c_X5_init_s31 σ this)).2 _ (Nat.lt_succ_self _)).1.trans up_s) (by show σ.1 < σ.1 + 53; omega) ((((((((((((((((((((((((((((((((KP.ref).tr (KP.arr)).tr (KP.ref)).tr (KP.arr)).tr (KP.ref)).tr (KP.arr)).tr (KP.ref)).tr (KP.int)).tr (KP.int)).tr (KP.int)).tr (KP.obj)).tr (kp_X2_init)).tr (KP.ref)).tr (KP.obj)).tr (kp_X2_init)).tr (KP.ref)).tr (KP.obj)).tr (kp_X2_init)).tr (KP.ref)).tr (KP.obj)).tr (kp_X2_init)).tr (KP.ref)).tr (KP.obj)).tr (kp_X2_init)).tr (KP.ref)).tr (KP.obj)).tr (kp_X2_init)).tr (KP.ref)).tr (KP.obj)).tr (kp_X2_init) : KP (c_X5_init_s1 σ this) (c_X5_init_s31 σ this)).2 _ (Nat.lt_succ_self _)).2.trans up_s) (((kp_X2_init : KP (c_X5_init_s30 σ this) (c_X5_init_s31 σ this)).2 _ (Nat.lt_succ_self _)).1.trans up_s) (by show σ.1 + 46 < σ.1 + 53; omega) (inb_vp.mp (by decide)) (by decide) dX5_init_72 ?_
  refine n_iinc C (n := 0) (v := 7) (lv' := [(1, .int 7), (0, .ref (nad B this))]) rfl (by decide) (by decide) rfl dX5_init_73 ?_
  refine n_goto C (t := 54) (by decide) dX5_init_76 ?_
  refine n_iload_n C (n := 0) rfl rfl dX5_init_54 ?_
  refine n_bipush C (v := 6) (by decide) dX5_init_55 ?_
  refine n_icgtY C (by decide) dX5_init_57 79 (by decide) ?_
  exact n_ret C hr dX5_init_79
set_option maxRecDepth 20000 in
theorem kp_X8_init {σ : NS} {this : Nat} : KP σ (c_X8_init σ this) := (((((((((((((((((((((((((((((((((((((((KP.obj).tr (kp_X6_init)).tr (KP.ref)).tr (KP.obj)).tr (kp_X7_init)).tr (KP.ref)).tr (KP.obj)).tr (kp_X4_init)).tr (KP.ref)).tr (KP.arr)).tr (KP.ref)).tr (KP.arr)).tr (KP.ref)).tr (KP.arr)).tr (KP.ref)).tr (KP.obj)).tr (kp_X2_init)).tr (KP.ref)).tr (KP.obj)).tr (kp_X2_init)).tr (KP.ref)).tr (KP.obj)).tr (kp_X5_init)).tr (KP.ref)).tr (KP.obj)).tr (kp_X1_init)).tr (KP.ref)).tr (KP.obj)).tr (kp_X0_init)).tr (KP.ref)).tr (KP.obj)).tr (kp_X3_init)).tr (KP.int)).tr (KP.obj)).tr (kp_X3_init)).tr (KP.int)).tr (KP.int)).tr (KP.int)).tr (KP.int) : KP σ (c_X8_init_s39 σ this))
set_option maxRecDepth 20000 in
theorem kr_X8_init {σ : NS} {this : Nat} {k : Nat} (h : k < σ.1) (hk : k ≠ this) : KR σ (c_X8_init σ this) k := by
  have e1 : KR σ (c_X8_init_s1 σ this) k := (KR.obj (by show k < σ.1 + 0; omega))
  have e2 : KR (c_X8_init_s1 σ this) (c_X8_init_s2 σ this) k := (kr_X6_init (by show k < σ.1 + 1; omega) (by omega) : KR (c_X8_init_s1 σ this) (c_X8_init_s2 σ this) k)
  have e3 : KR (c_X8_init_s2 σ this) (c_X8_init_s3 σ this) k := (KR.ref (by omega))
  have e4 : KR (c_X8_init_s3 σ this) (c_X8_init_s4 σ this) k := (KR.obj (by show k < σ.1 + 12; omega))
  have e5 : KR (c_X8_init_s4 σ this) (c_X8_init_s5 σ this) k := (kr_X7_init (by show k < σ.1 + 13; omega) (by omega) : KR (c_X8_init_s4 σ this) (c_X8_init_s5 σ this) k)
  have e6 : KR (c_X8_init_s5 σ this) (c_X8_init_s6 σ this) k := (KR.ref (by omega))
  have e7 : KR (c_X8_init_s6 σ this) (c_X8_init_s7 σ this) k := (KR.obj (by show k < σ.1 + 14; omega))
  have e8 : KR (c_X8_init_s7 σ this) (c_X8_init_s8 σ this) k := (kr_X4_init (by show k < σ.1 + 15; omega) (by omega) : KR (c_X8_init_s7 σ this) (c_X8_init_s8 σ this) k)
  have e9 : KR (c_X8_init_s8 σ this) (c_X8_init_s9 σ this) k := (KR.ref (by omega))
  have e10 : KR (c_X8_init_s9 σ this) (c_X8_init_s10 σ this) k := (KR.arr (by show k < σ.1 + 15; omega))
  have e11 : KR (c_X8_init_s10 σ this) (c_X8_init_s11 σ this) k := (KR.ref (by omega))
  have e12 : KR (c_X8_init_s11 σ this) (c_X8_init_s12 σ this) k := (KR.arr (by show k < σ.1 + 16; omega))
  have e13 : KR (c_X8_init_s12 σ this) (c_X8_init_s13 σ this) k := (KR.ref (by omega))
  have e14 : KR (c_X8_init_s13 σ this) (c_X8_init_s14 σ this) k := (KR.arr (by show k < σ.1 + 17; omega))
  have e15 : KR (c_X8_init_s14 σ this) (c_X8_init_s15 σ this) k := (KR.ref (by omega))
  have e16 : KR (c_X8_init_s15 σ this) (c_X8_init_s16 σ this) k := (KR.obj (by show k < σ.1 + 18; omega))
  have e17 : KR (c_X8_init_s16 σ this) (c_X8_init_s17 σ this) k := (kr_X2_init (by show k < σ.1 + 19; omega) (by omega) : KR (c_X8_init_s16 σ this) (c_X8_init_s17 σ this) k)
  have e18 : KR (c_X8_init_s17 σ this) (c_X8_init_s18 σ this) k := (KR.ref (by omega))
  have e19 : KR (c_X8_init_s18 σ this) (c_X8_init_s19 σ this) k := (KR.obj (by show k < σ.1 + 25; omega))
  have e20 : KR (c_X8_init_s19 σ this) (c_X8_init_s20 σ this) k := (kr_X2_init (by show k < σ.1 + 26; omega) (by omega) : KR (c_X8_init_s19 σ this) (c_X8_init_s20 σ this) k)
  have e21 : KR (c_X8_init_s20 σ this) (c_X8_init_s21 σ this) k := (KR.ref (by omega))
  have e22 : KR (c_X8_init_s21 σ this) (c_X8_init_s22 σ this) k := (KR.obj (by show k < σ.1 + 32; omega))
  have e23 : KR (c_X8_init_s22 σ this) (c_X8_init_s23 σ this) k := (kr_X5_init (by show k < σ.1 + 33; omega) (by omega) : KR (c_X8_init_s22 σ this) (c_X8_init_s23 σ this) k)
  have e24 : KR (c_X8_init_s23 σ this) (c_X8_init_s24 σ this) k := (KR.ref (by omega))
  have e25 : KR (c_X8_init_s24 σ this) (c_X8_init_s25 σ this) k := (KR.obj (by show k < σ.1 + 86; omega))
  have e26 : KR (c_X8_init_s25 σ this) (c_X8_init_s26 σ this) k := (kr_X1_init (by show k < σ.1 + 87; omega) (by omega) : KR (c_X8_init_s25 σ this) (c_X8_init_s26 σ this) k)
  have e27 : KR (c_X8_init_s26 σ this) (c_X8_init_s27 σ this) k := (KR.ref (by omega))
  have e28 : KR (c_X8_init_s27 σ this) (c_X8_init_s28 σ this) k := (KR.obj (by show k < σ.1 + 89; omega))
  have e29 : KR (c_X8_init_s28 σ this) (c_X8_init_s29 σ this) k := (kr_X0_init (by show k < σ.1 + 90; omega) (by omega) : KR (c_X8_init_s28 σ this) (c_X8_init_s29 σ this) k)
  have e30 : KR (c_X8_init_s29 σ this) (c_X8_init_s30 σ this) k := (KR.ref (by omega))
  have e31 : KR (c_X8_init_s30 σ this) (c_X8_init_s31 σ this) k := (KR.obj (by show k < σ.1 + 91; omega))
  have e32 : KR (c_X8_init_s31 σ this) (c_X8_init_s32 σ this) k := (kr_X3_init (by show k < σ.1 + 92; omega) (by omega) : KR (c_X8_init_s31 σ this) (c_X8_init_s32 σ this) k)
  have e33 : KR (c_X8_init_s32 σ this) (c_X8_init_s33 σ this) k := KR.int
  have e34 : KR (c_X8_init_s33 σ this) (c_X8_init_s34 σ this) k := (KR.obj (by show k < σ.1 + 98; omega))
  have e35 : KR (c_X8_init_s34 σ this) (c_X8_init_s35 σ this) k := (kr_X3_init (by show k < σ.1 + 99; omega) (by omega) : KR (c_X8_init_s34 σ this) (c_X8_init_s35 σ this) k)
  have e36 : KR (c_X8_init_s35 σ this) (c_X8_init_s36 σ this) k := KR.int
  have e37 : KR (c_X8_init_s36 σ this) (c_X8_init_s37 σ this) k := KR.int
  have e38 : KR (c_X8_init_s37 σ this) (c_X8_init_s38 σ this) k := KR.int
  have e39 : KR (c_X8_init_s38 σ this) (c_X8_init_s39 σ this) k := KR.int
  exact ((((((((((((((((((((((((((((((((((((((e1).tr e2).tr e3).tr e4).tr e5).tr e6).tr e7).tr e8).tr e9).tr e10).tr e11).tr e12).tr e13).tr e14).tr e15).tr e16).tr e17).tr e18).tr e19).tr e20).tr e21).tr e22).tr e23).tr e24).tr e25).tr e26).tr e27).tr e28).tr e29).tr e30).tr e31).tr e32).tr e33).tr e34).tr e35).tr e36).tr e37).tr e38).tr e39
set_option maxRecDepth 20000 in
set_option maxHeartbeats 4000000 in
theorem s_X8_init {l : Launch} {B : BT} {σ : NS} {this : Nat} (hk : zk σ.2.1 this = 8) (hkn : this < σ.1) (hN : σ.1 + 105 < 900)  : MN l B yX8_init cX8_init 1 3 105 2121 [.ref (nad B this)] σ (c_X8_init σ this) := by
  refine n_met (by decide) rfl (Nat.le_of_ble_eq_true rfl) ?_
  intro x C hin hRm _ hr
  show NK x B 1 0 0 (QMN x B 105 2121 (c_X8_init_s39 σ this)) 0 [(0, .ref (nad B this))] [] σ
  refine n_aload_n C (n := 0) rfl rfl dX8_init_0 ?_
  refine n_obj C (w1 28 rfl) (by rw [hRm]; decide) (by rw [hRm]; decide) dX8_init_1 ?_
  refine n_aload_n C (n := 0) rfl rfl dX8_init_4 ?_
  refine n_new C (c := 6) rfl (by decide) tyX6 tyX6_ok (by decide) inbX6 (List.forall_mem_cons.mpr ⟨w1 31 rfl, List.forall_mem_cons.mpr ⟨w1 32 rfl, List.forall_mem_cons.mpr ⟨w1 6 rfl, fun _ h => absurd h List.not_mem_nil⟩⟩⟩) (by show σ.1 + 0 < 900; omega) (by rw [hRm]; decide) (by rw [hRm]; decide) dX8_init_5 ?_
  refine n_dup C rfl dX8_init_8 ?_
  refine n_ci C (d := 1) (mc := 11) (ms := 344) (by rw [hRm]; decide) (by rw [hRm]; decide) (by rw [hRm]; decide) (by rw [hRm]; decide) ci_X8_9 (by decide) (k := σ.1) [] rfl (s_X6_init (((KP.rf : KP (c_X8_init_s1 σ this) (c_X8_init_s1 σ this)).2 _ (Nat.lt_succ_self _)).1.trans up_s) (by show σ.1 < σ.1 + 1; omega) (by show σ.1 + 1 + 11 < 900; omega)) (Nat.le_of_ble_eq_true rfl) dX8_init_9 rfl ?_
  refine n_putr (q := σ.1) C hin fl_X8_10 ft_X8_0 rfl (fun _ => rfl) (fun _ => rfl) ((((KP.obj).tr (kp_X6_init)).2 this hkn).1.trans hk) (by show this < σ.1 + 12; omega) (by omega) dX8_init_12 ?_
  refine n_aload_n C (n := 0) rfl rfl dX8_init_15 ?_
  refine n_new C (c := 7) rfl (by decide) tyX7 tyX7_ok (by decide) inbX7 (List.forall_mem_cons.mpr ⟨w1 48 rfl, List.forall_mem_cons.mpr ⟨w1 49 rfl, List.forall_mem_cons.mpr ⟨w1 8 rfl, fun _ h => absurd h List.not_mem_nil⟩⟩⟩) (by show σ.1 + 12 < 900; omega) (by rw [hRm]; decide) (by rw [hRm]; decide) dX8_init_16 ?_
  refine n_dup C rfl dX8_init_19 ?_
  refine n_cj C (d := 1) (mc := 1) (ms := 500) (by rw [hRm]; decide) (by rw [hRm]; decide) (by rw [hRm]; decide) (by rw [hRm]; decide) ci_X8_18 (by decide) (k := σ.1 + 12) [] rfl (s_X7_init (((KP.rf : KP (c_X8_init_s4 σ this) (c_X8_init_s4 σ this)).2 _ (Nat.lt_succ_self _)).1.trans up_s) (by show σ.1 + 12 < σ.1 + 13; omega) (by show σ.1 + 13 + 1 < 900; omega)) (Nat.le_of_ble_eq_true rfl) dX8_init_20 rfl ?_
  refine n_putr (q := σ.1 + 12) C hin fl_X8_19 ft_X8_1 rfl (fun _ => rfl) (fun _ => rfl) (((((((KP.obj).tr (kp_X6_init)).tr (KP.ref)).tr (KP.obj)).tr (kp_X7_init)).2 this hkn).1.trans hk) (by show this < σ.1 + 14; omega) (by omega) dX8_init_23 ?_
  refine n_aload_n C (n := 0) rfl rfl dX8_init_26 ?_
  refine n_new C (c := 4) rfl (by decide) tyX4 tyX4_ok (by decide) inbX4 (List.forall_mem_cons.mpr ⟨w2 0 rfl, List.forall_mem_cons.mpr ⟨w2 1 rfl, List.forall_mem_cons.mpr ⟨w1 9 rfl, fun _ h => absurd h List.not_mem_nil⟩⟩⟩) (by show σ.1 + 14 < 900; omega) (by rw [hRm]; decide) (by rw [hRm]; decide) dX8_init_27 ?_
  refine n_dup C rfl dX8_init_30 ?_
  refine n_aload_n C (n := 0) rfl rfl dX8_init_31 ?_
  refine n_getr (q := σ.1 + 12) C fl_X8_19 rfl (((((((((KP.obj).tr (kp_X6_init)).tr (KP.ref)).tr (KP.obj)).tr (kp_X7_init)).tr (KP.ref)).tr (KP.obj)).2 this hkn).1.trans hk) (by show this < σ.1 + 15; omega) ((congrFun ((KR.obj (by show this < σ.1 + 14; omega))) 1).trans (KR.at)) (by omega) dX8_init_32 ?_
  refine n_ci C (d := 1) (mc := 0) (ms := 0) (by rw [hRm]; decide) (by rw [hRm]; decide) (by rw [hRm]; decide) (by rw [hRm]; decide) ci_X8_25 (by decide) (k := σ.1 + 14) [.ref (nad B (σ.1 + 12))] rfl (s_X4_init (((KP.rf : KP (c_X8_init_s7 σ this) (c_X8_init_s7 σ this)).2 _ (Nat.lt_succ_self _)).1.trans up_s) (by show σ.1 + 14 < σ.1 + 15; omega) (by show σ.1 + 15 + 0 < 900; omega) (by omega)) (Nat.le_of_ble_eq_true rfl) dX8_init_35 rfl ?_
  refine n_putr (q := σ.1 + 14) C hin fl_X8_28 ft_X8_2 rfl (fun _ => rfl) (fun _ => rfl) ((((((((((KP.obj).tr (kp_X6_init)).tr (KP.ref)).tr (KP.obj)).tr (kp_X7_init)).tr (KP.ref)).tr (KP.obj)).tr (kp_X4_init)).2 this hkn).1.trans hk) (by show this < σ.1 + 15; omega) (by omega) dX8_init_38 ?_
  refine n_aload_n C (n := 0) rfl rfl dX8_init_41 ?_
  refine n_bipush C (v := 12) (by decide) dX8_init_42 ?_
  refine n_newa C (atype := .int) (ty := .int) (t := 20) (ti := 0) (N := 12) rfl rfl (fun _ _ h => h) rfl (by decide) (by decide) (w1 47 rfl) (by decide) (by decide) (by decide) (by show σ.1 + 15 < 900; omega) (by rw [hRm]; decide) (by rw [hRm]; decide) dX8_init_44 ?_
  refine n_putr (q := σ.1 + 15) C hin fl_X8_32 ft_X8_3 rfl (fun _ => rfl) (fun _ => rfl) ((((((((((((KP.obj).tr (kp_X6_init)).tr (KP.ref)).tr (KP.obj)).tr (kp_X7_init)).tr (KP.ref)).tr (KP.obj)).tr (kp_X4_init)).tr (KP.ref)).tr (KP.arr)).2 this hkn).1.trans hk) (by show this < σ.1 + 16; omega) (by omega) dX8_init_46 ?_
  refine n_aload_n C (n := 0) rfl rfl dX8_init_49 ?_
  refine n_bipush C (v := 6) (by decide) dX8_init_50 ?_
  refine n_newa C (atype := .int) (ty := .int) (t := 20) (ti := 0) (N := 6) rfl rfl (fun _ _ h => h) rfl (by decide) (by decide) (w1 47 rfl) (by decide) (by decide) (by decide) (by show σ.1 + 16 < 900; omega) (by rw [hRm]; decide) (by rw [hRm]; decide) dX8_init_52 ?_
  refine n_putr (q := σ.1 + 16) C hin fl_X8_36 ft_X8_4 rfl (fun _ => rfl) (fun _ => rfl) ((((((((((((((KP.obj).tr (kp_X6_init)).tr (KP.ref)).tr (KP.obj)).tr (kp_X7_init)).tr (KP.ref)).tr (KP.obj)).tr (kp_X4_init)).tr (KP.ref)).tr (KP.arr)).tr (KP.ref)).tr (KP.arr)).2 this hkn).1.trans hk) (by show this < σ.1 + 17; omega) (by omega) dX8_init_54 ?_
  refine n_aload_n C (n := 0) rfl rfl dX8_init_57 ?_
  refine n_bipush C (v := 12) (by decide) dX8_init_58 ?_
  refine n_newa C (atype := .int) (ty := .int) (t := 20) (ti := 0) (N := 12) rfl rfl (fun _ _ h => h) rfl (by decide) (by decide) (w1 47 rfl) (by decide) (by decide) (by decide) (by show σ.1 + 17 < 900; omega) (by rw [hRm]; decide) (by rw [hRm]; decide) dX8_init_60 ?_
  refine n_putr (q := σ.1 + 17) C hin fl_X8_39 ft_X8_5 rfl (fun _ => rfl) (fun _ => rfl) ((((((((((((((((KP.obj).tr (kp_X6_init)).tr (KP.ref)).tr (KP.obj)).tr (kp_X7_init)).tr (KP.ref)).tr (KP.obj)).tr (kp_X4_init)).tr (KP.ref)).tr (KP.arr)).tr (KP.ref)).tr (KP.arr)).tr (KP.ref)).tr (KP.arr)).2 this hkn).1.trans hk) (by show this < σ.1 + 18; omega) (by omega) dX8_init_62 ?_
  refine n_aload_n C (n := 0) rfl rfl dX8_init_65 ?_
  refine n_new C (c := 2) rfl (by decide) tyX2 tyX2_ok (by decide) inbX2 (List.forall_mem_cons.mpr ⟨w2 10 rfl, List.forall_mem_cons.mpr ⟨w2 11 rfl, List.forall_mem_cons.mpr ⟨w1 10 rfl, fun _ h => absurd h List.not_mem_nil⟩⟩⟩) (by show σ.1 + 18 < 900; omega) (by rw [hRm]; decide) (by rw [hRm]; decide) dX8_init_66 ?_
  refine n_dup C rfl dX8_init_69 ?_
  refine n_cj C (d := 1) (mc := 6) (ms := 72) (by rw [hRm]; decide) (by rw [hRm]; decide) (by rw [hRm]; decide) (by rw [hRm]; decide) ci_X8_44 (by decide) (k := σ.1 + 18) [] rfl (s_X2_init (((KP.rf : KP (c_X8_init_s16 σ this) (c_X8_init_s16 σ this)).2 _ (Nat.lt_succ_self _)).1.trans up_s) (by show σ.1 + 18 < σ.1 + 19; omega) (by show σ.1 + 19 + 6 < 900; omega)) (Nat.le_of_ble_eq_true rfl) dX8_init_70 rfl ?_
  refine n_putr (q := σ.1 + 18) C hin fl_X8_45 ft_X8_6 rfl (fun _ => rfl) (fun _ => rfl) (((((((((((((((((((KP.obj).tr (kp_X6_init)).tr (KP.ref)).tr (KP.obj)).tr (kp_X7_init)).tr (KP.ref)).tr (KP.obj)).tr (kp_X4_init)).tr (KP.ref)).tr (KP.arr)).tr (KP.ref)).tr (KP.arr)).tr (KP.ref)).tr (KP.arr)).tr (KP.ref)).tr (KP.obj)).tr (kp_X2_init)).2 this hkn).1.trans hk) (by show this < σ.1 + 25; omega) (by omega) dX8_init_73 ?_
  refine n_aload_n C (n := 0) rfl rfl dX8_init_76 ?_
  refine n_new C (c := 2) rfl (by decide) tyX2 tyX2_ok (by decide) inbX2 (List.forall_mem_cons.mpr ⟨w2 10 rfl, List.forall_mem_cons.mpr ⟨w2 11 rfl, List.forall_mem_cons.mpr ⟨w1 10 rfl, fun _ h => absurd h List.not_mem_nil⟩⟩⟩) (by show σ.1 + 25 < 900; omega) (by rw [hRm]; decide) (by rw [hRm]; decide) dX8_init_77 ?_
  refine n_dup C rfl dX8_init_80 ?_
  refine n_cj C (d := 1) (mc := 6) (ms := 72) (by rw [hRm]; decide) (by rw [hRm]; decide) (by rw [hRm]; decide) (by rw [hRm]; decide) ci_X8_44 (by decide) (k := σ.1 + 25) [] rfl (s_X2_init (((KP.rf : KP (c_X8_init_s19 σ this) (c_X8_init_s19 σ this)).2 _ (Nat.lt_succ_self _)).1.trans up_s) (by show σ.1 + 25 < σ.1 + 26; omega) (by show σ.1 + 26 + 6 < 900; omega)) (Nat.le_of_ble_eq_true rfl) dX8_init_81 rfl ?_
  refine n_putr (q := σ.1 + 25) C hin fl_X8_49 ft_X8_7 rfl (fun _ => rfl) (fun _ => rfl) ((((((((((((((((((((((KP.obj).tr (kp_X6_init)).tr (KP.ref)).tr (KP.obj)).tr (kp_X7_init)).tr (KP.ref)).tr (KP.obj)).tr (kp_X4_init)).tr (KP.ref)).tr (KP.arr)).tr (KP.ref)).tr (KP.arr)).tr (KP.ref)).tr (KP.arr)).tr (KP.ref)).tr (KP.obj)).tr (kp_X2_init)).tr (KP.ref)).tr (KP.obj)).tr (kp_X2_init)).2 this hkn).1.trans hk) (by show this < σ.1 + 32; omega) (by omega) dX8_init_84 ?_
  refine n_aload_n C (n := 0) rfl rfl dX8_init_87 ?_
  refine n_new C (c := 5) rfl (by decide) tyX5 tyX5_ok (by decide) inbX5 (List.forall_mem_cons.mpr ⟨w2 35 rfl, List.forall_mem_cons.mpr ⟨w2 36 rfl, List.forall_mem_cons.mpr ⟨w1 11 rfl, fun _ h => absurd h List.not_mem_nil⟩⟩⟩) (by show σ.1 + 32 < 900; omega) (by rw [hRm]; decide) (by rw [hRm]; decide) dX8_init_88 ?_
  refine n_dup C rfl dX8_init_91 ?_
  refine n_ci C (d := 2) (mc := 53) (ms := 657) (by rw [hRm]; decide) (by rw [hRm]; decide) (by rw [hRm]; decide) (by rw [hRm]; decide) ci_X8_54 (by decide) (k := σ.1 + 32) [] rfl (s_X5_init (((KP.rf : KP (c_X8_init_s22 σ this) (c_X8_init_s22 σ this)).2 _ (Nat.lt_succ_self _)).1.trans up_s) (by show σ.1 + 32 < σ.1 + 33; omega) (by show σ.1 + 33 + 53 < 900; omega)) (Nat.le_of_ble_eq_true rfl) dX8_init_92 rfl ?_
  refine n_putr (q := σ.1 + 32) C hin fl_X8_55 ft_X8_8 rfl (fun _ => rfl) (fun _ => rfl) (((((((((((((((((((((((((KP.obj).tr (kp_X6_init)).tr (KP.ref)).tr (KP.obj)).tr (kp_X7_init)).tr (KP.ref)).tr (KP.obj)).tr (kp_X4_init)).tr (KP.ref)).tr (KP.arr)).tr (KP.ref)).tr (KP.arr)).tr (KP.ref)).tr (KP.arr)).tr (KP.ref)).tr (KP.obj)).tr (kp_X2_init)).tr (KP.ref)).tr (KP.obj)).tr (kp_X2_init)).tr (KP.ref)).tr (KP.obj)).tr (kp_X5_init)).2 this hkn).1.trans hk) (by show this < σ.1 + 86; omega) (by omega) dX8_init_95 ?_
  refine n_aload_n C (n := 0) rfl rfl dX8_init_98 ?_
  refine n_new C (c := 1) rfl (by decide) tyX1 tyX1_ok (by decide) inbX1 (List.forall_mem_cons.mpr ⟨w2 56 rfl, List.forall_mem_cons.mpr ⟨w2 57 rfl, List.forall_mem_cons.mpr ⟨w1 12 rfl, fun _ h => absurd h List.not_mem_nil⟩⟩⟩) (by show σ.1 + 86 < 900; omega) (by rw [hRm]; decide) (by rw [hRm]; decide) dX8_init_99 ?_
  refine n_dup C rfl dX8_init_102 ?_
  refine n_cj C (d := 1) (mc := 2) (ms := 24) (by rw [hRm]; decide) (by rw [hRm]; decide) (by rw [hRm]; decide) (by rw [hRm]; decide) ci_X8_61 (by decide) (k := σ.1 + 86) [] rfl (s_X1_init (((KP.rf : KP (c_X8_init_s25 σ this) (c_X8_init_s25 σ this)).2 _ (Nat.lt_succ_self _)).1.trans up_s) (by show σ.1 + 86 < σ.1 + 87; omega) (by show σ.1 + 87 + 2 < 900; omega)) (Nat.le_of_ble_eq_true rfl) dX8_init_103 rfl ?_
  refine n_putr (q := σ.1 + 86) C hin fl_X8_62 ft_X8_9 rfl (fun _ => rfl) (fun _ => rfl) ((((((((((((((((((((((((((((KP.obj).tr (kp_X6_init)).tr (KP.ref)).tr (KP.obj)).tr (kp_X7_init)).tr (KP.ref)).tr (KP.obj)).tr (kp_X4_init)).tr (KP.ref)).tr (KP.arr)).tr (KP.ref)).tr (KP.arr)).tr (KP.ref)).tr (KP.arr)).tr (KP.ref)).tr (KP.obj)).tr (kp_X2_init)).tr (KP.ref)).tr (KP.obj)).tr (kp_X2_init)).tr (KP.ref)).tr (KP.obj)).tr (kp_X5_init)).tr (KP.ref)).tr (KP.obj)).tr (kp_X1_init)).2 this hkn).1.trans hk) (by show this < σ.1 + 89; omega) (by omega) dX8_init_106 ?_
  refine n_aload_n C (n := 0) rfl rfl dX8_init_109 ?_
  refine n_new C (c := 0) rfl (by decide) tyX0 tyX0_ok (by decide) inbX0 (List.forall_mem_cons.mpr ⟨w3 3 rfl, List.forall_mem_cons.mpr ⟨w3 4 rfl, List.forall_mem_cons.mpr ⟨w1 13 rfl, fun _ h => absurd h List.not_mem_nil⟩⟩⟩) (by show σ.1 + 89 < 900; omega) (by rw [hRm]; decide) (by rw [hRm]; decide) dX8_init_110 ?_
  refine n_dup C rfl dX8_init_113 ?_
  refine n_cj C (d := 1) (mc := 1) (ms := 16) (by rw [hRm]; decide) (by rw [hRm]; decide) (by rw [hRm]; decide) (by rw [hRm]; decide) ci_X8_68 (by decide) (k := σ.1 + 89) [] rfl (s_X0_init (((KP.rf : KP (c_X8_init_s28 σ this) (c_X8_init_s28 σ this)).2 _ (Nat.lt_succ_self _)).1.trans up_s) (by show σ.1 + 89 < σ.1 + 90; omega) (by show σ.1 + 90 + 1 < 900; omega)) (Nat.le_of_ble_eq_true rfl) dX8_init_114 rfl ?_
  refine n_putr (q := σ.1 + 89) C hin fl_X8_69 ft_X8_10 rfl (fun _ => rfl) (fun _ => rfl) (((((((((((((((((((((((((((((((KP.obj).tr (kp_X6_init)).tr (KP.ref)).tr (KP.obj)).tr (kp_X7_init)).tr (KP.ref)).tr (KP.obj)).tr (kp_X4_init)).tr (KP.ref)).tr (KP.arr)).tr (KP.ref)).tr (KP.arr)).tr (KP.ref)).tr (KP.arr)).tr (KP.ref)).tr (KP.obj)).tr (kp_X2_init)).tr (KP.ref)).tr (KP.obj)).tr (kp_X2_init)).tr (KP.ref)).tr (KP.obj)).tr (kp_X5_init)).tr (KP.ref)).tr (KP.obj)).tr (kp_X1_init)).tr (KP.ref)).tr (KP.obj)).tr (kp_X0_init)).2 this hkn).1.trans hk) (by show this < σ.1 + 91; omega) (by omega) dX8_init_117 ?_
  refine n_aload_n C (n := 0) rfl rfl dX8_init_120 ?_
  refine n_new C (c := 3) rfl (by decide) tyX3 tyX3_ok (by decide) inbX3 (List.forall_mem_cons.mpr ⟨w3 12 rfl, List.forall_mem_cons.mpr ⟨w3 13 rfl, List.forall_mem_cons.mpr ⟨w1 14 rfl, fun _ h => absurd h List.not_mem_nil⟩⟩⟩) (by show σ.1 + 91 < 900; omega) (by rw [hRm]; decide) (by rw [hRm]; decide) dX8_init_121 ?_
  refine n_dup C rfl dX8_init_124 ?_
  refine n_cj C (d := 1) (mc := 6) (ms := 172) (by rw [hRm]; decide) (by rw [hRm]; decide) (by rw [hRm]; decide) (by rw [hRm]; decide) ci_X8_75 (by decide) (k := σ.1 + 91) [] rfl (s_X3_init (((KP.rf : KP (c_X8_init_s31 σ this) (c_X8_init_s31 σ this)).2 _ (Nat.lt_succ_self _)).1.trans up_s) (by show σ.1 + 91 < σ.1 + 92; omega) (by show σ.1 + 92 + 6 < 900; omega)) (Nat.le_of_ble_eq_true rfl) dX8_init_125 rfl ?_
  refine n_putm (q := σ.1 + 91) C hin fl_X8_76 ft_X8_11 rfl (fun _ => rfl) (fun _ => rfl) ((((((((((((((((((((((((((((((((((KP.obj).tr (kp_X6_init)).tr (KP.ref)).tr (KP.obj)).tr (kp_X7_init)).tr (KP.ref)).tr (KP.obj)).tr (kp_X4_init)).tr (KP.ref)).tr (KP.arr)).tr (KP.ref)).tr (KP.arr)).tr (KP.ref)).tr (KP.arr)).tr (KP.ref)).tr (KP.obj)).tr (kp_X2_init)).tr (KP.ref)).tr (KP.obj)).tr (kp_X2_init)).tr (KP.ref)).tr (KP.obj)).tr (kp_X5_init)).tr (KP.ref)).tr (KP.obj)).tr (kp_X1_init)).tr (KP.ref)).tr (KP.obj)).tr (kp_X0_init)).tr (KP.ref)).tr (KP.obj)).tr (kp_X3_init)).2 this hkn).1.trans hk) (by show this < σ.1 + 98; omega) (by omega) dX8_init_128 ?_
  refine n_aload_n C (n := 0) rfl rfl dX8_init_131 ?_
  refine n_new C (c := 3) rfl (by decide) tyX3 tyX3_ok (by decide) inbX3 (List.forall_mem_cons.mpr ⟨w3 12 rfl, List.forall_mem_cons.mpr ⟨w3 13 rfl, List.forall_mem_cons.mpr ⟨w1 14 rfl, fun _ h => absurd h List.not_mem_nil⟩⟩⟩) (by show σ.1 + 98 < 900; omega) (by rw [hRm]; decide) (by rw [hRm]; decide) dX8_init_132 ?_
  refine n_dup C rfl dX8_init_135 ?_
  refine n_cj C (d := 1) (mc := 6) (ms := 172) (by rw [hRm]; decide) (by rw [hRm]; decide) (by rw [hRm]; decide) (by rw [hRm]; decide) ci_X8_75 (by decide) (k := σ.1 + 98) [] rfl (s_X3_init (((KP.rf : KP (c_X8_init_s34 σ this) (c_X8_init_s34 σ this)).2 _ (Nat.lt_succ_self _)).1.trans up_s) (by show σ.1 + 98 < σ.1 + 99; omega) (by show σ.1 + 99 + 6 < 900; omega)) (Nat.le_of_ble_eq_true rfl) dX8_init_136 rfl ?_
  refine n_putm (q := σ.1 + 98) C hin fl_X8_80 ft_X8_12 rfl (fun _ => rfl) (fun _ => rfl) (((((((((((((((((((((((((((((((((((((KP.obj).tr (kp_X6_init)).tr (KP.ref)).tr (KP.obj)).tr (kp_X7_init)).tr (KP.ref)).tr (KP.obj)).tr (kp_X4_init)).tr (KP.ref)).tr (KP.arr)).tr (KP.ref)).tr (KP.arr)).tr (KP.ref)).tr (KP.arr)).tr (KP.ref)).tr (KP.obj)).tr (kp_X2_init)).tr (KP.ref)).tr (KP.obj)).tr (kp_X2_init)).tr (KP.ref)).tr (KP.obj)).tr (kp_X5_init)).tr (KP.ref)).tr (KP.obj)).tr (kp_X1_init)).tr (KP.ref)).tr (KP.obj)).tr (kp_X0_init)).tr (KP.ref)).tr (KP.obj)).tr (kp_X3_init)).tr (KP.int)).tr (KP.obj)).tr (kp_X3_init)).2 this hkn).1.trans hk) (by show this < σ.1 + 105; omega) (by omega) dX8_init_139 ?_
  refine n_aload_n C (n := 0) rfl rfl dX8_init_142 ?_
  refine n_iconst C (v := 0) (by decide) dX8_init_143 ?_
  refine n_puti C hin fl_X8_83 ft_X8_13 rfl rfl rfl ((((((((((((((((((((((((((((((((((((((KP.obj).tr (kp_X6_init)).tr (KP.ref)).tr (KP.obj)).tr (kp_X7_init)).tr (KP.ref)).tr (KP.obj)).tr (kp_X4_init)).tr (KP.ref)).tr (KP.arr)).tr (KP.ref)).tr (KP.arr)).tr (KP.ref)).tr (KP.arr)).tr (KP.ref)).tr (KP.obj)).tr (kp_X2_init)).tr (KP.ref)).tr (KP.obj)).tr (kp_X2_init)).tr (KP.ref)).tr (KP.obj)).tr (kp_X5_init)).tr (KP.ref)).tr (KP.obj)).tr (kp_X1_init)).tr (KP.ref)).tr (KP.obj)).tr (kp_X0_init)).tr (KP.ref)).tr (KP.obj)).tr (kp_X3_init)).tr (KP.int)).tr (KP.obj)).tr (kp_X3_init)).tr (KP.int)).2 this hkn).1.trans hk) (by show this < σ.1 + 105; omega) dX8_init_144 ?_
  refine n_aload_n C (n := 0) rfl rfl dX8_init_147 ?_
  refine n_iconst C (v := 0) (by decide) dX8_init_148 ?_
  refine n_puti C hin fl_X8_87 ft_X8_14 rfl rfl rfl (((((((((((((((((((((((((((((((((((((((KP.obj).tr (kp_X6_init)).tr (KP.ref)).tr (KP.obj)).tr (kp_X7_init)).tr (KP.ref)).tr (KP.obj)).tr (kp_X4_init)).tr (KP.ref)).tr (KP.arr)).tr (KP.ref)).tr (KP.arr)).tr (KP.ref)).tr (KP.arr)).tr (KP.ref)).tr (KP.obj)).tr (kp_X2_init)).tr (KP.ref)).tr (KP.obj)).tr (kp_X2_init)).tr (KP.ref)).tr (KP.obj)).tr (kp_X5_init)).tr (KP.ref)).tr (KP.obj)).tr (kp_X1_init)).tr (KP.ref)).tr (KP.obj)).tr (kp_X0_init)).tr (KP.ref)).tr (KP.obj)).tr (kp_X3_init)).tr (KP.int)).tr (KP.obj)).tr (kp_X3_init)).tr (KP.int)).tr (KP.int)).2 this hkn).1.trans hk) (by show this < σ.1 + 105; omega) dX8_init_149 ?_
  refine n_aload_n C (n := 0) rfl rfl dX8_init_152 ?_
  refine n_iconst C (v := 0) (by decide) dX8_init_153 ?_
  refine n_puti C hin fl_X8_91 ft_X8_15 rfl rfl rfl ((((((((((((((((((((((((((((((((((((((((KP.obj).tr (kp_X6_init)).tr (KP.ref)).tr (KP.obj)).tr (kp_X7_init)).tr (KP.ref)).tr (KP.obj)).tr (kp_X4_init)).tr (KP.ref)).tr (KP.arr)).tr (KP.ref)).tr (KP.arr)).tr (KP.ref)).tr (KP.arr)).tr (KP.ref)).tr (KP.obj)).tr (kp_X2_init)).tr (KP.ref)).tr (KP.obj)).tr (kp_X2_init)).tr (KP.ref)).tr (KP.obj)).tr (kp_X5_init)).tr (KP.ref)).tr (KP.obj)).tr (kp_X1_init)).tr (KP.ref)).tr (KP.obj)).tr (kp_X0_init)).tr (KP.ref)).tr (KP.obj)).tr (kp_X3_init)).tr (KP.int)).tr (KP.obj)).tr (kp_X3_init)).tr (KP.int)).tr (KP.int)).tr (KP.int)).2 this hkn).1.trans hk) (by show this < σ.1 + 105; omega) dX8_init_154 ?_
  exact n_ret C hr dX8_init_157
set_option maxRecDepth 20000 in
theorem kp_X9_init {σ : NS} {this : Nat} : KP σ (c_X9_init σ this) := ((((((((((((((((((((((((((((((((((((((((((((((((KP.arr).tr (KP.int)).tr (KP.int)).tr (KP.int)).tr (KP.int)).tr (KP.int)).tr (KP.int)).tr (KP.int)).tr (KP.int)).tr (KP.ref)).tr (KP.arr)).tr (KP.ref)).tr (KP.arr)).tr (KP.ref)).tr (KP.arr)).tr (KP.ref)).tr (KP.arr)).tr (KP.ref)).tr (KP.arr)).tr (KP.ref)).tr (KP.arr)).tr (KP.ref)).tr (KP.arr)).tr (KP.ref)).tr (KP.arr)).tr (KP.ref)).tr (KP.arr)).tr (KP.ref)).tr (KP.arr)).tr (KP.ref)).tr (KP.arr)).tr (KP.ref)).tr (KP.arr)).tr (KP.ref)).tr (KP.arr)).tr (KP.ref)).tr (KP.arr)).tr (KP.ref)).tr (KP.arr)).tr (KP.ref)).tr (KP.arr)).tr (KP.ref)).tr (KP.arr)).tr (KP.ref)).tr (KP.arr)).tr (KP.ref)).tr (KP.arr)).tr (KP.ref) : KP σ (c_X9_init_s48 σ this))
set_option maxRecDepth 20000 in
theorem kr_X9_init {σ : NS} {this : Nat} {k : Nat} (h : k < σ.1) (hk : k ≠ this) : KR σ (c_X9_init σ this) k := by
  have e1 : KR σ (c_X9_init_s1 σ this) k := (KR.arr (by show k < σ.1 + 0; omega))
  have e2 : KR (c_X9_init_s1 σ this) (c_X9_init_s2 σ this) k := KR.int
  have e3 : KR (c_X9_init_s2 σ this) (c_X9_init_s3 σ this) k := KR.int
  have e4 : KR (c_X9_init_s3 σ this) (c_X9_init_s4 σ this) k := KR.int
  have e5 : KR (c_X9_init_s4 σ this) (c_X9_init_s5 σ this) k := KR.int
  have e6 : KR (c_X9_init_s5 σ this) (c_X9_init_s6 σ this) k := KR.int
  have e7 : KR (c_X9_init_s6 σ this) (c_X9_init_s7 σ this) k := KR.int
  have e8 : KR (c_X9_init_s7 σ this) (c_X9_init_s8 σ this) k := KR.int
  have e9 : KR (c_X9_init_s8 σ this) (c_X9_init_s9 σ this) k := KR.int
  have e10 : KR (c_X9_init_s9 σ this) (c_X9_init_s10 σ this) k := (KR.ref (by omega))
  have e11 : KR (c_X9_init_s10 σ this) (c_X9_init_s11 σ this) k := (KR.arr (by show k < σ.1 + 1; omega))
  have e12 : KR (c_X9_init_s11 σ this) (c_X9_init_s12 σ this) k := (KR.ref (by omega))
  have e13 : KR (c_X9_init_s12 σ this) (c_X9_init_s13 σ this) k := (KR.arr (by show k < σ.1 + 2; omega))
  have e14 : KR (c_X9_init_s13 σ this) (c_X9_init_s14 σ this) k := (KR.ref (by omega))
  have e15 : KR (c_X9_init_s14 σ this) (c_X9_init_s15 σ this) k := (KR.arr (by show k < σ.1 + 3; omega))
  have e16 : KR (c_X9_init_s15 σ this) (c_X9_init_s16 σ this) k := (KR.ref (by omega))
  have e17 : KR (c_X9_init_s16 σ this) (c_X9_init_s17 σ this) k := (KR.arr (by show k < σ.1 + 4; omega))
  have e18 : KR (c_X9_init_s17 σ this) (c_X9_init_s18 σ this) k := (KR.ref (by omega))
  have e19 : KR (c_X9_init_s18 σ this) (c_X9_init_s19 σ this) k := (KR.arr (by show k < σ.1 + 5; omega))
  have e20 : KR (c_X9_init_s19 σ this) (c_X9_init_s20 σ this) k := (KR.ref (by omega))
  have e21 : KR (c_X9_init_s20 σ this) (c_X9_init_s21 σ this) k := (KR.arr (by show k < σ.1 + 6; omega))
  have e22 : KR (c_X9_init_s21 σ this) (c_X9_init_s22 σ this) k := (KR.ref (by omega))
  have e23 : KR (c_X9_init_s22 σ this) (c_X9_init_s23 σ this) k := (KR.arr (by show k < σ.1 + 7; omega))
  have e24 : KR (c_X9_init_s23 σ this) (c_X9_init_s24 σ this) k := (KR.ref (by omega))
  have e25 : KR (c_X9_init_s24 σ this) (c_X9_init_s25 σ this) k := (KR.arr (by show k < σ.1 + 8; omega))
  have e26 : KR (c_X9_init_s25 σ this) (c_X9_init_s26 σ this) k := (KR.ref (by omega))
  have e27 : KR (c_X9_init_s26 σ this) (c_X9_init_s27 σ this) k := (KR.arr (by show k < σ.1 + 9; omega))
  have e28 : KR (c_X9_init_s27 σ this) (c_X9_init_s28 σ this) k := (KR.ref (by omega))
  have e29 : KR (c_X9_init_s28 σ this) (c_X9_init_s29 σ this) k := (KR.arr (by show k < σ.1 + 10; omega))
  have e30 : KR (c_X9_init_s29 σ this) (c_X9_init_s30 σ this) k := (KR.ref (by omega))
  have e31 : KR (c_X9_init_s30 σ this) (c_X9_init_s31 σ this) k := (KR.arr (by show k < σ.1 + 11; omega))
  have e32 : KR (c_X9_init_s31 σ this) (c_X9_init_s32 σ this) k := (KR.ref (by omega))
  have e33 : KR (c_X9_init_s32 σ this) (c_X9_init_s33 σ this) k := (KR.arr (by show k < σ.1 + 12; omega))
  have e34 : KR (c_X9_init_s33 σ this) (c_X9_init_s34 σ this) k := (KR.ref (by omega))
  have e35 : KR (c_X9_init_s34 σ this) (c_X9_init_s35 σ this) k := (KR.arr (by show k < σ.1 + 13; omega))
  have e36 : KR (c_X9_init_s35 σ this) (c_X9_init_s36 σ this) k := (KR.ref (by omega))
  have e37 : KR (c_X9_init_s36 σ this) (c_X9_init_s37 σ this) k := (KR.arr (by show k < σ.1 + 14; omega))
  have e38 : KR (c_X9_init_s37 σ this) (c_X9_init_s38 σ this) k := (KR.ref (by omega))
  have e39 : KR (c_X9_init_s38 σ this) (c_X9_init_s39 σ this) k := (KR.arr (by show k < σ.1 + 15; omega))
  have e40 : KR (c_X9_init_s39 σ this) (c_X9_init_s40 σ this) k := (KR.ref (by omega))
  have e41 : KR (c_X9_init_s40 σ this) (c_X9_init_s41 σ this) k := (KR.arr (by show k < σ.1 + 16; omega))
  have e42 : KR (c_X9_init_s41 σ this) (c_X9_init_s42 σ this) k := (KR.ref (by omega))
  have e43 : KR (c_X9_init_s42 σ this) (c_X9_init_s43 σ this) k := (KR.arr (by show k < σ.1 + 17; omega))
  have e44 : KR (c_X9_init_s43 σ this) (c_X9_init_s44 σ this) k := (KR.ref (by omega))
  have e45 : KR (c_X9_init_s44 σ this) (c_X9_init_s45 σ this) k := (KR.arr (by show k < σ.1 + 18; omega))
  have e46 : KR (c_X9_init_s45 σ this) (c_X9_init_s46 σ this) k := (KR.ref (by omega))
  have e47 : KR (c_X9_init_s46 σ this) (c_X9_init_s47 σ this) k := (KR.arr (by show k < σ.1 + 19; omega))
  have e48 : KR (c_X9_init_s47 σ this) (c_X9_init_s48 σ this) k := (KR.ref (by omega))
  exact (((((((((((((((((((((((((((((((((((((((((((((((e1).tr e2).tr e3).tr e4).tr e5).tr e6).tr e7).tr e8).tr e9).tr e10).tr e11).tr e12).tr e13).tr e14).tr e15).tr e16).tr e17).tr e18).tr e19).tr e20).tr e21).tr e22).tr e23).tr e24).tr e25).tr e26).tr e27).tr e28).tr e29).tr e30).tr e31).tr e32).tr e33).tr e34).tr e35).tr e36).tr e37).tr e38).tr e39).tr e40).tr e41).tr e42).tr e43).tr e44).tr e45).tr e46).tr e47).tr e48
set_option maxRecDepth 20000 in
set_option maxHeartbeats 4000000 in
theorem s_X9_init {l : Launch} {B : BT} {σ : NS} {this : Nat} (hk : zk σ.2.1 this = 9) (hkn : this < σ.1) (hN : σ.1 + 20 < 900)  : MN l B yX9_init cX9_init 1 1 20 1374 [.ref (nad B this)] σ (c_X9_init σ this) := by
  refine n_met (by decide) rfl (Nat.le_of_ble_eq_true rfl) ?_
  intro x C hin hRm _ hr
  show NK x B 1 0 0 (QMN x B 20 1374 (c_X9_init_s48 σ this)) 0 [(0, .ref (nad B this))] [] σ
  refine n_aload_n C (n := 0) rfl rfl dX9_init_0 ?_
  refine n_obj C (w12 46 rfl) (by rw [hRm]; decide) (by rw [hRm]; decide) dX9_init_1 ?_
  refine n_aload_n C (n := 0) rfl rfl dX9_init_4 ?_
  refine n_bipush C (v := 8) (by decide) dX9_init_5 ?_
  refine n_newa C (atype := .int) (ty := .int) (t := 20) (ti := 0) (N := 8) rfl rfl (fun _ _ h => h) rfl (by decide) (by decide) (w1 47 rfl) (by decide) (by decide) (by decide) (by show σ.1 + 0 < 900; omega) (by rw [hRm]; decide) (by rw [hRm]; decide) dX9_init_7 ?_
  refine n_dup C rfl dX9_init_9 ?_
  refine n_iconst C (v := 0) (by decide) dX9_init_10 ?_
  refine n_iconst C (v := (-1)) (by decide) dX9_init_11 ?_
  refine n_iast (N := 8) (j := 0) C (((KP.rf : KP (c_X9_init_s1 σ this) (c_X9_init_s1 σ this)).2 _ (Nat.lt_succ_self _)).1.trans up_s) (by show σ.1 < σ.1 + 1; omega) (((KP.rf : KP (c_X9_init_s1 σ this) (c_X9_init_s1 σ this)).2 _ (Nat.lt_succ_self _)).2.trans up_s) (inb_vp.mp (by decide)) (by decide) dX9_init_12 ?_
  refine n_dup C rfl dX9_init_13 ?_
  refine n_iconst C (v := 1) (by decide) dX9_init_14 ?_
  refine n_iconst C (v := (-1)) (by decide) dX9_init_15 ?_
  refine n_iast (N := 8) (j := 1) C (((KP.int : KP (c_X9_init_s1 σ this) (c_X9_init_s2 σ this)).2 _ (Nat.lt_succ_self _)).1.trans up_s) (by show σ.1 < σ.1 + 1; omega) (((KP.int : KP (c_X9_init_s1 σ this) (c_X9_init_s2 σ this)).2 _ (Nat.lt_succ_self _)).2.trans up_s) (inb_vp.mp (by decide)) (by decide) dX9_init_16 ?_
  refine n_dup C rfl dX9_init_17 ?_
  refine n_iconst C (v := 2) (by decide) dX9_init_18 ?_
  refine n_iconst C (v := (-1)) (by decide) dX9_init_19 ?_
  refine n_iast (N := 8) (j := 2) C ((((KP.int).tr (KP.int) : KP (c_X9_init_s1 σ this) (c_X9_init_s3 σ this)).2 _ (Nat.lt_succ_self _)).1.trans up_s) (by show σ.1 < σ.1 + 1; omega) ((((KP.int).tr (KP.int) : KP (c_X9_init_s1 σ this) (c_X9_init_s3 σ this)).2 _ (Nat.lt_succ_self _)).2.trans up_s) (inb_vp.mp (by decide)) (by decide) dX9_init_20 ?_
  refine n_dup C rfl dX9_init_21 ?_
  refine n_iconst C (v := 3) (by decide) dX9_init_22 ?_
  refine n_iconst C (v := (-1)) (by decide) dX9_init_23 ?_
  refine n_iast (N := 8) (j := 3) C (((((KP.int).tr (KP.int)).tr (KP.int) : KP (c_X9_init_s1 σ this) (c_X9_init_s4 σ this)).2 _ (Nat.lt_succ_self _)).1.trans up_s) (by show σ.1 < σ.1 + 1; omega) (((((KP.int).tr (KP.int)).tr (KP.int) : KP (c_X9_init_s1 σ this) (c_X9_init_s4 σ this)).2 _ (Nat.lt_succ_self _)).2.trans up_s) (inb_vp.mp (by decide)) (by decide) dX9_init_24 ?_
  refine n_dup C rfl dX9_init_25 ?_
  refine n_iconst C (v := 4) (by decide) dX9_init_26 ?_
  refine n_iconst C (v := (-1)) (by decide) dX9_init_27 ?_
  refine n_iast (N := 8) (j := 4) C ((((((KP.int).tr (KP.int)).tr (KP.int)).tr (KP.int) : KP (c_X9_init_s1 σ this) (c_X9_init_s5 σ this)).2 _ (Nat.lt_succ_self _)).1.trans up_s) (by show σ.1 < σ.1 + 1; omega) ((((((KP.int).tr (KP.int)).tr (KP.int)).tr (KP.int) : KP (c_X9_init_s1 σ this) (c_X9_init_s5 σ this)).2 _ (Nat.lt_succ_self _)).2.trans up_s) (inb_vp.mp (by decide)) (by decide) dX9_init_28 ?_
  refine n_dup C rfl dX9_init_29 ?_
  refine n_iconst C (v := 5) (by decide) dX9_init_30 ?_
  refine n_iconst C (v := (-1)) (by decide) dX9_init_31 ?_
  refine n_iast (N := 8) (j := 5) C (((((((KP.int).tr (KP.int)).tr (KP.int)).tr (KP.int)).tr (KP.int) : KP (c_X9_init_s1 σ this) (c_X9_init_s6 σ this)).2 _ (Nat.lt_succ_self _)).1.trans up_s) (by show σ.1 < σ.1 + 1; omega) (((((((KP.int).tr (KP.int)).tr (KP.int)).tr (KP.int)).tr (KP.int) : KP (c_X9_init_s1 σ this) (c_X9_init_s6 σ this)).2 _ (Nat.lt_succ_self _)).2.trans up_s) (inb_vp.mp (by decide)) (by decide) dX9_init_32 ?_
  refine n_dup C rfl dX9_init_33 ?_
  refine n_bipush C (v := 6) (by decide) dX9_init_34 ?_
  refine n_iconst C (v := (-1)) (by decide) dX9_init_36 ?_
  refine n_iast (N := 8) (j := 6) C ((((((((KP.int).tr (KP.int)).tr (KP.int)).tr (KP.int)).tr (KP.int)).tr (KP.int) : KP (c_X9_init_s1 σ this) (c_X9_init_s7 σ this)).2 _ (Nat.lt_succ_self _)).1.trans up_s) (by show σ.1 < σ.1 + 1; omega) ((((((((KP.int).tr (KP.int)).tr (KP.int)).tr (KP.int)).tr (KP.int)).tr (KP.int) : KP (c_X9_init_s1 σ this) (c_X9_init_s7 σ this)).2 _ (Nat.lt_succ_self _)).2.trans up_s) (inb_vp.mp (by decide)) (by decide) dX9_init_37 ?_
  refine n_dup C rfl dX9_init_38 ?_
  refine n_bipush C (v := 7) (by decide) dX9_init_39 ?_
  refine n_iconst C (v := (-1)) (by decide) dX9_init_41 ?_
  refine n_iast (N := 8) (j := 7) C (((((((((KP.int).tr (KP.int)).tr (KP.int)).tr (KP.int)).tr (KP.int)).tr (KP.int)).tr (KP.int) : KP (c_X9_init_s1 σ this) (c_X9_init_s8 σ this)).2 _ (Nat.lt_succ_self _)).1.trans up_s) (by show σ.1 < σ.1 + 1; omega) (((((((((KP.int).tr (KP.int)).tr (KP.int)).tr (KP.int)).tr (KP.int)).tr (KP.int)).tr (KP.int) : KP (c_X9_init_s1 σ this) (c_X9_init_s8 σ this)).2 _ (Nat.lt_succ_self _)).2.trans up_s) (inb_vp.mp (by decide)) (by decide) dX9_init_42 ?_
  refine n_putr (q := σ.1) C hin fl_X9_7 ft_X9_2 rfl (fun _ => rfl) (fun _ => rfl) (((((((((((KP.arr).tr (KP.int)).tr (KP.int)).tr (KP.int)).tr (KP.int)).tr (KP.int)).tr (KP.int)).tr (KP.int)).tr (KP.int)).2 this hkn).1.trans hk) (by show this < σ.1 + 1; omega) (by omega) dX9_init_43 ?_
  refine n_aload_n C (n := 0) rfl rfl dX9_init_46 ?_
  refine n_bipush C (v := 8) (by decide) dX9_init_47 ?_
  refine n_newa C (atype := .int) (ty := .int) (t := 20) (ti := 0) (N := 8) rfl rfl (fun _ _ h => h) rfl (by decide) (by decide) (w1 47 rfl) (by decide) (by decide) (by decide) (by show σ.1 + 1 < 900; omega) (by rw [hRm]; decide) (by rw [hRm]; decide) dX9_init_49 ?_
  refine n_putr (q := σ.1 + 1) C hin fl_X9_13 ft_X9_3 rfl (fun _ => rfl) (fun _ => rfl) (((((((((((((KP.arr).tr (KP.int)).tr (KP.int)).tr (KP.int)).tr (KP.int)).tr (KP.int)).tr (KP.int)).tr (KP.int)).tr (KP.int)).tr (KP.ref)).tr (KP.arr)).2 this hkn).1.trans hk) (by show this < σ.1 + 2; omega) (by omega) dX9_init_51 ?_
  refine n_aload_n C (n := 0) rfl rfl dX9_init_54 ?_
  refine n_sipush C (v := 320) (by decide) dX9_init_55 ?_
  refine n_newa C (atype := .int) (ty := .int) (t := 20) (ti := 0) (N := 320) rfl rfl (fun _ _ h => h) rfl (by decide) (by decide) (w1 47 rfl) (by decide) (by decide) (by decide) (by show σ.1 + 2 < 900; omega) (by rw [hRm]; decide) (by rw [hRm]; decide) dX9_init_58 ?_
  refine n_putr (q := σ.1 + 2) C hin fl_X9_16 ft_X9_4 rfl (fun _ => rfl) (fun _ => rfl) (((((((((((((((KP.arr).tr (KP.int)).tr (KP.int)).tr (KP.int)).tr (KP.int)).tr (KP.int)).tr (KP.int)).tr (KP.int)).tr (KP.int)).tr (KP.ref)).tr (KP.arr)).tr (KP.ref)).tr (KP.arr)).2 this hkn).1.trans hk) (by show this < σ.1 + 3; omega) (by omega) dX9_init_60 ?_
  refine n_aload_n C (n := 0) rfl rfl dX9_init_63 ?_
  refine n_sipush C (v := 160) (by decide) dX9_init_64 ?_
  refine n_newa C (atype := .int) (ty := .int) (t := 20) (ti := 0) (N := 160) rfl rfl (fun _ _ h => h) rfl (by decide) (by decide) (w1 47 rfl) (by decide) (by decide) (by decide) (by show σ.1 + 3 < 900; omega) (by rw [hRm]; decide) (by rw [hRm]; decide) dX9_init_67 ?_
  refine n_putr (q := σ.1 + 3) C hin fl_X9_19 ft_X9_9 rfl (fun _ => rfl) (fun _ => rfl) (((((((((((((((((KP.arr).tr (KP.int)).tr (KP.int)).tr (KP.int)).tr (KP.int)).tr (KP.int)).tr (KP.int)).tr (KP.int)).tr (KP.int)).tr (KP.ref)).tr (KP.arr)).tr (KP.ref)).tr (KP.arr)).tr (KP.ref)).tr (KP.arr)).2 this hkn).1.trans hk) (by show this < σ.1 + 4; omega) (by omega) dX9_init_69 ?_
  refine n_aload_n C (n := 0) rfl rfl dX9_init_72 ?_
  refine n_bipush C (v := 10) (by decide) dX9_init_73 ?_
  refine n_newa C (atype := .int) (ty := .int) (t := 20) (ti := 0) (N := 10) rfl rfl (fun _ _ h => h) rfl (by decide) (by decide) (w1 47 rfl) (by decide) (by decide) (by decide) (by show σ.1 + 4 < 900; omega) (by rw [hRm]; decide) (by rw [hRm]; decide) dX9_init_75 ?_
  refine n_putr (q := σ.1 + 4) C hin fl_X9_22 ft_X9_10 rfl (fun _ => rfl) (fun _ => rfl) (((((((((((((((((((KP.arr).tr (KP.int)).tr (KP.int)).tr (KP.int)).tr (KP.int)).tr (KP.int)).tr (KP.int)).tr (KP.int)).tr (KP.int)).tr (KP.ref)).tr (KP.arr)).tr (KP.ref)).tr (KP.arr)).tr (KP.ref)).tr (KP.arr)).tr (KP.ref)).tr (KP.arr)).2 this hkn).1.trans hk) (by show this < σ.1 + 5; omega) (by omega) dX9_init_77 ?_
  refine n_aload_n C (n := 0) rfl rfl dX9_init_80 ?_
  refine n_bipush C (v := 10) (by decide) dX9_init_81 ?_
  refine n_newa C (atype := .int) (ty := .int) (t := 20) (ti := 0) (N := 10) rfl rfl (fun _ _ h => h) rfl (by decide) (by decide) (w1 47 rfl) (by decide) (by decide) (by decide) (by show σ.1 + 5 < 900; omega) (by rw [hRm]; decide) (by rw [hRm]; decide) dX9_init_83 ?_
  refine n_putr (q := σ.1 + 5) C hin fl_X9_25 ft_X9_11 rfl (fun _ => rfl) (fun _ => rfl) (((((((((((((((((((((KP.arr).tr (KP.int)).tr (KP.int)).tr (KP.int)).tr (KP.int)).tr (KP.int)).tr (KP.int)).tr (KP.int)).tr (KP.int)).tr (KP.ref)).tr (KP.arr)).tr (KP.ref)).tr (KP.arr)).tr (KP.ref)).tr (KP.arr)).tr (KP.ref)).tr (KP.arr)).tr (KP.ref)).tr (KP.arr)).2 this hkn).1.trans hk) (by show this < σ.1 + 6; omega) (by omega) dX9_init_85 ?_
  refine n_aload_n C (n := 0) rfl rfl dX9_init_88 ?_
  refine n_sipush C (v := 160) (by decide) dX9_init_89 ?_
  refine n_newa C (atype := .int) (ty := .int) (t := 20) (ti := 0) (N := 160) rfl rfl (fun _ _ h => h) rfl (by decide) (by decide) (w1 47 rfl) (by decide) (by decide) (by decide) (by show σ.1 + 6 < 900; omega) (by rw [hRm]; decide) (by rw [hRm]; decide) dX9_init_92 ?_
  refine n_putr (q := σ.1 + 6) C hin fl_X9_28 ft_X9_16 rfl (fun _ => rfl) (fun _ => rfl) (((((((((((((((((((((((KP.arr).tr (KP.int)).tr (KP.int)).tr (KP.int)).tr (KP.int)).tr (KP.int)).tr (KP.int)).tr (KP.int)).tr (KP.int)).tr (KP.ref)).tr (KP.arr)).tr (KP.ref)).tr (KP.arr)).tr (KP.ref)).tr (KP.arr)).tr (KP.ref)).tr (KP.arr)).tr (KP.ref)).tr (KP.arr)).tr (KP.ref)).tr (KP.arr)).2 this hkn).1.trans hk) (by show this < σ.1 + 7; omega) (by omega) dX9_init_94 ?_
  refine n_aload_n C (n := 0) rfl rfl dX9_init_97 ?_
  refine n_bipush C (v := 10) (by decide) dX9_init_98 ?_
  refine n_newa C (atype := .int) (ty := .int) (t := 20) (ti := 0) (N := 10) rfl rfl (fun _ _ h => h) rfl (by decide) (by decide) (w1 47 rfl) (by decide) (by decide) (by decide) (by show σ.1 + 7 < 900; omega) (by rw [hRm]; decide) (by rw [hRm]; decide) dX9_init_100 ?_
  refine n_putr (q := σ.1 + 7) C hin fl_X9_31 ft_X9_17 rfl (fun _ => rfl) (fun _ => rfl) (((((((((((((((((((((((((KP.arr).tr (KP.int)).tr (KP.int)).tr (KP.int)).tr (KP.int)).tr (KP.int)).tr (KP.int)).tr (KP.int)).tr (KP.int)).tr (KP.ref)).tr (KP.arr)).tr (KP.ref)).tr (KP.arr)).tr (KP.ref)).tr (KP.arr)).tr (KP.ref)).tr (KP.arr)).tr (KP.ref)).tr (KP.arr)).tr (KP.ref)).tr (KP.arr)).tr (KP.ref)).tr (KP.arr)).2 this hkn).1.trans hk) (by show this < σ.1 + 8; omega) (by omega) dX9_init_102 ?_
  refine n_aload_n C (n := 0) rfl rfl dX9_init_105 ?_
  refine n_bipush C (v := 10) (by decide) dX9_init_106 ?_
  refine n_newa C (atype := .int) (ty := .int) (t := 20) (ti := 0) (N := 10) rfl rfl (fun _ _ h => h) rfl (by decide) (by decide) (w1 47 rfl) (by decide) (by decide) (by decide) (by show σ.1 + 8 < 900; omega) (by rw [hRm]; decide) (by rw [hRm]; decide) dX9_init_108 ?_
  refine n_putr (q := σ.1 + 8) C hin fl_X9_34 ft_X9_18 rfl (fun _ => rfl) (fun _ => rfl) (((((((((((((((((((((((((((KP.arr).tr (KP.int)).tr (KP.int)).tr (KP.int)).tr (KP.int)).tr (KP.int)).tr (KP.int)).tr (KP.int)).tr (KP.int)).tr (KP.ref)).tr (KP.arr)).tr (KP.ref)).tr (KP.arr)).tr (KP.ref)).tr (KP.arr)).tr (KP.ref)).tr (KP.arr)).tr (KP.ref)).tr (KP.arr)).tr (KP.ref)).tr (KP.arr)).tr (KP.ref)).tr (KP.arr)).tr (KP.ref)).tr (KP.arr)).2 this hkn).1.trans hk) (by show this < σ.1 + 9; omega) (by omega) dX9_init_110 ?_
  refine n_aload_n C (n := 0) rfl rfl dX9_init_113 ?_
  refine n_sipush C (v := 500) (by decide) dX9_init_114 ?_
  refine n_newa C (atype := .int) (ty := .int) (t := 20) (ti := 0) (N := 500) rfl rfl (fun _ _ h => h) rfl (by decide) (by decide) (w1 47 rfl) (by decide) (by decide) (by decide) (by show σ.1 + 9 < 900; omega) (by rw [hRm]; decide) (by rw [hRm]; decide) dX9_init_117 ?_
  refine n_putr (q := σ.1 + 9) C hin fl_X9_37 ft_X9_19 rfl (fun _ => rfl) (fun _ => rfl) (((((((((((((((((((((((((((((KP.arr).tr (KP.int)).tr (KP.int)).tr (KP.int)).tr (KP.int)).tr (KP.int)).tr (KP.int)).tr (KP.int)).tr (KP.int)).tr (KP.ref)).tr (KP.arr)).tr (KP.ref)).tr (KP.arr)).tr (KP.ref)).tr (KP.arr)).tr (KP.ref)).tr (KP.arr)).tr (KP.ref)).tr (KP.arr)).tr (KP.ref)).tr (KP.arr)).tr (KP.ref)).tr (KP.arr)).tr (KP.ref)).tr (KP.arr)).tr (KP.ref)).tr (KP.arr)).2 this hkn).1.trans hk) (by show this < σ.1 + 10; omega) (by omega) dX9_init_119 ?_
  refine n_aload_n C (n := 0) rfl rfl dX9_init_122 ?_
  refine n_bipush C (v := 12) (by decide) dX9_init_123 ?_
  refine n_newa C (atype := .int) (ty := .int) (t := 20) (ti := 0) (N := 12) rfl rfl (fun _ _ h => h) rfl (by decide) (by decide) (w1 47 rfl) (by decide) (by decide) (by decide) (by show σ.1 + 10 < 900; omega) (by rw [hRm]; decide) (by rw [hRm]; decide) dX9_init_125 ?_
  refine n_putr (q := σ.1 + 10) C hin fl_X9_40 ft_X9_29 rfl (fun _ => rfl) (fun _ => rfl) (((((((((((((((((((((((((((((((KP.arr).tr (KP.int)).tr (KP.int)).tr (KP.int)).tr (KP.int)).tr (KP.int)).tr (KP.int)).tr (KP.int)).tr (KP.int)).tr (KP.ref)).tr (KP.arr)).tr (KP.ref)).tr (KP.arr)).tr (KP.ref)).tr (KP.arr)).tr (KP.ref)).tr (KP.arr)).tr (KP.ref)).tr (KP.arr)).tr (KP.ref)).tr (KP.arr)).tr (KP.ref)).tr (KP.arr)).tr (KP.ref)).tr (KP.arr)).tr (KP.ref)).tr (KP.arr)).tr (KP.ref)).tr (KP.arr)).2 this hkn).1.trans hk) (by show this < σ.1 + 11; omega) (by omega) dX9_init_127 ?_
  refine n_aload_n C (n := 0) rfl rfl dX9_init_130 ?_
  refine n_bipush C (v := 6) (by decide) dX9_init_131 ?_
  refine n_newa C (atype := .int) (ty := .int) (t := 20) (ti := 0) (N := 6) rfl rfl (fun _ _ h => h) rfl (by decide) (by decide) (w1 47 rfl) (by decide) (by decide) (by decide) (by show σ.1 + 11 < 900; omega) (by rw [hRm]; decide) (by rw [hRm]; decide) dX9_init_133 ?_
  refine n_putr (q := σ.1 + 11) C hin fl_X9_43 ft_X9_30 rfl (fun _ => rfl) (fun _ => rfl) (((((((((((((((((((((((((((((((((KP.arr).tr (KP.int)).tr (KP.int)).tr (KP.int)).tr (KP.int)).tr (KP.int)).tr (KP.int)).tr (KP.int)).tr (KP.int)).tr (KP.ref)).tr (KP.arr)).tr (KP.ref)).tr (KP.arr)).tr (KP.ref)).tr (KP.arr)).tr (KP.ref)).tr (KP.arr)).tr (KP.ref)).tr (KP.arr)).tr (KP.ref)).tr (KP.arr)).tr (KP.ref)).tr (KP.arr)).tr (KP.ref)).tr (KP.arr)).tr (KP.ref)).tr (KP.arr)).tr (KP.ref)).tr (KP.arr)).tr (KP.ref)).tr (KP.arr)).2 this hkn).1.trans hk) (by show this < σ.1 + 12; omega) (by omega) dX9_init_135 ?_
  refine n_aload_n C (n := 0) rfl rfl dX9_init_138 ?_
  refine n_bipush C (v := 48) (by decide) dX9_init_139 ?_
  refine n_newa C (atype := .int) (ty := .int) (t := 20) (ti := 0) (N := 48) rfl rfl (fun _ _ h => h) rfl (by decide) (by decide) (w1 47 rfl) (by decide) (by decide) (by decide) (by show σ.1 + 12 < 900; omega) (by rw [hRm]; decide) (by rw [hRm]; decide) dX9_init_141 ?_
  refine n_putr (q := σ.1 + 12) C hin fl_X9_46 ft_X9_32 rfl (fun _ => rfl) (fun _ => rfl) (((((((((((((((((((((((((((((((((((KP.arr).tr (KP.int)).tr (KP.int)).tr (KP.int)).tr (KP.int)).tr (KP.int)).tr (KP.int)).tr (KP.int)).tr (KP.int)).tr (KP.ref)).tr (KP.arr)).tr (KP.ref)).tr (KP.arr)).tr (KP.ref)).tr (KP.arr)).tr (KP.ref)).tr (KP.arr)).tr (KP.ref)).tr (KP.arr)).tr (KP.ref)).tr (KP.arr)).tr (KP.ref)).tr (KP.arr)).tr (KP.ref)).tr (KP.arr)).tr (KP.ref)).tr (KP.arr)).tr (KP.ref)).tr (KP.arr)).tr (KP.ref)).tr (KP.arr)).tr (KP.ref)).tr (KP.arr)).2 this hkn).1.trans hk) (by show this < σ.1 + 13; omega) (by omega) dX9_init_143 ?_
  refine n_aload_n C (n := 0) rfl rfl dX9_init_146 ?_
  refine n_bipush C (v := 12) (by decide) dX9_init_147 ?_
  refine n_newa C (atype := .int) (ty := .int) (t := 20) (ti := 0) (N := 12) rfl rfl (fun _ _ h => h) rfl (by decide) (by decide) (w1 47 rfl) (by decide) (by decide) (by decide) (by show σ.1 + 13 < 900; omega) (by rw [hRm]; decide) (by rw [hRm]; decide) dX9_init_149 ?_
  refine n_putr (q := σ.1 + 13) C hin fl_X9_49 ft_X9_33 rfl (fun _ => rfl) (fun _ => rfl) (((((((((((((((((((((((((((((((((((((KP.arr).tr (KP.int)).tr (KP.int)).tr (KP.int)).tr (KP.int)).tr (KP.int)).tr (KP.int)).tr (KP.int)).tr (KP.int)).tr (KP.ref)).tr (KP.arr)).tr (KP.ref)).tr (KP.arr)).tr (KP.ref)).tr (KP.arr)).tr (KP.ref)).tr (KP.arr)).tr (KP.ref)).tr (KP.arr)).tr (KP.ref)).tr (KP.arr)).tr (KP.ref)).tr (KP.arr)).tr (KP.ref)).tr (KP.arr)).tr (KP.ref)).tr (KP.arr)).tr (KP.ref)).tr (KP.arr)).tr (KP.ref)).tr (KP.arr)).tr (KP.ref)).tr (KP.arr)).tr (KP.ref)).tr (KP.arr)).2 this hkn).1.trans hk) (by show this < σ.1 + 14; omega) (by omega) dX9_init_151 ?_
  refine n_aload_n C (n := 0) rfl rfl dX9_init_154 ?_
  refine n_bipush C (v := 12) (by decide) dX9_init_155 ?_
  refine n_newa C (atype := .boolean) (ty := .boolean) (t := 22) (ti := 2) (N := 12) rfl rfl (fun _ _ h => h) rfl (by decide) (by decide) (w14 5 rfl) (by decide) (by decide) (by decide) (by show σ.1 + 14 < 900; omega) (by rw [hRm]; decide) (by rw [hRm]; decide) dX9_init_157 ?_
  refine n_putr (q := σ.1 + 14) C hin fl_X9_52 ft_X9_34 rfl (fun _ => rfl) (fun _ => rfl) (((((((((((((((((((((((((((((((((((((((KP.arr).tr (KP.int)).tr (KP.int)).tr (KP.int)).tr (KP.int)).tr (KP.int)).tr (KP.int)).tr (KP.int)).tr (KP.int)).tr (KP.ref)).tr (KP.arr)).tr (KP.ref)).tr (KP.arr)).tr (KP.ref)).tr (KP.arr)).tr (KP.ref)).tr (KP.arr)).tr (KP.ref)).tr (KP.arr)).tr (KP.ref)).tr (KP.arr)).tr (KP.ref)).tr (KP.arr)).tr (KP.ref)).tr (KP.arr)).tr (KP.ref)).tr (KP.arr)).tr (KP.ref)).tr (KP.arr)).tr (KP.ref)).tr (KP.arr)).tr (KP.ref)).tr (KP.arr)).tr (KP.ref)).tr (KP.arr)).tr (KP.ref)).tr (KP.arr)).2 this hkn).1.trans hk) (by show this < σ.1 + 15; omega) (by omega) dX9_init_159 ?_
  refine n_aload_n C (n := 0) rfl rfl dX9_init_162 ?_
  refine n_bipush C (v := 48) (by decide) dX9_init_163 ?_
  refine n_newa C (atype := .int) (ty := .int) (t := 20) (ti := 0) (N := 48) rfl rfl (fun _ _ h => h) rfl (by decide) (by decide) (w1 47 rfl) (by decide) (by decide) (by decide) (by show σ.1 + 15 < 900; omega) (by rw [hRm]; decide) (by rw [hRm]; decide) dX9_init_165 ?_
  refine n_putr (q := σ.1 + 15) C hin fl_X9_56 ft_X9_36 rfl (fun _ => rfl) (fun _ => rfl) (((((((((((((((((((((((((((((((((((((((((KP.arr).tr (KP.int)).tr (KP.int)).tr (KP.int)).tr (KP.int)).tr (KP.int)).tr (KP.int)).tr (KP.int)).tr (KP.int)).tr (KP.ref)).tr (KP.arr)).tr (KP.ref)).tr (KP.arr)).tr (KP.ref)).tr (KP.arr)).tr (KP.ref)).tr (KP.arr)).tr (KP.ref)).tr (KP.arr)).tr (KP.ref)).tr (KP.arr)).tr (KP.ref)).tr (KP.arr)).tr (KP.ref)).tr (KP.arr)).tr (KP.ref)).tr (KP.arr)).tr (KP.ref)).tr (KP.arr)).tr (KP.ref)).tr (KP.arr)).tr (KP.ref)).tr (KP.arr)).tr (KP.ref)).tr (KP.arr)).tr (KP.ref)).tr (KP.arr)).tr (KP.ref)).tr (KP.arr)).2 this hkn).1.trans hk) (by show this < σ.1 + 16; omega) (by omega) dX9_init_167 ?_
  refine n_aload_n C (n := 0) rfl rfl dX9_init_170 ?_
  refine n_bipush C (v := 12) (by decide) dX9_init_171 ?_
  refine n_newa C (atype := .int) (ty := .int) (t := 20) (ti := 0) (N := 12) rfl rfl (fun _ _ h => h) rfl (by decide) (by decide) (w1 47 rfl) (by decide) (by decide) (by decide) (by show σ.1 + 16 < 900; omega) (by rw [hRm]; decide) (by rw [hRm]; decide) dX9_init_173 ?_
  refine n_putr (q := σ.1 + 16) C hin fl_X9_59 ft_X9_38 rfl (fun _ => rfl) (fun _ => rfl) (((((((((((((((((((((((((((((((((((((((((((KP.arr).tr (KP.int)).tr (KP.int)).tr (KP.int)).tr (KP.int)).tr (KP.int)).tr (KP.int)).tr (KP.int)).tr (KP.int)).tr (KP.ref)).tr (KP.arr)).tr (KP.ref)).tr (KP.arr)).tr (KP.ref)).tr (KP.arr)).tr (KP.ref)).tr (KP.arr)).tr (KP.ref)).tr (KP.arr)).tr (KP.ref)).tr (KP.arr)).tr (KP.ref)).tr (KP.arr)).tr (KP.ref)).tr (KP.arr)).tr (KP.ref)).tr (KP.arr)).tr (KP.ref)).tr (KP.arr)).tr (KP.ref)).tr (KP.arr)).tr (KP.ref)).tr (KP.arr)).tr (KP.ref)).tr (KP.arr)).tr (KP.ref)).tr (KP.arr)).tr (KP.ref)).tr (KP.arr)).tr (KP.ref)).tr (KP.arr)).2 this hkn).1.trans hk) (by show this < σ.1 + 17; omega) (by omega) dX9_init_175 ?_
  refine n_aload_n C (n := 0) rfl rfl dX9_init_178 ?_
  refine n_bipush C (v := 6) (by decide) dX9_init_179 ?_
  refine n_newa C (atype := .int) (ty := .int) (t := 20) (ti := 0) (N := 6) rfl rfl (fun _ _ h => h) rfl (by decide) (by decide) (w1 47 rfl) (by decide) (by decide) (by decide) (by show σ.1 + 17 < 900; omega) (by rw [hRm]; decide) (by rw [hRm]; decide) dX9_init_181 ?_
  refine n_putr (q := σ.1 + 17) C hin fl_X9_62 ft_X9_39 rfl (fun _ => rfl) (fun _ => rfl) (((((((((((((((((((((((((((((((((((((((((((((KP.arr).tr (KP.int)).tr (KP.int)).tr (KP.int)).tr (KP.int)).tr (KP.int)).tr (KP.int)).tr (KP.int)).tr (KP.int)).tr (KP.ref)).tr (KP.arr)).tr (KP.ref)).tr (KP.arr)).tr (KP.ref)).tr (KP.arr)).tr (KP.ref)).tr (KP.arr)).tr (KP.ref)).tr (KP.arr)).tr (KP.ref)).tr (KP.arr)).tr (KP.ref)).tr (KP.arr)).tr (KP.ref)).tr (KP.arr)).tr (KP.ref)).tr (KP.arr)).tr (KP.ref)).tr (KP.arr)).tr (KP.ref)).tr (KP.arr)).tr (KP.ref)).tr (KP.arr)).tr (KP.ref)).tr (KP.arr)).tr (KP.ref)).tr (KP.arr)).tr (KP.ref)).tr (KP.arr)).tr (KP.ref)).tr (KP.arr)).tr (KP.ref)).tr (KP.arr)).2 this hkn).1.trans hk) (by show this < σ.1 + 18; omega) (by omega) dX9_init_183 ?_
  refine n_aload_n C (n := 0) rfl rfl dX9_init_186 ?_
  refine n_bipush C (v := 6) (by decide) dX9_init_187 ?_
  refine n_newa C (atype := .int) (ty := .int) (t := 20) (ti := 0) (N := 6) rfl rfl (fun _ _ h => h) rfl (by decide) (by decide) (w1 47 rfl) (by decide) (by decide) (by decide) (by show σ.1 + 18 < 900; omega) (by rw [hRm]; decide) (by rw [hRm]; decide) dX9_init_189 ?_
  refine n_putr (q := σ.1 + 18) C hin fl_X9_65 ft_X9_40 rfl (fun _ => rfl) (fun _ => rfl) (((((((((((((((((((((((((((((((((((((((((((((((KP.arr).tr (KP.int)).tr (KP.int)).tr (KP.int)).tr (KP.int)).tr (KP.int)).tr (KP.int)).tr (KP.int)).tr (KP.int)).tr (KP.ref)).tr (KP.arr)).tr (KP.ref)).tr (KP.arr)).tr (KP.ref)).tr (KP.arr)).tr (KP.ref)).tr (KP.arr)).tr (KP.ref)).tr (KP.arr)).tr (KP.ref)).tr (KP.arr)).tr (KP.ref)).tr (KP.arr)).tr (KP.ref)).tr (KP.arr)).tr (KP.ref)).tr (KP.arr)).tr (KP.ref)).tr (KP.arr)).tr (KP.ref)).tr (KP.arr)).tr (KP.ref)).tr (KP.arr)).tr (KP.ref)).tr (KP.arr)).tr (KP.ref)).tr (KP.arr)).tr (KP.ref)).tr (KP.arr)).tr (KP.ref)).tr (KP.arr)).tr (KP.ref)).tr (KP.arr)).tr (KP.ref)).tr (KP.arr)).2 this hkn).1.trans hk) (by show this < σ.1 + 19; omega) (by omega) dX9_init_191 ?_
  refine n_aload_n C (n := 0) rfl rfl dX9_init_194 ?_
  refine n_bipush C (v := 16) (by decide) dX9_init_195 ?_
  refine n_newa C (atype := .int) (ty := .int) (t := 20) (ti := 0) (N := 16) rfl rfl (fun _ _ h => h) rfl (by decide) (by decide) (w1 47 rfl) (by decide) (by decide) (by decide) (by show σ.1 + 19 < 900; omega) (by rw [hRm]; decide) (by rw [hRm]; decide) dX9_init_197 ?_
  refine n_putr (q := σ.1 + 19) C hin fl_X9_68 ft_X9_41 rfl (fun _ => rfl) (fun _ => rfl) (((((((((((((((((((((((((((((((((((((((((((((((((KP.arr).tr (KP.int)).tr (KP.int)).tr (KP.int)).tr (KP.int)).tr (KP.int)).tr (KP.int)).tr (KP.int)).tr (KP.int)).tr (KP.ref)).tr (KP.arr)).tr (KP.ref)).tr (KP.arr)).tr (KP.ref)).tr (KP.arr)).tr (KP.ref)).tr (KP.arr)).tr (KP.ref)).tr (KP.arr)).tr (KP.ref)).tr (KP.arr)).tr (KP.ref)).tr (KP.arr)).tr (KP.ref)).tr (KP.arr)).tr (KP.ref)).tr (KP.arr)).tr (KP.ref)).tr (KP.arr)).tr (KP.ref)).tr (KP.arr)).tr (KP.ref)).tr (KP.arr)).tr (KP.ref)).tr (KP.arr)).tr (KP.ref)).tr (KP.arr)).tr (KP.ref)).tr (KP.arr)).tr (KP.ref)).tr (KP.arr)).tr (KP.ref)).tr (KP.arr)).tr (KP.ref)).tr (KP.arr)).tr (KP.ref)).tr (KP.arr)).2 this hkn).1.trans hk) (by show this < σ.1 + 20; omega) (by omega) dX9_init_199 ?_
  exact n_ret C hr dX9_init_202
