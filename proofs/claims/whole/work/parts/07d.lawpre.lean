set_option maxRecDepth 20000 in
theorem ci_L_9 : CWi RL 9 yX8_init cX8_init 1 0 := ⟨List.forall_mem_cons.mpr ⟨w1 25 rfl, List.forall_mem_cons.mpr ⟨w1 26 rfl, List.forall_mem_cons.mpr ⟨w1 5 rfl, List.forall_mem_cons.mpr ⟨w1 27 rfl, fun _ h => absurd h List.not_mem_nil⟩⟩⟩⟩, rfl, by decide, by decide, by decide +kernel⟩
set_option maxRecDepth 20000 in
theorem ci_L_12 : CWi RL 12 yX9_init cX9_init 1 0 := ⟨List.forall_mem_cons.mpr ⟨w12 43 rfl, List.forall_mem_cons.mpr ⟨w12 44 rfl, List.forall_mem_cons.mpr ⟨w1 15 rfl, List.forall_mem_cons.mpr ⟨w12 45 rfl, fun _ h => absurd h List.not_mem_nil⟩⟩⟩⟩, rfl, by decide, by decide, by decide +kernel⟩
set_option maxRecDepth 20000 in
set_option maxHeartbeats 4000000 in
theorem law_pre {x : CX} {B : BT} {σ : NS} {b : Nat} {Q : State → Prop} (C : CN x B code 4 RL) (hRm : xR x = room_1) (hN : σ.1 + 127 < 900) (hfin : NK x B 4 127 3554 Q 16 [(2, .ref (nad B (σ.1 + 106))), (1, .ref (nad B (σ.1))), (0, .ref b)] [] (c_L_law_s4 σ)) : NK x B 4 0 0 Q 0 [(0, .ref b)] [] σ := by
  refine n_new C (c := 8) rfl (by decide) tyX8 tyX8_ok (by decide) inbX8 (List.forall_mem_cons.mpr ⟨w1 23 rfl, List.forall_mem_cons.mpr ⟨w1 24 rfl, List.forall_mem_cons.mpr ⟨w1 5 rfl, fun _ h => absurd h List.not_mem_nil⟩⟩⟩) (by show σ.1 + 0 < 900; omega) (by rw [hRm]; decide) (by rw [hRm]; decide) dL_law_0 ?_
  refine n_dup C rfl dL_law_3 ?_
  refine n_ci C (d := 3) (mc := 105) (ms := 2121) (by rw [hRm]; decide) (by rw [hRm]; decide) (by rw [hRm]; decide) (by rw [hRm]; decide) ci_L_9 (by decide) (k := σ.1) [] rfl (s_X8_init (((KP.rf : KP (c_L_law_s1 σ) (c_L_law_s1 σ)).2 _ (Nat.lt_succ_self _)).1.trans up_s) (by show σ.1 < σ.1 + 1; omega) (by show σ.1 + 1 + 105 < 900; omega)) (Nat.le_of_ble_eq_true rfl) dL_law_4 rfl ?_
  refine n_astore_n C (lv' := [(1, .ref (nad B (σ.1))), (0, .ref b)]) rfl (by decide) rfl dL_law_7 ?_
  refine n_new C (c := 9) rfl (by decide) tyX9 tyX9_ok (by decide) inbX9 (List.forall_mem_cons.mpr ⟨w12 41 rfl, List.forall_mem_cons.mpr ⟨w12 42 rfl, List.forall_mem_cons.mpr ⟨w1 15 rfl, fun _ h => absurd h List.not_mem_nil⟩⟩⟩) (by show σ.1 + 106 < 900; omega) (by rw [hRm]; decide) (by rw [hRm]; decide) dL_law_8 ?_
  refine n_dup C rfl dL_law_11 ?_
  refine n_ci C (d := 1) (mc := 20) (ms := 1374) (by rw [hRm]; decide) (by rw [hRm]; decide) (by rw [hRm]; decide) (by rw [hRm]; decide) ci_L_12 (by decide) (k := σ.1 + 106) [] rfl (s_X9_init (((KP.rf : KP (c_L_law_s3 σ) (c_L_law_s3 σ)).2 _ (Nat.lt_succ_self _)).1.trans up_s) (by show σ.1 + 106 < σ.1 + 107; omega) (by show σ.1 + 107 + 20 < 900; omega)) (Nat.le_of_ble_eq_true rfl) dL_law_12 rfl ?_
  refine n_astore_n C (lv' := [(2, .ref (nad B (σ.1 + 106))), (1, .ref (nad B (σ.1))), (0, .ref b)]) rfl (by decide) rfl dL_law_15 ?_
  exact hfin
