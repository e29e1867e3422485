/-! ===== Preconditions.checkIndex and String.checkIndex ===== -/
section VCHK
variable {α β γ : Type} {x : CX} {G : GT} {Z : ZT} {cs : Nat × Nat} {nL : Nat} {Q : Option Value → MT → State → Prop} {J : α → Option Value × MT} {pc : Nat} {lv : List (Nat × Value)} {st : List Value} {μ : MT} {o : Option β} {f : β → Option α} {cc : ByteArray} {Ts : List Cond} {own : String}
theorem v_csRv (C : CF x G Z cc nL BG own) {d np : Nat} (hR : RO x cs (d + 1)) {y : MethodName} {bytes : ByteArray} {n : Nat} {rt : Option FieldType} {index : Nat} (cw : CWs own index y bytes n rt np) (hn40 : n ≤ 40) (av : List Value) (hnp : av.length = np) {oc : Option Unit} {g : Unit → Option β}
    (hM : ∀ r : Unit, oc = some r → MZ x.2.1 G Z y bytes n rt d av μ none μ) (hst : (st.map fun v => v.category).sum ≤ 8) (hd : decode cc pc = .ok (.invokestatic index, 3)) {st0 : List Value} (hs : st0 = av.reverse ++ st)
    (kk : ∀ r, VK x G Z cs nL Q J (pc + 3) lv st μ (g r) f) : VK x G Z cs nL Q J pc lv st0 μ (oc.bind g) f :=
  v_cs C hR cw hn40 (J' := fun _ : Unit => (none, μ)) hnp hM hst hd (fun b => kk b) hs
theorem v_sio (C : CF x G Z cc nL BG own) {index : Nat} (hl : Cond.fieldLink own index "jdk/internal/util/Preconditions" "SIOOBE_FORMATTER" "Ljava/util/function/BiFunction;" ∈ BG) (hd : decode cc pc = .ok (.getstatic index, 3)) (kk : ∀ v : Value, (v = .null ∨ ∃ t, v = .ref t) → VK x G Z cs nL Q J (pc + 3) lv (v :: st) μ o f) : VK x G Z cs nL Q J pc lv st μ o f := by
  intro a ha H locs ls hP hl2
  rcases C.2.2.2.2.2.2.1.2.2.2.2.2.2 with h | ⟨t, h⟩
  · exact va_gets C.1 C.2.1 h hP.2.1 C.2.2.2.1 (C.2.2.2.2.1 _ hl) (fun _ h => h) hd (kk _ (Or.inl rfl) a ha H locs ls hP hl2)
  · exact va_gets C.1 C.2.1 h hP.2.1 C.2.2.2.1 (C.2.2.2.2.1 _ hl) (fun _ h => h) hd (kk _ (Or.inr ⟨t, rfl⟩) a ha H locs ls hP hl2)
end VCHK
set_option maxRecDepth 20000 in
set_option maxHeartbeats 4000000 in
theorem s_J3_checkIndex_8e157 {l : Launch} (G : GT) (Z : ZT) (hG : DA G) (hZ : WT G Z) {i n : Int32} {v : Value} {μ : MT} {q : Int32} (hv : v = .null ∨ ∃ t, v = .ref t) (hq : m_J3_checkIndex_8e157 i n = some q) : MZ l G Z yJ3_checkIndex_8e157 cJ3_checkIndex_8e157 3 (some .int) 0 [.int i, .int n, v] μ (some (.int q)) μ := by
  rcases hv with rfl | ⟨t, rfl⟩
  · refine v_met (J := (fun r : Int32 => (some (.int r), μ))) hG hZ (by decide) (Nat.le_of_ble_eq_true rfl) hq ?_
    intro x C hR _ hr
    show VK x G Z (0, 0) 3 (QM x G Z) (fun r : Int32 => (some (.int r), μ)) 0 [(0, .int i), (1, .int n), (2, .null)] [] μ _ some
    unfold m_J3_checkIndex_8e157
    refine v_iload_n C (n := 0) rfl rfl dJ3_checkIndex_8e157_0 ?_
    refine v_iflt C (t := 9) dJ3_checkIndex_8e157_1 (by decide) v_none ?_
    refine v_iload_n C (n := 0) rfl rfl dJ3_checkIndex_8e157_4 ?_
    refine v_iload_n C (n := 1) rfl rfl dJ3_checkIndex_8e157_5 ?_
    refine v_iclt C (t := 16) dJ3_checkIndex_8e157_6 (by decide) ?_ v_none
    refine v_iload_n C (n := 0) rfl rfl dJ3_checkIndex_8e157_16 ?_
    exact v_iret C hr dJ3_checkIndex_8e157_17 (fun a h => by cases h; rfl)
  · refine v_met (J := (fun r : Int32 => (some (.int r), μ))) hG hZ (by decide) (Nat.le_of_ble_eq_true rfl) hq ?_
    intro x C hR _ hr
    show VK x G Z (0, 0) 3 (QM x G Z) (fun r : Int32 => (some (.int r), μ)) 0 [(0, .int i), (1, .int n), (2, .ref t)] [] μ _ some
    unfold m_J3_checkIndex_8e157
    refine v_iload_n C (n := 0) rfl rfl dJ3_checkIndex_8e157_0 ?_
    refine v_iflt C (t := 9) dJ3_checkIndex_8e157_1 (by decide) v_none ?_
    refine v_iload_n C (n := 0) rfl rfl dJ3_checkIndex_8e157_4 ?_
    refine v_iload_n C (n := 1) rfl rfl dJ3_checkIndex_8e157_5 ?_
    refine v_iclt C (t := 16) dJ3_checkIndex_8e157_6 (by decide) ?_ v_none
    refine v_iload_n C (n := 0) rfl rfl dJ3_checkIndex_8e157_16 ?_
    exact v_iret C hr dJ3_checkIndex_8e157_17 (fun a h => by cases h; rfl)
set_option maxRecDepth 20000 in
set_option maxHeartbeats 4000000 in
theorem s_J0_checkIndex_df160 {l : Launch} (G : GT) (Z : ZT) (hG : DA G) (hZ : WT G Z) {i n : Int32} {μ : MT} {q : Unit} (hq : m_J0_checkIndex_df160 Z i n μ = some q) : MZ l G Z yJ0_checkIndex_df160 cJ0_checkIndex_df160 2 none 1 [.int i, .int n] μ none μ := by
  refine v_met (J := (fun _ : Unit => (none, μ))) hG hZ (by decide) (Nat.le_of_ble_eq_true rfl) hq ?_
  intro x C hR _ hr
  show VK x G Z (0, 0) 2 (QM x G Z) (fun _ : Unit => (none, μ)) 0 [(0, .int i), (1, .int n)] [] μ _ some
  unfold m_J0_checkIndex_df160
  refine v_iload_n C (n := 0) rfl rfl dJ0_checkIndex_df160_0 ?_
  refine v_iload_n C (n := 1) rfl rfl dJ0_checkIndex_df160_1 ?_
  refine v_sio C (w6 13 rfl) dJ0_checkIndex_df160_2 (fun v hv => ?_)
  refine v_csRi C (d := 0) (hR.le (by decide)) (show CWs RJ0 1059 yJ3_checkIndex_8e157 cJ3_checkIndex_8e157 3 (some .int) 3 from ⟨List.forall_mem_cons.mpr ⟨w6 14 rfl, List.forall_mem_cons.mpr ⟨w6 15 rfl, List.forall_mem_cons.mpr ⟨w1 19 rfl, List.forall_mem_cons.mpr ⟨w6 16 rfl, fun _ h => absurd h List.not_mem_nil⟩⟩⟩⟩, by decide, by decide, by decide +kernel⟩) (by decide) [.int i, .int n, v] rfl (fun _ hc => s_J3_checkIndex_8e157 G Z hG hZ hv hc) (Nat.le_of_ble_eq_true rfl) dJ0_checkIndex_df160_5 rfl (fun r => ?_)
  refine v_pop C rfl dJ0_checkIndex_df160_8 ?_
  exact v_vret C hr dJ0_checkIndex_df160_9 (fun a h => by cases h; rfl)
