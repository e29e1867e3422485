set_option maxRecDepth 20000 in
set_option maxHeartbeats 4000000 in
theorem s_X2_off {l : Launch} (G : GT) (Z : ZT) (hG : DA G) (hZ : WT G Z) {this : Nat} {μ : MT} {q : Int32} (ht : Ob G Z this 2) (hq : m_X2_off Z this μ = some q) : MZ l G Z yX2_off cX2_off 6 (some .int) 1 [.ref (ga G this)] μ (some (.int q)) μ := by
  refine v_met (J := (fun r : Int32 => (some (.int r), μ))) hG hZ (by decide) (Nat.le_of_ble_eq_true rfl) hq ?_
  intro x C hR _ hr
  show VK x G Z (0, 0) 6 (QM x G Z) (fun r : Int32 => (some (.int r), μ)) 0 [(0, .ref (ga G this))] [] μ _ some
  unfold m_X2_off
  refine v_aload_n C (n := 0) rfl rfl dX2_off_0 ?_
  refine v_aload_n C (n := 0) rfl rfl dX2_off_1 ?_
  refine v_geti C fl_X2_34 rfl ht dX2_off_2 ?_
  refine v_cvRi C (d := 0) (hR.le (by omega)) (c := 2) rfl cv_X2_132 (by decide) ht (by decide) [.int (μ this 7)] rfl (fun _ hc => s_X2_heightAt G Z hG hZ   ht hc) (Nat.le_of_ble_eq_true rfl) dX2_off_5 rfl (fun r1 => ?_)
  refine v_istore_n C (lv' := [(1, .int r1), (0, .ref (ga G this))]) rfl (by decide) rfl dX2_off_8 ?_
  refine v_iconst C (v := 0) (by decide) dX2_off_9 ?_
  refine v_istore_n C (lv' := [(2, .int 0), (1, .int r1), (0, .ref (ga G this))]) rfl (by decide) rfl dX2_off_10 ?_
  refine v_iconst C (v := 0) (by decide) dX2_off_11 ?_
  refine v_istore_n C (lv' := [(3, .int 0), (2, .int 0), (1, .int r1), (0, .ref (ga G this))]) rfl (by decide) rfl dX2_off_12 ?_
  refine v_iconst C (v := 0) (by decide) dX2_off_13 ?_
  refine v_istore C (lv' := [(4, .int 0), (3, .int 0), (2, .int 0), (1, .int r1), (0, .ref (ga G this))]) (by decide) rfl dX2_off_14 ?_
  refine v_iconst C (v := 0) (by decide) dX2_off_16 ?_
  refine v_istore C (lv' := [(5, .int 0), (4, .int 0), (3, .int 0), (2, .int 0), (1, .int r1), (0, .ref (ga G this))]) (by decide) rfl dX2_off_17 ?_
  refine v_sub (lv' := [(0, .ref (ga G this)), (1, .int r1), (2, .int 0), (3, .int 0), (4, .int 0), (5, .int 0)]) [5, 4, 3, 2, 1, 0] rfl ?_
  refine v_lp 19 71 (fun t : Int32 × Int32 × Int32 × Int32 => [(0, .ref (ga G this)), (1, .int r1), (2, .int (t.1)), (3, .int (t.2.1)), (4, .int (t.2.2.1)), (5, .int (t.2.2.2))]) (fun t : Int32 × Int32 × Int32 × Int32 => μ) (fun t : Int32 => [(0, .ref (ga G this)), (4, .int t)]) (fun t : Int32 => μ) ?_ ?_ LN (0, 0, 0, 0)
  · intro y6
    refine v_aload_n C (n := 0) rfl rfl dX2_off_71 ?_
    refine v_geti C fl_X2_34 rfl ht dX2_off_72 ?_
    refine v_ifle C (t := 88) dX2_off_75 (by decide) ?_ ?_
    · refine v_iconst C (v := 0) (by decide) dX2_off_88 ?_
      exact v_iret C hr dX2_off_89 (fun a h => by have h := Option.some.inj h; subst h; rfl)
    · refine v_iload C (n := 1) rfl dX2_off_78 ?_
      refine v_aload_n C (n := 0) rfl rfl dX2_off_80 ?_
      refine v_geti C fl_X2_34 rfl ht dX2_off_81 ?_
      refine v_idiv C dX2_off_84 (fun x11 => ?_)
      refine v_goto C (t := 89) (by decide) dX2_off_85 ?_
      exact v_iret C hr dX2_off_89 (fun a h => by have h := Option.some.inj h; subst h; rfl)
  · intro X7 F9 hX8 hF10
    rintro ⟨y2, y3, y4, y5⟩
    refine v_iload C (n := 5) rfl dX2_off_19 ?_
    refine v_aload_n C (n := 0) rfl rfl dX2_off_21 ?_
    refine v_geti C fl_X2_34 rfl ht dX2_off_22 ?_
    refine v_icge C (t := 71) dX2_off_25 (by decide) ?_ ?_
    · refine v_sub (lv' := [(0, .ref (ga G this)), (4, .int y4)]) [0, 4] rfl ?_
      exact v_leaf (hF10 y4)
    · refine v_iload_n C (n := 2) rfl rfl dX2_off_28 ?_
      refine v_aload_n C (n := 0) rfl rfl dX2_off_29 ?_
      refine v_getr C (t := 20) fl_X2_21 rfl rfl ht dX2_off_30 (fun h12 => ?_)
      refine v_iload C (n := 5) rfl dX2_off_33 ?_
      refine v_iald C h12.oa dX2_off_35 (fun x13 => ?_)
      refine v_iadd C dX2_off_36 ?_
      refine v_istore_n C (lv' := [(2, .int (y2 + x13)), (0, .ref (ga G this)), (1, .int r1), (3, .int y3), (4, .int y4), (5, .int y5)]) rfl (by decide) rfl dX2_off_37 ?_
      refine v_let (y := (y2 + x13)) (fun x14 => [(2, .int x14), (0, .ref (ga G this)), (1, .int r1), (3, .int y3), (4, .int y4), (5, .int y5)]) (fun x14 => []) (fun x14 => ?_)
      refine v_iload_n C (n := 3) rfl rfl dX2_off_38 ?_
      refine v_iload_n C (n := 0) rfl rfl dX2_off_39 ?_
      refine v_iadd C dX2_off_40 ?_
      refine v_istore_n C (lv' := [(3, .int (y3 + x14)), (2, .int x14), (0, .ref (ga G this)), (1, .int r1), (4, .int y4), (5, .int y5)]) rfl (by decide) rfl dX2_off_41 ?_
      refine v_let (y := (y3 + x14)) (fun x15 => [(3, .int x15), (2, .int x14), (0, .ref (ga G this)), (1, .int r1), (4, .int y4), (5, .int y5)]) (fun x15 => []) (fun x15 => ?_)
      refine v_iload C (n := 4) rfl dX2_off_42 ?_
      refine v_aload_n C (n := 2) rfl rfl dX2_off_44 ?_
      refine v_geti C fl_X2_34 rfl ht dX2_off_45 ?_
      refine v_iload_n C (n := 0) rfl rfl dX2_off_48 ?_
      refine v_imul C dX2_off_49 ?_
      refine v_iload C (n := 5) rfl dX2_off_50 ?_
      refine v_iconst C (v := 1) (by decide) dX2_off_52 ?_
      refine v_iadd C dX2_off_53 ?_
      refine v_iload_n C (n := 3) rfl rfl dX2_off_54 ?_
      refine v_imul C dX2_off_55 ?_
      refine v_isub C dX2_off_56 ?_
      refine v_mabs C (hR.le (by omega)) cm_X2_135 (Nat.le_of_ble_eq_true rfl) dX2_off_57 ?_
      refine v_mmax C (hR.le (by omega)) cm_X2_138 (Nat.le_of_ble_eq_true rfl) dX2_off_60 ?_
      refine v_istore C (lv' := [(4, .int (imax y4 (iabs (((μ this 7) * x15) - ((y5 + 1) * r1))))), (3, .int x15), (2, .int x14), (0, .ref (ga G this)), (1, .int r1), (5, .int y5)]) (by decide) rfl dX2_off_63 ?_
      refine v_let (y := (imax y4 (iabs (((μ this 7) * x15) - ((y5 + 1) * r1))))) (fun x16 => [(4, .int x16), (3, .int x15), (2, .int x14), (0, .ref (ga G this)), (1, .int r1), (5, .int y5)]) (fun x16 => []) (fun x16 => ?_)
      refine v_iinc C (n := 5) (v := y5 + 1) (lv' := [(5, .int (y5 + 1)), (4, .int x16), (3, .int x15), (2, .int x14), (0, .ref (ga G this)), (1, .int r1)]) rfl (congrArg (y5 + ·) (by decide : Int32.ofInt (1) = (1 : Int32))) (by decide) rfl dX2_off_65 ?_
      refine v_let (y := y5 + 1) (fun x17 => [(5, .int x17), (4, .int x16), (3, .int x15), (2, .int x14), (0, .ref (ga G this)), (1, .int r1)]) (fun x17 => []) (fun x17 => ?_)
      refine v_goto C (t := 19) (by decide) dX2_off_68 ?_
      refine v_sub (lv' := [(0, .ref (ga G this)), (1, .int r1), (2, .int x14), (3, .int x15), (4, .int x16), (5, .int x17)]) [4, 5, 3, 2, 1, 0] rfl ?_
      exact v_leaf (hX8 (x14, x15, x16, x17))
set_option maxRecDepth 20000 in
set_option maxHeartbeats 4000000 in
theorem s_X3_clear {l : Launch} (G : GT) (Z : ZT) (hG : DA G) (hZ : WT G Z) {this : Nat} {μ : MT} {q : MT} (ht : Ob G Z this 3) (hq : m_X3_clear Z this μ = some q) : MZ l G Z yX3_clear cX3_clear 1 none 1 [.ref (ga G this)] μ none q := by
  refine v_met (J := (fun ν : MT => ((none : Option Value), ν))) hG hZ (by decide) (Nat.le_of_ble_eq_true rfl) hq ?_
  intro x C hR _ hr
  show VK x G Z (0, 0) 1 (QM x G Z) (fun ν : MT => ((none : Option Value), ν)) 0 [(0, .ref (ga G this))] [] μ _ some
  unfold m_X3_clear
  refine v_aload_n C (n := 0) rfl rfl dX3_clear_0 ?_
  refine v_iconst C (v := 0) (by decide) dX3_clear_1 ?_
  refine v_puti C fp_X3_9 rfl rfl ht dX3_clear_2 (fun ν1 => ?_)
  refine v_aload_n C (n := 0) rfl rfl dX3_clear_5 ?_
  refine v_iconst C (v := 0) (by decide) dX3_clear_6 ?_
  refine v_puti C fp_X3_15 rfl rfl ht dX3_clear_7 (fun ν2 => ?_)
  refine v_aload_n C (n := 0) rfl rfl dX3_clear_10 ?_
  refine v_iconst C (v := 0) (by decide) dX3_clear_11 ?_
  refine v_puti C fp_X3_18 rfl rfl ht dX3_clear_12 (fun ν3 => ?_)
  refine v_aload_n C (n := 0) rfl rfl dX3_clear_15 ?_
  refine v_iconst C (v := 0) (by decide) dX3_clear_16 ?_
  refine v_puti C fp_X3_21 rfl rfl ht dX3_clear_17 (fun ν4 => ?_)
  refine v_aload_n C (n := 0) rfl rfl dX3_clear_20 ?_
  refine v_getr C (t := 20) fl_X3_40 rfl rfl ht dX3_clear_21 (fun h5 => ?_)
  refine v_iconst C (v := 0) (by decide) dX3_clear_24 ?_
  refine v_csIv C (d := 0) (hR.le (by omega)) cs_X3_43 (by decide) [.ref (ga G (zr Z this 9)), .int 0] rfl (fun _ hc => s_J7_fill_53178 G Z hG hZ   h5 hc) (Nat.le_of_ble_eq_true rfl) dX3_clear_25 rfl (fun ν6 => ?_)
  exact v_vret C hr dX3_clear_28 (fun a h => by have h := Option.some.inj h; subst h; rfl)
set_option maxRecDepth 20000 in
set_option maxHeartbeats 4000000 in
theorem s_X3_isStep {l : Launch} (G : GT) (Z : ZT) (hG : DA G) (hZ : WT G Z) {this : Nat} {a0 : Int32} {μ : MT} {q : Int32} (ht : Ob G Z this 3) (hq : m_X3_isStep Z this a0 μ = some q) : MZ l G Z yX3_isStep cX3_isStep 2 (some .boolean) 1 [.ref (ga G this), .int a0] μ (some (.int q)) μ := by
  refine v_met (J := (fun r : Int32 => (some (.int r), μ))) hG hZ (by decide) (Nat.le_of_ble_eq_true rfl) hq ?_
  intro x C hR _ hr
  show VK x G Z (0, 0) 2 (QM x G Z) (fun r : Int32 => (some (.int r), μ)) 0 [(0, .ref (ga G this)), (1, .int a0)] [] μ _ some
  unfold m_X3_isStep
  refine v_aload_n C (n := 0) rfl rfl dX3_isStep_0 ?_
  refine v_iload_n C (n := 1) rfl rfl dX3_isStep_1 ?_
  refine v_cvRi C (d := 0) (hR.le (by omega)) (c := 3) rfl cv_X3_49 (by decide) ht (by decide) [.int a0] rfl (fun _ hc => s_X3_hasAct G Z hG hZ   ht hc) (Nat.le_of_ble_eq_true rfl) dX3_isStep_2 rfl (fun r1 => ?_)
  refine v_ifeq C (t := 23) dX3_isStep_5 (by decide) ?_ ?_
  · refine v_iconst C (v := 0) (by decide) dX3_isStep_23 ?_
    exact v_zret C (Or.inl rfl) hr dX3_isStep_24 (fun a h => by have h := Option.some.inj h; subst h; rfl)
  · refine v_aload_n C (n := 0) rfl rfl dX3_isStep_8 ?_
    refine v_getr C (t := 20) fl_X3_24 rfl rfl ht dX3_isStep_9 (fun h2 => ?_)
    refine v_iload_n C (n := 1) rfl rfl dX3_isStep_12 ?_
    refine v_iald C h2.oa dX3_isStep_13 (fun x3 => ?_)
    refine v_bipush C (v := 6) (by decide) dX3_isStep_14 ?_
    refine v_icgt C (t := 23) dX3_isStep_16 (by decide) ?_ ?_
    · refine v_iconst C (v := 0) (by decide) dX3_isStep_23 ?_
      exact v_zret C (Or.inl rfl) hr dX3_isStep_24 (fun a h => by have h := Option.some.inj h; subst h; rfl)
    · refine v_iconst C (v := 1) (by decide) dX3_isStep_19 ?_
      refine v_goto C (t := 24) (by decide) dX3_isStep_20 ?_
      exact v_zret C (Or.inr rfl) hr dX3_isStep_24 (fun a h => by have h := Option.some.inj h; subst h; rfl)
set_option maxRecDepth 20000 in
set_option maxHeartbeats 4000000 in
theorem s_X3_addBefore {l : Launch} (G : GT) (Z : ZT) (hG : DA G) (hZ : WT G Z) {this : Nat} {a0 : Int32} {a1 : Int32} {μ : MT} {q : MT} (ht : Ob G Z this 3) (hq : m_X3_addBefore Z this a0 a1 μ = some q) : MZ l G Z yX3_addBefore cX3_addBefore 3 none 1 [.ref (ga G this), .int a0, .int a1] μ none q := by
  refine v_met (J := (fun ν : MT => ((none : Option Value), ν))) hG hZ (by decide) (Nat.le_of_ble_eq_true rfl) hq ?_
  intro x C hR _ hr
  show VK x G Z (0, 0) 3 (QM x G Z) (fun ν : MT => ((none : Option Value), ν)) 0 [(0, .ref (ga G this)), (1, .int a0), (2, .int a1)] [] μ _ some
  unfold m_X3_addBefore
  refine v_aload_n C (n := 0) rfl rfl dX3_addBefore_0 ?_
  refine v_iload_n C (n := 1) rfl rfl dX3_addBefore_1 ?_
  refine v_cvRi C (d := 0) (hR.le (by omega)) (c := 3) rfl cv_X3_53 (by decide) ht (by decide) [.int a0] rfl (fun _ hc => s_X3_hasSeam G Z hG hZ   ht hc) (Nat.le_of_ble_eq_true rfl) dX3_addBefore_2 rfl (fun r1 => ?_)
  refine v_ifeq C (t := 38) dX3_addBefore_5 (by decide) ?_ ?_
  · exact v_vret C hr dX3_addBefore_38 (fun a h => by have h := Option.some.inj h; subst h; rfl)
  · refine v_aload_n C (n := 0) rfl rfl dX3_addBefore_8 ?_
    refine v_iload_n C (n := 2) rfl rfl dX3_addBefore_9 ?_
    refine v_cvRi C (d := 0) (hR.le (by omega)) (c := 3) rfl cv_X3_53 (by decide) ht (by decide) [.int a1] rfl (fun _ hc => s_X3_hasSeam G Z hG hZ   ht hc) (Nat.le_of_ble_eq_true rfl) dX3_addBefore_10 rfl (fun r2 => ?_)
    refine v_ifeq C (t := 38) dX3_addBefore_13 (by decide) ?_ ?_
    · exact v_vret C hr dX3_addBefore_38 (fun a h => by have h := Option.some.inj h; subst h; rfl)
    · refine v_aload_n C (n := 0) rfl rfl dX3_addBefore_16 ?_
      refine v_getr C (t := 20) fl_X3_40 rfl rfl ht dX3_addBefore_17 (fun h3 => ?_)
      refine v_iload_n C (n := 2) rfl rfl dX3_addBefore_20 ?_
      refine v_dup2 C rfl rfl dX3_addBefore_21 ?_
      refine v_iald C h3.oa dX3_addBefore_22 (fun x4 => ?_)
      refine v_iconst C (v := 1) (by decide) dX3_addBefore_23 ?_
      refine v_iload_n C (n := 1) rfl rfl dX3_addBefore_24 ?_
      refine v_ishl C dX3_addBefore_25 ?_
      refine v_ior C dX3_addBefore_26 ?_
      refine v_iast C h3 dX3_addBefore_27 (fun ν5 => ?_)
      refine v_aload_n C (n := 0) rfl rfl dX3_addBefore_28 ?_
      refine v_dup C rfl dX3_addBefore_29 ?_
      refine v_geti C fl_X3_21 rfl ht dX3_addBefore_30 ?_
      refine v_iconst C (v := 1) (by decide) dX3_addBefore_33 ?_
      refine v_iadd C dX3_addBefore_34 ?_
      refine v_puti C fp_X3_21 rfl rfl ht dX3_addBefore_35 (fun ν6 => ?_)
      exact v_vret C hr dX3_addBefore_38 (fun a h => by have h := Option.some.inj h; subst h; rfl)
set_option maxRecDepth 20000 in
set_option maxHeartbeats 4000000 in
theorem s_X3_endOfActs {l : Launch} (G : GT) (Z : ZT) (hG : DA G) (hZ : WT G Z) {this : Nat} {a0 : Int32} {μ : MT} {q : Int32} (ht : Ob G Z this 3) (hq : m_X3_endOfActs Z this a0 μ = some q) : MZ l G Z yX3_endOfActs cX3_endOfActs 2 (some .int) 1 [.ref (ga G this), .int a0] μ (some (.int q)) μ := by
  refine v_met (J := (fun r : Int32 => (some (.int r), μ))) hG hZ (by decide) (Nat.le_of_ble_eq_true rfl) hq ?_
  intro x C hR _ hr
  show VK x G Z (0, 0) 2 (QM x G Z) (fun r : Int32 => (some (.int r), μ)) 0 [(0, .ref (ga G this)), (1, .int a0)] [] μ _ some
  unfold m_X3_endOfActs
  refine v_aload_n C (n := 0) rfl rfl dX3_endOfActs_0 ?_
  refine v_iload_n C (n := 1) rfl rfl dX3_endOfActs_1 ?_
  refine v_cvRi C (d := 0) (hR.le (by omega)) (c := 3) rfl cv_X3_53 (by decide) ht (by decide) [.int a0] rfl (fun _ hc => s_X3_hasSeam G Z hG hZ   ht hc) (Nat.le_of_ble_eq_true rfl) dX3_endOfActs_2 rfl (fun r1 => ?_)
  refine v_ifeq C (t := 17) dX3_endOfActs_5 (by decide) ?_ ?_
  · refine v_iconst C (v := 0) (by decide) dX3_endOfActs_17 ?_
    exact v_iret C hr dX3_endOfActs_18 (fun a h => by have h := Option.some.inj h; subst h; rfl)
  · refine v_aload_n C (n := 0) rfl rfl dX3_endOfActs_8 ?_
    refine v_getr C (t := 20) fl_X3_37 rfl rfl ht dX3_endOfActs_9 (fun h2 => ?_)
    refine v_iload_n C (n := 1) rfl rfl dX3_endOfActs_12 ?_
    refine v_iald C h2.oa dX3_endOfActs_13 (fun x3 => ?_)
    refine v_goto C (t := 18) (by decide) dX3_endOfActs_14 ?_
    exact v_iret C hr dX3_endOfActs_18 (fun a h => by have h := Option.some.inj h; subst h; rfl)
set_option maxRecDepth 20000 in
set_option maxHeartbeats 4000000 in
theorem s_X3_mayFollow {l : Launch} (G : GT) (Z : ZT) (hG : DA G) (hZ : WT G Z) {this : Nat} {a0 : Int32} {a1 : Int32} {μ : MT} {q : Int32} (ht : Ob G Z this 3) (hq : m_X3_mayFollow Z this a0 a1 μ = some q) : MZ l G Z yX3_mayFollow cX3_mayFollow 3 (some .boolean) 1 [.ref (ga G this), .int a0, .int a1] μ (some (.int q)) μ := by
  refine v_met (J := (fun r : Int32 => (some (.int r), μ))) hG hZ (by decide) (Nat.le_of_ble_eq_true rfl) hq ?_
  intro x C hR _ hr
  show VK x G Z (0, 0) 3 (QM x G Z) (fun r : Int32 => (some (.int r), μ)) 0 [(0, .ref (ga G this)), (1, .int a0), (2, .int a1)] [] μ _ some
  unfold m_X3_mayFollow
  refine v_aload_n C (n := 0) rfl rfl dX3_mayFollow_0 ?_
  refine v_iload_n C (n := 1) rfl rfl dX3_mayFollow_1 ?_
  refine v_cvRi C (d := 0) (hR.le (by omega)) (c := 3) rfl cv_X3_53 (by decide) ht (by decide) [.int a0] rfl (fun _ hc => s_X3_hasSeam G Z hG hZ   ht hc) (Nat.le_of_ble_eq_true rfl) dX3_mayFollow_2 rfl (fun r1 => ?_)
  refine v_ifeq C (t := 33) dX3_mayFollow_5 (by decide) ?_ ?_
  · refine v_iconst C (v := 0) (by decide) dX3_mayFollow_33 ?_
    exact v_zret C (Or.inl rfl) hr dX3_mayFollow_34 (fun a h => by have h := Option.some.inj h; subst h; rfl)
  · refine v_iload_n C (n := 2) rfl rfl dX3_mayFollow_8 ?_
    refine v_iload_n C (n := 1) rfl rfl dX3_mayFollow_9 ?_
    refine v_ishr C dX3_mayFollow_10 ?_
    refine v_iconst C (v := 1) (by decide) dX3_mayFollow_11 ?_
    refine v_iand C dX3_mayFollow_12 ?_
    refine v_ifne C (t := 33) dX3_mayFollow_13 (by decide) ?_ ?_
    · refine v_iconst C (v := 0) (by decide) dX3_mayFollow_33 ?_
      exact v_zret C (Or.inl rfl) hr dX3_mayFollow_34 (fun a h => by have h := Option.some.inj h; subst h; rfl)
    · refine v_aload_n C (n := 0) rfl rfl dX3_mayFollow_16 ?_
      refine v_getr C (t := 20) fl_X3_40 rfl rfl ht dX3_mayFollow_17 (fun h2 => ?_)
      refine v_iload_n C (n := 1) rfl rfl dX3_mayFollow_20 ?_
      refine v_iald C h2.oa dX3_mayFollow_21 (fun x3 => ?_)
      refine v_iload_n C (n := 2) rfl rfl dX3_mayFollow_22 ?_
      refine v_iconst C (v := (-1)) (by decide) dX3_mayFollow_23 ?_
      refine v_ixor C dX3_mayFollow_24 ?_
      refine v_iand C dX3_mayFollow_25 ?_
      refine v_ifne C (t := 33) dX3_mayFollow_26 (by decide) ?_ ?_
      · refine v_iconst C (v := 0) (by decide) dX3_mayFollow_33 ?_
        exact v_zret C (Or.inl rfl) hr dX3_mayFollow_34 (fun a h => by have h := Option.some.inj h; subst h; rfl)
      · refine v_iconst C (v := 1) (by decide) dX3_mayFollow_29 ?_
        refine v_goto C (t := 34) (by decide) dX3_mayFollow_30 ?_
        exact v_zret C (Or.inr rfl) hr dX3_mayFollow_34 (fun a h => by have h := Option.some.inj h; subst h; rfl)
set_option maxRecDepth 20000 in
set_option maxHeartbeats 4000000 in
theorem s_X6_findingAt {l : Launch} (G : GT) (Z : ZT) (hG : DA G) (hZ : WT G Z) {this : Nat} {a0 : Int32} {a1 : Int32} {a2 : Int32} {μ : MT} {q : Int32} (ht : Ob G Z this 6) (hq : m_X6_findingAt Z this a0 a1 a2 μ = some q) : MZ l G Z yX6_findingAt cX6_findingAt 4 (some .int) 1 [.ref (ga G this), .int a0, .int a1, .int a2] μ (some (.int q)) μ := by
  refine v_met (J := (fun r : Int32 => (some (.int r), μ))) hG hZ (by decide) (Nat.le_of_ble_eq_true rfl) hq ?_
  intro x C hR _ hr
  show VK x G Z (0, 0) 4 (QM x G Z) (fun r : Int32 => (some (.int r), μ)) 0 [(0, .ref (ga G this)), (1, .int a0), (2, .int a1), (3, .int a2)] [] μ _ some
  unfold m_X6_findingAt
  refine v_aload_n C (n := 0) rfl rfl dX6_findingAt_0 ?_
  refine v_iload_n C (n := 1) rfl rfl dX6_findingAt_1 ?_
  refine v_cvRi C (d := 0) (hR.le (by omega)) (c := 6) rfl cv_X6_29 (by decide) ht (by decide) [.int a0] rfl (fun _ hc => s_X6_isMissing G Z hG hZ   ht hc) (Nat.le_of_ble_eq_true rfl) dX6_findingAt_2 rfl (fun r1 => ?_)
  refine v_ifeq C (t := 10) dX6_findingAt_5 (by decide) ?_ ?_
  · refine v_iload_n C (n := 2) rfl rfl dX6_findingAt_10 ?_
    refine v_joinm 30 (fun t : Unit => []) (fun t : Unit => []) (fun t : Unit => μ) ?_ ?_
    · rintro ⟨⟩
      refine v_iconst C (v := 2) (by decide) dX6_findingAt_30 ?_
      refine v_goto C (t := 35) (by decide) dX6_findingAt_31 ?_
      exact v_iret C hr dX6_findingAt_35 (fun a h => by have h := Option.some.inj h; subst h; rfl)
    intro F3 e4 hF2
    refine v_iflt C (t := 30) dX6_findingAt_11 (by decide) ?_ ?_
    · refine v_sub (lv' := []) [] rfl ?_
      exact v_leaf (hF2 ())
    · refine v_iload_n C (n := 3) rfl rfl dX6_findingAt_14 ?_
      refine v_iflt C (t := 30) dX6_findingAt_15 (by decide) ?_ ?_
      · refine v_sub (lv' := []) [] rfl ?_
        exact v_leaf (hF2 ())
      · refine v_iload_n C (n := 2) rfl rfl dX6_findingAt_18 ?_
        refine v_aload_n C (n := 0) rfl rfl dX6_findingAt_19 ?_
        refine v_getr C (t := 20) fl_X6_15 rfl rfl ht dX6_findingAt_20 (fun h5 => ?_)
        refine v_iload_n C (n := 1) rfl rfl dX6_findingAt_23 ?_
        refine v_iald C h5.oa dX6_findingAt_24 (fun x6 => ?_)
        refine v_iload_n C (n := 3) rfl rfl dX6_findingAt_25 ?_
        refine v_isub C dX6_findingAt_26 ?_
        refine v_icle C (t := 34) dX6_findingAt_27 (by decide) ?_ ?_
        · refine v_iconst C (v := 0) (by decide) dX6_findingAt_34 ?_
          exact v_iret C hr dX6_findingAt_35 (fun a h => by simp only [ob_s, lq, e4] at h; have h := Option.some.inj h; subst h; rfl)
        · refine v_sub (lv' := []) [] rfl ?_
          exact v_leaf (hF2 ())
  · refine v_iconst C (v := 1) (by decide) dX6_findingAt_8 ?_
    exact v_iret C hr dX6_findingAt_9 (fun a h => by have h := Option.some.inj h; subst h; rfl)
set_option maxRecDepth 20000 in
set_option maxHeartbeats 4000000 in
theorem s_X6_findingBetween {l : Launch} (G : GT) (Z : ZT) (hG : DA G) (hZ : WT G Z) {this : Nat} {a0 : Int32} {a1 : Int32} {μ : MT} {q : Int32} (ht : Ob G Z this 6) (hq : m_X6_findingBetween Z this a0 a1 μ = some q) : MZ l G Z yX6_findingBetween cX6_findingBetween 3 (some .int) 1 [.ref (ga G this), .int a0, .int a1] μ (some (.int q)) μ := by
  refine v_met (J := (fun r : Int32 => (some (.int r), μ))) hG hZ (by decide) (Nat.le_of_ble_eq_true rfl) hq ?_
  intro x C hR _ hr
  show VK x G Z (0, 0) 3 (QM x G Z) (fun r : Int32 => (some (.int r), μ)) 0 [(0, .ref (ga G this)), (1, .int a0), (2, .int a1)] [] μ _ some
  unfold m_X6_findingBetween
  refine v_aload_n C (n := 0) rfl rfl dX6_findingBetween_0 ?_
  refine v_iload_n C (n := 1) rfl rfl dX6_findingBetween_1 ?_
  refine v_cvRi C (d := 0) (hR.le (by omega)) (c := 6) rfl cv_X6_29 (by decide) ht (by decide) [.int a0] rfl (fun _ hc => s_X6_isMissing G Z hG hZ   ht hc) (Nat.le_of_ble_eq_true rfl) dX6_findingBetween_2 rfl (fun r1 => ?_)
  refine v_ifne C (t := 16) dX6_findingBetween_5 (by decide) ?_ ?_
  · refine v_iconst C (v := 1) (by decide) dX6_findingBetween_16 ?_
    exact v_iret C hr dX6_findingBetween_17 (fun a h => by have h := Option.some.inj h; subst h; rfl)
  · refine v_aload_n C (n := 0) rfl rfl dX6_findingBetween_8 ?_
    refine v_iload_n C (n := 2) rfl rfl dX6_findingBetween_9 ?_
    refine v_cvRi C (d := 0) (hR.le (by omega)) (c := 6) rfl cv_X6_29 (by decide) ht (by decide) [.int a1] rfl (fun _ hc => s_X6_isMissing G Z hG hZ   ht hc) (Nat.le_of_ble_eq_true rfl) dX6_findingBetween_10 rfl (fun r2 => ?_)
    refine v_ifeq C (t := 18) dX6_findingBetween_13 (by decide) ?_ ?_
    · refine v_aload_n C (n := 0) rfl rfl dX6_findingBetween_18 ?_
      refine v_getr C (t := 20) fl_X6_9 rfl rfl ht dX6_findingBetween_19 (fun h3 => ?_)
      refine v_iload_n C (n := 1) rfl rfl dX6_findingBetween_22 ?_
      refine v_iald C h3.oa dX6_findingBetween_23 (fun x4 => ?_)
      refine v_aload_n C (n := 0) rfl rfl dX6_findingBetween_24 ?_
      refine v_getr C (t := 20) fl_X6_9 rfl rfl ht dX6_findingBetween_25 (fun h5 => ?_)
      refine v_iload_n C (n := 2) rfl rfl dX6_findingBetween_28 ?_
      refine v_iald C h5.oa dX6_findingBetween_29 (fun x6 => ?_)
      refine v_iceq C (t := 37) dX6_findingBetween_30 (by decide) ?_ ?_
      · refine v_iconst C (v := 0) (by decide) dX6_findingBetween_37 ?_
        exact v_iret C hr dX6_findingBetween_38 (fun a h => by have h := Option.some.inj h; subst h; rfl)
      · refine v_iconst C (v := 5) (by decide) dX6_findingBetween_33 ?_
        refine v_goto C (t := 38) (by decide) dX6_findingBetween_34 ?_
        exact v_iret C hr dX6_findingBetween_38 (fun a h => by have h := Option.some.inj h; subst h; rfl)
    · refine v_iconst C (v := 1) (by decide) dX6_findingBetween_16 ?_
      exact v_iret C hr dX6_findingBetween_17 (fun a h => by have h := Option.some.inj h; subst h; rfl)
set_option maxRecDepth 20000 in
set_option maxHeartbeats 4000000 in
theorem s_X6_lay {l : Launch} (G : GT) (Z : ZT) (hG : DA G) (hZ : WT G Z) {this : Nat} {a0 : Int32} {a1 : Int32} {a2 : Int32} {μ : MT} {q : MT} (ht : Ob G Z this 6) (hq : m_X6_lay Z this a0 a1 a2 μ = some q) : MZ l G Z yX6_lay cX6_lay 4 none 1 [.ref (ga G this), .int a0, .int a1, .int a2] μ none q := by
  refine v_met (J := (fun ν : MT => ((none : Option Value), ν))) hG hZ (by decide) (Nat.le_of_ble_eq_true rfl) hq ?_
  intro x C hR _ hr
  show VK x G Z (0, 0) 4 (QM x G Z) (fun ν : MT => ((none : Option Value), ν)) 0 [(0, .ref (ga G this)), (1, .int a0), (2, .int a1), (3, .int a2)] [] μ _ some
  unfold m_X6_lay
  refine v_aload_n C (n := 0) rfl rfl dX6_lay_0 ?_
  refine v_getr C (t := 20) fl_X6_9 rfl rfl ht dX6_lay_1 (fun h1 => ?_)
  refine v_iload_n C (n := 1) rfl rfl dX6_lay_4 ?_
  refine v_iload_n C (n := 2) rfl rfl dX6_lay_5 ?_
  refine v_iast C h1 dX6_lay_6 (fun ν2 => ?_)
  refine v_aload_n C (n := 0) rfl rfl dX6_lay_7 ?_
  refine v_getr C (t := 20) fl_X6_15 rfl rfl ht dX6_lay_8 (fun h3 => ?_)
  refine v_iload_n C (n := 1) rfl rfl dX6_lay_11 ?_
  refine v_iload_n C (n := 3) rfl rfl dX6_lay_12 ?_
  refine v_iast C h3 dX6_lay_13 (fun ν4 => ?_)
  refine v_aload_n C (n := 0) rfl rfl dX6_lay_14 ?_
  refine v_getr C (t := 23) fl_X6_20 rfl rfl ht dX6_lay_15 (fun h5 => ?_)
  refine v_iload_n C (n := 1) rfl rfl dX6_lay_18 ?_
  refine v_aaldI C h5 dX6_lay_19 (fun q6 h7 => ?_)
  refine v_iconst C (v := 0) (by decide) dX6_lay_20 ?_
  refine v_csIv C (d := 0) (hR.le (by omega)) cs_X6_23 (by decide) [.ref (ga G q6), .int 0] rfl (fun _ hc => s_J7_fill_53178 G Z hG hZ   h7 hc) (Nat.le_of_ble_eq_true rfl) dX6_lay_21 rfl (fun ν8 => ?_)
  exact v_vret C hr dX6_lay_24 (fun a h => by have h := Option.some.inj h; subst h; rfl)
set_option maxRecDepth 20000 in
set_option maxHeartbeats 4000000 in
theorem s_X6_put {l : Launch} (G : GT) (Z : ZT) (hG : DA G) (hZ : WT G Z) {this : Nat} {a0 : Int32} {a1 : Int32} {a2 : Int32} {μ : MT} {q : Int32 × MT} (ht : Ob G Z this 6) (hq : m_X6_put Z this a0 a1 a2 μ = some q) : MZ l G Z yX6_put cX6_put 4 (some .int) 1 [.ref (ga G this), .int a0, .int a1, .int a2] μ (some (.int q.1)) q.2 := by
  refine v_met (J := (fun q : Int32 × MT => (some (.int q.1), q.2))) hG hZ (by decide) (Nat.le_of_ble_eq_true rfl) hq ?_
  intro x C hR _ hr
  show VK x G Z (0, 0) 4 (QM x G Z) (fun q : Int32 × MT => (some (.int q.1), q.2)) 0 [(0, .ref (ga G this)), (1, .int a0), (2, .int a1), (3, .int a2)] [] μ _ some
  unfold m_X6_put
  refine v_aload_n C (n := 0) rfl rfl dX6_put_0 ?_
  refine v_getr C (t := 23) fl_X6_20 rfl rfl ht dX6_put_1 (fun h1 => ?_)
  refine v_iload_n C (n := 1) rfl rfl dX6_put_4 ?_
  refine v_aaldI C h1 dX6_put_5 (fun q2 h3 => ?_)
  refine v_iload_n C (n := 2) rfl rfl dX6_put_6 ?_
  refine v_aload_n C (n := 0) rfl rfl dX6_put_7 ?_
  refine v_getr C (t := 20) fl_X6_9 rfl rfl ht dX6_put_8 (fun h4 => ?_)
  refine v_iload_n C (n := 1) rfl rfl dX6_put_11 ?_
  refine v_iald C h4.oa dX6_put_12 (fun x5 => ?_)
  refine v_iload_n C (n := 3) rfl rfl dX6_put_13 ?_
  refine v_csRi C (d := 0) (hR.le (by omega)) cs_X6_33 (by decide) [.int x5, .int a2] rfl (fun _ hc => s_X6_narrowed G Z hG hZ   hc) (Nat.le_of_ble_eq_true rfl) dX6_put_14 rfl (fun r6 => ?_)
  refine v_iast C h3 dX6_put_17 (fun ν7 => ?_)
  refine v_aload_n C (n := 0) rfl rfl dX6_put_18 ?_
  refine v_getr C (t := 23) fl_X6_20 rfl rfl ht dX6_put_19 (fun h8 => ?_)
  refine v_iload_n C (n := 1) rfl rfl dX6_put_22 ?_
  refine v_aaldI C h8 dX6_put_23 (fun q9 h10 => ?_)
  refine v_iload_n C (n := 2) rfl rfl dX6_put_24 ?_
  refine v_iald C h10.oa dX6_put_25 (fun x11 => ?_)
  exact v_iret C hr dX6_put_26 (fun a h => by have h := Option.some.inj h; subst h; rfl)
set_option maxRecDepth 20000 in
set_option maxHeartbeats 4000000 in
theorem s_X7_toNext {l : Launch} (G : GT) (Z : ZT) (hG : DA G) (hZ : WT G Z) {this : Nat} {μ : MT} {q : MT} (ht : Ob G Z this 7) (hq : m_X7_toNext Z this μ = some q) : MZ l G Z yX7_toNext cX7_toNext 1 none 1 [.ref (ga G this)] μ none q := by
  refine v_met (J := (fun ν : MT => ((none : Option Value), ν))) hG hZ (by decide) (Nat.le_of_ble_eq_true rfl) hq ?_
  intro x C hR _ hr
  show VK x G Z (0, 0) 1 (QM x G Z) (fun ν : MT => ((none : Option Value), ν)) 0 [(0, .ref (ga G this))] [] μ _ some
  unfold m_X7_toNext
  refine v_aload_n C (n := 0) rfl rfl dX7_toNext_0 ?_
  refine v_aload_n C (n := 0) rfl rfl dX7_toNext_1 ?_
  refine v_geti C fl_X7_22 rfl ht dX7_toNext_2 ?_
  refine v_puti C fp_X7_19 rfl rfl ht dX7_toNext_5 (fun ν1 => ?_)
  refine v_lp 8 60 (fun t : MT => [(0, .ref (ga G this))]) (fun t : MT => t) (fun t : MT => [(0, .ref (ga G this))]) (fun t : MT => t) ?_ ?_ LN ν1
  · intro ν3
    refine v_aload_n C (n := 0) rfl rfl dX7_toNext_60 ?_
    refine v_aload_n C (n := 0) rfl rfl dX7_toNext_61 ?_
    refine v_geti C fl_X7_19 rfl ht dX7_toNext_62 ?_
    refine v_aload_n C (n := 0) rfl rfl dX7_toNext_65 ?_
    refine v_geti C fl_X7_15 rfl ht dX7_toNext_66 ?_
    refine v_join 88 (fun t : Int32 => [(0, .ref (ga G this))]) (fun t : Int32 => [.int t, .ref (ga G this)]) (fun t : Int32 => ν3) ?_ ?_
    · intro z8
      refine v_puti C fp_X7_25 rfl rfl ht dX7_toNext_88 (fun ν11 => ?_)
      refine v_aload_n C (n := 0) rfl rfl dX7_toNext_91 ?_
      refine v_aload_n C (n := 0) rfl rfl dX7_toNext_92 ?_
      refine v_geti C fl_X7_19 rfl ht dX7_toNext_93 ?_
      refine v_aload_n C (n := 0) rfl rfl dX7_toNext_96 ?_
      refine v_geti C fl_X7_15 rfl ht dX7_toNext_97 ?_
      refine v_join 116 (fun t : Int32 => [(0, .ref (ga G this))]) (fun t : Int32 => [.int t, .ref (ga G this)]) (fun t : Int32 => ν11) ?_ ?_
      · intro z12
        refine v_puti C fp_X7_22 rfl rfl ht dX7_toNext_116 (fun ν15 => ?_)
        refine v_lp 119 178 (fun t : MT => [(0, .ref (ga G this))]) (fun t : MT => t) (fun t : MT => [(0, .ref (ga G this))]) (fun t : MT => t) ?_ ?_ LN ν15
        · intro ν17
          refine v_aload_n C (n := 0) rfl rfl dX7_toNext_178 ?_
          refine v_geti C fl_X7_25 rfl ht dX7_toNext_179 ?_
          refine v_iconst C (v := 2) (by decide) dX7_toNext_182 ?_
          refine v_icne C (t := 204) dX7_toNext_183 (by decide) ?_ ?_
          · exact v_vret C hr dX7_toNext_204 (fun a h => by have h := Option.some.inj h; subst h; rfl)
          · refine v_aload_n C (n := 0) rfl rfl dX7_toNext_186 ?_
            refine v_geti C fl_X7_22 rfl ht dX7_toNext_187 ?_
            refine v_aload_n C (n := 0) rfl rfl dX7_toNext_190 ?_
            refine v_geti C fl_X7_19 rfl ht dX7_toNext_191 ?_
            refine v_isub C dX7_toNext_194 ?_
            refine v_iconst C (v := 2) (by decide) dX7_toNext_195 ?_
            refine v_icle C (t := 204) dX7_toNext_196 (by decide) ?_ ?_
            · exact v_vret C hr dX7_toNext_204 (fun a h => by have h := Option.some.inj h; subst h; rfl)
            · refine v_aload_n C (n := 0) rfl rfl dX7_toNext_199 ?_
              refine v_iconst C (v := 4) (by decide) dX7_toNext_200 ?_
              refine v_puti C fp_X7_25 rfl rfl ht dX7_toNext_201 (fun ν22 => ?_)
              exact v_vret C hr dX7_toNext_204 (fun a h => by have h := Option.some.inj h; subst h; rfl)
        · intro X18 F20 hX19 hF21
          intro ν16
          refine v_aload_n C (n := 0) rfl rfl dX7_toNext_119 ?_
          refine v_geti C fl_X7_22 rfl ht dX7_toNext_120 ?_
          refine v_aload_n C (n := 0) rfl rfl dX7_toNext_123 ?_
          refine v_geti C fl_X7_15 rfl ht dX7_toNext_124 ?_
          refine v_icge C (t := 178) dX7_toNext_127 (by decide) ?_ ?_
          · exact v_leaf (hF21 ν16)
          · refine v_aload_n C (n := 0) rfl rfl dX7_toNext_130 ?_
            refine v_geti C fl_X7_25 rfl ht dX7_toNext_131 ?_
            refine v_iconst C (v := 1) (by decide) dX7_toNext_134 ?_
            refine v_joinm 146 (fun t : Unit => [(0, .ref (ga G this))]) (fun t : Unit => []) (fun t : Unit => ν16) ?_ ?_
            · rintro ⟨⟩
              refine v_aload_n C (n := 0) rfl rfl dX7_toNext_146 ?_
              refine v_getr C (t := 21) fl_X7_9 rfl rfl ht dX7_toNext_147 (fun h26 => ?_)
              refine v_aload_n C (n := 0) rfl rfl dX7_toNext_150 ?_
              refine v_geti C fl_X7_22 rfl ht dX7_toNext_151 ?_
              refine v_bald C h26 dX7_toNext_154 (fun x27 => ?_)
              refine v_csRi C (d := 0) (hR.le (by omega)) cs_X7_31 (by decide) [.int x27] rfl (fun _ hc => s_X7_sortOf G Z hG hZ   hc) (Nat.le_of_ble_eq_true rfl) dX7_toNext_155 rfl (fun r28 => ?_)
              refine v_aload_n C (n := 0) rfl rfl dX7_toNext_158 ?_
              refine v_geti C fl_X7_25 rfl ht dX7_toNext_159 ?_
              refine v_icne C (t := 178) dX7_toNext_162 (by decide) ?_ ?_
              · exact v_leaf (hF21 ν16)
              · refine v_aload_n C (n := 0) rfl rfl dX7_toNext_165 ?_
                refine v_dup C rfl dX7_toNext_166 ?_
                refine v_geti C fl_X7_22 rfl ht dX7_toNext_167 ?_
                refine v_iconst C (v := 1) (by decide) dX7_toNext_170 ?_
                refine v_iadd C dX7_toNext_171 ?_
                refine v_puti C fp_X7_22 rfl rfl ht dX7_toNext_172 (fun ν29 => ?_)
                refine v_goto C (t := 119) (by decide) dX7_toNext_175 ?_
                exact v_leaf (hX19 ν29)
            intro F24 e25 hF23
            refine v_iceq C (t := 146) dX7_toNext_135 (by decide) ?_ ?_
            · exact v_leaf (hF23 ())
            · refine v_aload_n C (n := 0) rfl rfl dX7_toNext_138 ?_
              refine v_geti C fl_X7_25 rfl ht dX7_toNext_139 ?_
              refine v_iconst C (v := 2) (by decide) dX7_toNext_142 ?_
              refine v_icne C (t := 178) dX7_toNext_143 (by decide) ?_ ?_
              · exact v_leaf (by rw [e25]; exact hF21 ν16)
              · exact v_leaf (hF23 ())
      intro F14 hF13
      refine v_icge C (t := 112) dX7_toNext_100 (by decide) ?_ ?_
      · refine v_aload_n C (n := 0) rfl rfl dX7_toNext_112 ?_
        refine v_geti C fl_X7_19 rfl ht dX7_toNext_113 ?_
        exact v_leaf (hF13 (ν11 this 2))
      · refine v_aload_n C (n := 0) rfl rfl dX7_toNext_103 ?_
        refine v_geti C fl_X7_19 rfl ht dX7_toNext_104 ?_
        refine v_iconst C (v := 1) (by decide) dX7_toNext_107 ?_
        refine v_iadd C dX7_toNext_108 ?_
        refine v_goto C (t := 116) (by decide) dX7_toNext_109 ?_
        exact v_leaf (hF13 ((ν11 this 2) + 1))
    intro F10 hF9
    refine v_icge C (t := 87) dX7_toNext_69 (by decide) ?_ ?_
    · refine v_iconst C (v := 0) (by decide) dX7_toNext_87 ?_
      exact v_leaf (hF9 0)
    · refine v_aload_n C (n := 0) rfl rfl dX7_toNext_72 ?_
      refine v_getr C (t := 21) fl_X7_9 rfl rfl ht dX7_toNext_73 (fun h30 => ?_)
      refine v_aload_n C (n := 0) rfl rfl dX7_toNext_76 ?_
      refine v_geti C fl_X7_19 rfl ht dX7_toNext_77 ?_
      refine v_bald C h30 dX7_toNext_80 (fun x31 => ?_)
      refine v_csRi C (d := 0) (hR.le (by omega)) cs_X7_31 (by decide) [.int x31] rfl (fun _ hc => s_X7_sortOf G Z hG hZ   hc) (Nat.le_of_ble_eq_true rfl) dX7_toNext_81 rfl (fun r32 => ?_)
      refine v_goto C (t := 88) (by decide) dX7_toNext_84 ?_
      exact v_leaf (hF9 r32)
  · intro X4 F6 hX5 hF7
    intro ν2
    refine v_aload_n C (n := 0) rfl rfl dX7_toNext_8 ?_
    refine v_geti C fl_X7_19 rfl ht dX7_toNext_9 ?_
    refine v_aload_n C (n := 0) rfl rfl dX7_toNext_12 ?_
    refine v_geti C fl_X7_15 rfl ht dX7_toNext_13 ?_
    refine v_icge C (t := 60) dX7_toNext_16 (by decide) ?_ ?_
    · exact v_leaf (hF7 ν2)
    · refine v_aload_n C (n := 0) rfl rfl dX7_toNext_19 ?_
      refine v_getr C (t := 21) fl_X7_9 rfl rfl ht dX7_toNext_20 (fun h33 => ?_)
      refine v_aload_n C (n := 0) rfl rfl dX7_toNext_23 ?_
      refine v_geti C fl_X7_19 rfl ht dX7_toNext_24 ?_
      refine v_bald C h33 dX7_toNext_27 (fun x34 => ?_)
      refine v_bipush C (v := 32) (by decide) dX7_toNext_28 ?_
      refine v_joinm 47 (fun t : Unit => [(0, .ref (ga G this))]) (fun t : Unit => []) (fun t : Unit => ν2) ?_ ?_
      · rintro ⟨⟩
        refine v_aload_n C (n := 0) rfl rfl dX7_toNext_47 ?_
        refine v_dup C rfl dX7_toNext_48 ?_
        refine v_geti C fl_X7_19 rfl ht dX7_toNext_49 ?_
        refine v_iconst C (v := 1) (by decide) dX7_toNext_52 ?_
        refine v_iadd C dX7_toNext_53 ?_
        refine v_puti C fp_X7_19 rfl rfl ht dX7_toNext_54 (fun ν38 => ?_)
        refine v_goto C (t := 8) (by decide) dX7_toNext_57 ?_
        exact v_leaf (hX5 ν38)
      intro F36 e37 hF35
      refine v_iceq C (t := 47) dX7_toNext_30 (by decide) ?_ ?_
      · exact v_leaf (hF35 ())
      · refine v_aload_n C (n := 0) rfl rfl dX7_toNext_33 ?_
        refine v_getr C (t := 21) fl_X7_9 rfl rfl ht dX7_toNext_34 (fun h39 => ?_)
        refine v_aload_n C (n := 0) rfl rfl dX7_toNext_37 ?_
        refine v_geti C fl_X7_19 rfl ht dX7_toNext_38 ?_
        refine v_bald C h39 dX7_toNext_41 (fun x40 => ?_)
        refine v_bipush C (v := 10) (by decide) dX7_toNext_42 ?_
        refine v_icne C (t := 60) dX7_toNext_44 (by decide) ?_ ?_
        · exact v_leaf (by rw [e37]; exact hF7 ν2)
        · exact v_leaf (hF35 ())
set_option maxRecDepth 20000 in
set_option maxHeartbeats 4000000 in
theorem s_X8_drop {l : Launch} (G : GT) (Z : ZT) (hG : DA G) (hZ : WT G Z) {this : Nat} {a0 : Int32} {μ : MT} {q : Int32 × MT} (ht : Ob G Z this 8) (hq : m_X8_drop Z this a0 μ = some q) : MZ l G Z yX8_drop cX8_drop 2 (some .int) 1 [.ref (ga G this), .int a0] μ (some (.int q.1)) q.2 := by
  refine v_met (J := (fun q : Int32 × MT => (some (.int q.1), q.2))) hG hZ (by decide) (Nat.le_of_ble_eq_true rfl) hq ?_
  intro x C hR _ hr
  show VK x G Z (0, 0) 2 (QM x G Z) (fun q : Int32 × MT => (some (.int q.1), q.2)) 0 [(0, .ref (ga G this)), (1, .int a0)] [] μ _ some
  unfold m_X8_drop
  refine v_aload_n C (n := 0) rfl rfl dX8_drop_0 ?_
  refine v_getr C (t := 6) fl_X8_10 rfl rfl ht dX8_drop_1 (fun h1 => ?_)
  refine v_iload_n C (n := 1) rfl rfl dX8_drop_4 ?_
  refine v_cvRi C (d := 0) (hR.le (by omega)) (c := 6) rfl cv_X8_94 (by decide) h1 (by decide) [.int a0] rfl (fun _ hc => s_X6_hasNumber G Z hG hZ   h1 hc) (Nat.le_of_ble_eq_true rfl) dX8_drop_5 rfl (fun r2 => ?_)
  refine v_ifne C (t := 14) dX8_drop_8 (by decide) ?_ ?_
  · refine v_aload_n C (n := 0) rfl rfl dX8_drop_14 ?_
    refine v_getr C (t := 6) fl_X8_10 rfl rfl ht dX8_drop_15 (fun h3 => ?_)
    refine v_iload_n C (n := 1) rfl rfl dX8_drop_18 ?_
    refine v_cvRi C (d := 0) (hR.le (by omega)) (c := 6) rfl cv_X8_125 (by decide) h3 (by decide) [.int a0] rfl (fun _ hc => s_X6_isMissing G Z hG hZ   h3 hc) (Nat.le_of_ble_eq_true rfl) dX8_drop_19 rfl (fun r4 => ?_)
    refine v_ifeq C (t := 31) dX8_drop_22 (by decide) ?_ ?_
    · refine v_aload_n C (n := 0) rfl rfl dX8_drop_31 ?_
      refine v_aload_n C (n := 0) rfl rfl dX8_drop_32 ?_
      refine v_getr C (t := 6) fl_X8_10 rfl rfl ht dX8_drop_33 (fun h5 => ?_)
      refine v_iload_n C (n := 1) rfl rfl dX8_drop_36 ?_
      refine v_cvIi C (d := 0) (hR.le (by omega)) (c := 6) rfl cv_X8_128 (by decide) h5 (by decide) [.int a0] rfl (fun _ hc => s_X6_takeAway G Z hG hZ   h5 hc) (Nat.le_of_ble_eq_true rfl) dX8_drop_37 rfl (fun r6 ν7 => ?_)
      refine v_cvIi C (d := 0) (hR.le (by omega)) (c := 8) rfl cv_X8_107 (by decide) ht (by decide) [.int r6] rfl (fun _ hc => s_X8_fine G Z hG hZ   ht hc) (Nat.le_of_ble_eq_true rfl) dX8_drop_40 rfl (fun r8 ν9 => ?_)
      exact v_iret C hr dX8_drop_43 (fun a h => by have h := Option.some.inj h; subst h; rfl)
    · refine v_aload_n C (n := 0) rfl rfl dX8_drop_25 ?_
      refine v_iconst C (v := 1) (by decide) dX8_drop_26 ?_
      refine v_cvIi C (d := 0) (hR.le (by omega)) (c := 8) rfl cv_X8_99 (by decide) ht (by decide) [.int 1] rfl (fun _ hc => s_X8_found G Z hG hZ   ht hc) (Nat.le_of_ble_eq_true rfl) dX8_drop_27 rfl (fun r10 ν11 => ?_)
      exact v_iret C hr dX8_drop_30 (fun a h => by have h := Option.some.inj h; subst h; rfl)
  · refine v_ldc C (v := (-1000001)) (w4 13 rfl) dX8_drop_11 ?_
    exact v_iret C hr dX8_drop_13 (fun a h => by have h := Option.some.inj h; subst h; rfl)
set_option maxRecDepth 20000 in
set_option maxHeartbeats 4000000 in
theorem s_X8_feed {l : Launch} (G : GT) (Z : ZT) (hG : DA G) (hZ : WT G Z) {this : Nat} {a0 : Int64} {a1 : Int32} {μ : MT} {q : Int32 × MT} (ht : Ob G Z this 8) (hq : m_X8_feed Z this a0 a1 μ = some q) : MZ l G Z yX8_feed cX8_feed 4 (some .int) 1 [.ref (ga G this), .long a0, .int a1] μ (some (.int q.1)) q.2 := by
  refine v_met (J := (fun q : Int32 × MT => (some (.int q.1), q.2))) hG hZ (by decide) (Nat.le_of_ble_eq_true rfl) hq ?_
  intro x C hR _ hr
  show VK x G Z (0, 0) 4 (QM x G Z) (fun q : Int32 × MT => (some (.int q.1), q.2)) 0 [(0, .ref (ga G this)), (1, .long a0), (3, .int a1)] [] μ _ some
  unfold m_X8_feed
  refine v_iload_n C (n := 2) rfl rfl dX8_feed_0 ?_
  refine v_iconst C (v := 1) (by decide) dX8_feed_1 ?_
  refine v_iclt C (t := 11) dX8_feed_2 (by decide) ?_ ?_
  · refine v_ldc C (v := (-1000001)) (w4 13 rfl) dX8_feed_11 ?_
    exact v_iret C hr dX8_feed_13 (fun a h => by have h := Option.some.inj h; subst h; rfl)
  · refine v_iload_n C (n := 2) rfl rfl dX8_feed_5 ?_
    refine v_bipush C (v := 8) (by decide) dX8_feed_6 ?_
    refine v_icle C (t := 14) dX8_feed_8 (by decide) ?_ ?_
    · refine v_aload_n C (n := 0) rfl rfl dX8_feed_14 ?_
      refine v_getr C (t := 7) fl_X8_19 rfl rfl ht dX8_feed_15 (fun h1 => ?_)
      refine v_iload_n C (n := 2) rfl rfl dX8_feed_18 ?_
      refine v_cvRi C (d := 0) (hR.le (by omega)) (c := 7) rfl cv_X8_131 (by decide) h1 (by decide) [.int a1] rfl (fun _ hc => s_X7_hasRoom G Z hG hZ   h1 hc) (Nat.le_of_ble_eq_true rfl) dX8_feed_19 rfl (fun r2 => ?_)
      refine v_ifne C (t := 28) dX8_feed_22 (by decide) ?_ ?_
      · refine v_aload_n C (n := 0) rfl rfl dX8_feed_28 ?_
        refine v_getr C (t := 7) fl_X8_19 rfl rfl ht dX8_feed_29 (fun h3 => ?_)
        refine v_lload_n C (n := 1) rfl rfl dX8_feed_32 ?_
        refine v_iload_n C (n := 2) rfl rfl dX8_feed_33 ?_
        refine v_cvIi C (d := 0) (hR.le (by omega)) (c := 7) rfl cv_X8_135 (by decide) h3 (by decide) [.long a0, .int a1] rfl (fun _ hc => s_X7_append G Z hG hZ   h3 hc) (Nat.le_of_ble_eq_true rfl) dX8_feed_34 rfl (fun r4 ν5 => ?_)
        exact v_iret C hr dX8_feed_37 (fun a h => by have h := Option.some.inj h; subst h; rfl)
      · refine v_ldc C (v := (-1000003)) (w5 12 rfl) dX8_feed_25 ?_
        exact v_iret C hr dX8_feed_27 (fun a h => by have h := Option.some.inj h; subst h; rfl)
    · refine v_ldc C (v := (-1000001)) (w4 13 rfl) dX8_feed_11 ?_
      exact v_iret C hr dX8_feed_13 (fun a h => by have h := Option.some.inj h; subst h; rfl)
set_option maxRecDepth 20000 in
set_option maxHeartbeats 4000000 in
theorem s_X8_height {l : Launch} (G : GT) (Z : ZT) (hG : DA G) (hZ : WT G Z) {this : Nat} {a0 : Int32} {μ : MT} {q : Int32} (ht : Ob G Z this 8) (hq : m_X8_height Z (gn G) this a0 μ = some q) : MZ l G Z yX8_height cX8_height 2 (some .int) 1 [.ref (ga G this), .int a0] μ (some (.int q)) μ := by
  refine v_met (J := (fun r : Int32 => (some (.int r), μ))) hG hZ (by decide) (Nat.le_of_ble_eq_true rfl) hq ?_
  intro x C hR _ hr
  show VK x G Z (0, 0) 2 (QM x G Z) (fun r : Int32 => (some (.int r), μ)) 0 [(0, .ref (ga G this)), (1, .int a0)] [] μ _ some
  unfold m_X8_height
  refine v_aload_n C (n := 0) rfl rfl dX8_height_0 ?_
  refine v_getm C fl_X8_76 rfl ht dX8_height_1 (fun q1 h2 => ?_)
  refine v_cvRi C (d := 0) (hR.le (by omega)) (c := 3) rfl cv_X8_205 (by decide) h2 (by decide) [] rfl (fun _ hc => s_X3_isNone G Z hG hZ   h2 hc) (Nat.le_of_ble_eq_true rfl) dX8_height_4 rfl (fun r3 => ?_)
  refine v_ifeq C (t := 13) dX8_height_7 (by decide) ?_ ?_
  · refine v_iload_n C (n := 1) rfl rfl dX8_height_13 ?_
    refine v_iflt C (t := 28) dX8_height_14 (by decide) ?_ ?_
    · refine v_ldc C (v := (-1000001)) (w4 13 rfl) dX8_height_28 ?_
      exact v_iret C hr dX8_height_30 (fun a h => by have h := Option.some.inj h; subst h; rfl)
    · refine v_iload_n C (n := 1) rfl rfl dX8_height_17 ?_
      refine v_aload_n C (n := 0) rfl rfl dX8_height_18 ?_
      refine v_getm C fl_X8_76 rfl ht dX8_height_19 (fun q4 h5 => ?_)
      refine v_getiN C fn_X8_172 rfl h5 dX8_height_22 ?_
      refine v_icle C (t := 31) dX8_height_25 (by decide) ?_ ?_
      · refine v_aload_n C (n := 0) rfl rfl dX8_height_31 ?_
        refine v_getr C (t := 2) fl_X8_45 rfl rfl ht dX8_height_32 (fun h6 => ?_)
        refine v_iload_n C (n := 1) rfl rfl dX8_height_35 ?_
        refine v_cvRi C (d := 0) (hR.le (by omega)) (c := 2) rfl cv_X8_242 (by decide) h6 (by decide) [.int a0] rfl (fun _ hc => s_X2_heightAt G Z hG hZ   h6 hc) (Nat.le_of_ble_eq_true rfl) dX8_height_36 rfl (fun r7 => ?_)
        exact v_iret C hr dX8_height_39 (fun a h => by have h := Option.some.inj h; subst h; rfl)
      · refine v_ldc C (v := (-1000001)) (w4 13 rfl) dX8_height_28 ?_
        exact v_iret C hr dX8_height_30 (fun a h => by have h := Option.some.inj h; subst h; rfl)
  · refine v_ldc C (v := (-1000002)) (w8 24 rfl) dX8_height_10 ?_
    exact v_iret C hr dX8_height_12 (fun a h => by have h := Option.some.inj h; subst h; rfl)
set_option maxRecDepth 20000 in
set_option maxHeartbeats 4000000 in
theorem s_X8_drawDown {l : Launch} (G : GT) (Z : ZT) (hG : DA G) (hZ : WT G Z) {this : Nat} {a0 : Int32} {a1 : Int32} {a2 : Int32} {μ : MT} {q : Int32 × MT} (ht : Ob G Z this 8) (hq : m_X8_drawDown Z (gn G) this a0 a1 a2 μ = some q) : MZ l G Z yX8_drawDown cX8_drawDown 5 (some .boolean) 2 [.ref (ga G this), .int a0, .int a1, .int a2] μ (some (.int q.1)) q.2 := by
  refine v_met (J := (fun q : Int32 × MT => (some (.int q.1), q.2))) hG hZ (by decide) (Nat.le_of_ble_eq_true rfl) hq ?_
  intro x C hR _ hr
  show VK x G Z (0, 0) 5 (QM x G Z) (fun q : Int32 × MT => (some (.int q.1), q.2)) 0 [(0, .ref (ga G this)), (1, .int a0), (2, .int a1), (3, .int a2)] [] μ _ some
  unfold m_X8_drawDown
  refine v_aload_n C (n := 0) rfl rfl dX8_drawDown_0 ?_
  refine v_getr C (t := 2) fl_X8_45 rfl rfl ht dX8_drawDown_1 (fun h1 => ?_)
  refine v_getrN C (t := 20) fn_X8_236 rfl rfl h1 dX8_drawDown_4 (fun h2 => ?_)
  refine v_iconst C (v := 0) (by decide) dX8_drawDown_7 ?_
  refine v_aload_n C (n := 0) rfl rfl dX8_drawDown_8 ?_
  refine v_getr C (t := 20) fl_X8_39 rfl rfl ht dX8_drawDown_9 (fun h3 => ?_)
  refine v_iconst C (v := 0) (by decide) dX8_drawDown_12 ?_
  refine v_bipush C (v := 12) (by decide) dX8_drawDown_13 ?_
  refine v_copy C (hR.le (by omega)) cy_X8_166 h2.oa h3 (Nat.le_of_ble_eq_true rfl) dX8_drawDown_15 (fun ν4 => ?_)
  refine v_iconst C (v := 0) (by decide) dX8_drawDown_18 ?_
  refine v_istore C (lv' := [(4, .int 0), (0, .ref (ga G this)), (1, .int a0), (2, .int a1), (3, .int a2)]) (by decide) rfl dX8_drawDown_19 ?_
  refine v_sub (lv' := [(0, .ref (ga G this)), (1, .int a0), (2, .int a1), (3, .int a2), (4, .int 0)]) [1, 2, 3, 4, 0] rfl ?_
  refine v_lp 21 56 (fun t : Int32 × MT => [(0, .ref (ga G this)), (1, .int a0), (2, .int a1), (3, .int a2), (4, .int (t.1))]) (fun t : Int32 × MT => t.2) (fun t : MT => [(0, .ref (ga G this)), (3, .int a2)]) (fun t : MT => t) ?_ ?_ LN (0, ν4)
  · intro ν7
    refine v_iconst C (v := 0) (by decide) dX8_drawDown_56 ?_
    refine v_istore C (lv' := [(4, .int 0), (0, .ref (ga G this)), (3, .int a2)]) (by decide) rfl dX8_drawDown_57 ?_
    refine v_sub (lv' := [(0, .ref (ga G this)), (3, .int a2), (4, .int 0)]) [1, 2, 0] rfl ?_
    refine v_lpm 59 93 (fun t : Int32 => [(0, .ref (ga G this)), (3, .int a2), (4, .int t)]) (fun t : Int32 => ν7) (fun t : Unit => []) (fun t : Unit => ν7) ?_ ?_ LN 0
    · rintro ⟨⟩
      refine v_iconst C (v := 1) (by decide) dX8_drawDown_93 ?_
      exact v_zret C (Or.inr rfl) hr dX8_drawDown_94 (fun a h => by have h := Option.some.inj h; subst h; rfl)
    · intro X13 F15 e17 hX14 hF16
      intro y12
      refine v_iload C (n := 2) rfl dX8_drawDown_59 ?_
      refine v_aload_n C (n := 0) rfl rfl dX8_drawDown_61 ?_
      refine v_getm C fl_X8_76 rfl ht dX8_drawDown_62 (fun q18 h19 => ?_)
      refine v_getiN C fn_X8_172 rfl h19 dX8_drawDown_65 ?_
      refine v_icge C (t := 93) dX8_drawDown_68 (by decide) ?_ ?_
      · refine v_sub (lv' := []) [] rfl ?_
        exact v_leaf (hF16 ())
      · refine v_aload_n C (n := 0) rfl rfl dX8_drawDown_71 ?_
        refine v_getr C (t := 20) fl_X8_39 rfl rfl ht dX8_drawDown_72 (fun h20 => ?_)
        refine v_iload C (n := 2) rfl dX8_drawDown_75 ?_
        refine v_iald C h20.oa dX8_drawDown_77 (fun x21 => ?_)
        refine v_mabs C (hR.le (by omega)) cm_X8_285 (Nat.le_of_ble_eq_true rfl) dX8_drawDown_78 ?_
        refine v_iload_n C (n := 1) rfl rfl dX8_drawDown_81 ?_
        refine v_icle C (t := 87) dX8_drawDown_82 (by decide) ?_ ?_
        · refine v_iinc C (n := 2) (v := y12 + 1) (lv' := [(4, .int (y12 + 1)), (0, .ref (ga G this)), (3, .int a2)]) rfl (congrArg (y12 + ·) (by decide : Int32.ofInt (1) = (1 : Int32))) (by decide) rfl dX8_drawDown_87 ?_
          refine v_let (y := y12 + 1) (fun x22 => [(4, .int x22), (0, .ref (ga G this)), (3, .int a2)]) (fun x22 => []) (fun x22 => ?_)
          refine v_goto C (t := 59) (by decide) dX8_drawDown_90 ?_
          refine v_sub (lv' := [(0, .ref (ga G this)), (3, .int a2), (4, .int x22)]) [1, 2, 0] rfl ?_
          exact v_leaf (hX14 x22)
        · refine v_iconst C (v := 0) (by decide) dX8_drawDown_85 ?_
          exact v_zret C (Or.inl rfl) hr dX8_drawDown_86 (fun a h => by simp only [ob_s, lq, e17] at h; have h := Option.some.inj h; subst h; rfl)
  · intro X8 F10 hX9 hF11
    rintro ⟨y5, ν6⟩
    refine v_iload C (n := 4) rfl dX8_drawDown_21 ?_
    refine v_aload_n C (n := 0) rfl rfl dX8_drawDown_23 ?_
    refine v_getm C fl_X8_76 rfl ht dX8_drawDown_24 (fun q23 h24 => ?_)
    refine v_getiN C fn_X8_172 rfl h24 dX8_drawDown_27 ?_
    refine v_icge C (t := 56) dX8_drawDown_30 (by decide) ?_ ?_
    · refine v_sub (lv' := [(0, .ref (ga G this)), (3, .int a2)]) [0, 3] rfl ?_
      exact v_leaf (hF11 ν6)
    · refine v_iload_n C (n := 1) rfl rfl dX8_drawDown_33 ?_
      refine v_iload C (n := 4) rfl dX8_drawDown_34 ?_
      refine v_ishr C dX8_drawDown_36 ?_
      refine v_iconst C (v := 1) (by decide) dX8_drawDown_37 ?_
      refine v_iand C dX8_drawDown_38 ?_
      refine v_iconst C (v := 1) (by decide) dX8_drawDown_39 ?_
      refine v_join 50 (fun t : MT => [(0, .ref (ga G this)), (1, .int a0), (2, .int a1), (3, .int a2), (4, .int y5)]) (fun t : MT => []) (fun t : MT => t) ?_ ?_
      · intro ν25
        refine v_iinc C (n := 4) (v := y5 + 1) (lv' := [(4, .int (y5 + 1)), (0, .ref (ga G this)), (1, .int a0), (2, .int a1), (3, .int a2)]) rfl (congrArg (y5 + ·) (by decide : Int32.ofInt (1) = (1 : Int32))) (by decide) rfl dX8_drawDown_50 ?_
        refine v_let (y := y5 + 1) (fun x28 => [(4, .int x28), (0, .ref (ga G this)), (1, .int a0), (2, .int a1), (3, .int a2)]) (fun x28 => []) (fun x28 => ?_)
        refine v_goto C (t := 21) (by decide) dX8_drawDown_53 ?_
        refine v_sub (lv' := [(0, .ref (ga G this)), (1, .int a0), (2, .int a1), (3, .int a2), (4, .int x28)]) [1, 2, 3, 4, 0] rfl ?_
        exact v_leaf (hX9 (x28, ν25))
      intro F27 hF26
      refine v_icne C (t := 50) dX8_drawDown_40 (by decide) ?_ ?_
      · exact v_leaf (hF26 ν6)
      · refine v_aload_n C (n := 0) rfl rfl dX8_drawDown_43 ?_
        refine v_iload C (n := 4) rfl dX8_drawDown_44 ?_
        refine v_iload_n C (n := 2) rfl rfl dX8_drawDown_46 ?_
        refine v_cvIv C (d := 1) (hR.le (by omega)) (c := 8) rfl cv_X8_281 (by decide) ht (by decide) [.int y5, .int a1] rfl (fun _ hc => s_X8_spotAt G Z hG hZ   ht hc) (Nat.le_of_ble_eq_true rfl) dX8_drawDown_47 rfl (fun ν29 => ?_)
        exact v_leaf (hF26 ν29)
set_option maxRecDepth 20000 in
set_option maxHeartbeats 4000000 in
theorem s_X8_trace {l : Launch} (G : GT) (Z : ZT) (hG : DA G) (hZ : WT G Z) {this : Nat} {a0 : Int32} {μ : MT} {q : Int32} (ht : Ob G Z this 8) (hq : m_X8_trace Z this a0 μ = some q) : MZ l G Z yX8_trace cX8_trace 2 (some .int) 1 [.ref (ga G this), .int a0] μ (some (.int q)) μ := by
  refine v_met (J := (fun r : Int32 => (some (.int r), μ))) hG hZ (by decide) (Nat.le_of_ble_eq_true rfl) hq ?_
  intro x C hR _ hr
  show VK x G Z (0, 0) 2 (QM x G Z) (fun r : Int32 => (some (.int r), μ)) 0 [(0, .ref (ga G this)), (1, .int a0)] [] μ _ some
  unfold m_X8_trace
  refine v_aload_n C (n := 0) rfl rfl dX8_trace_0 ?_
  refine v_getr C (t := 0) fl_X8_69 rfl rfl ht dX8_trace_1 (fun h1 => ?_)
  refine v_iload_n C (n := 1) rfl rfl dX8_trace_4 ?_
  refine v_cvRi C (d := 0) (hR.le (by omega)) (c := 0) rfl cv_X8_326 (by decide) h1 (by decide) [.int a0] rfl (fun _ hc => s_X0_traced G Z hG hZ   h1 hc) (Nat.le_of_ble_eq_true rfl) dX8_trace_5 rfl (fun r2 => ?_)
  exact v_iret C hr dX8_trace_8 (fun a h => by have h := Option.some.inj h; subst h; rfl)
