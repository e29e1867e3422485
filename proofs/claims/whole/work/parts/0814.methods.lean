set_option maxRecDepth 20000 in
set_option maxHeartbeats 4000000 in
theorem s_X8_run {l : Launch} (G : GT) (Z : ZT) (hG : DA G) (hZ : WT G Z) {this : Nat} {a0 : Int32} {a1 : Int32} {μ : MT} {q : Int32 × MT} (ht : Ob G Z this 8) (hq : m_X8_run Z (gn G) this a0 a1 μ = some q) : MZ l G Z yX8_run cX8_run 5 (some .int) 6 [.ref (ga G this), .int a0, .int a1] μ (some (.int q.1)) q.2 := by
  refine v_met (J := (fun q : Int32 × MT => (some (.int q.1), q.2))) hG hZ (by decide) (Nat.le_of_ble_eq_true rfl) hq ?_
  intro x C hR _ hr
  show VK x G Z (0, 0) 5 (QM x G Z) (fun q : Int32 × MT => (some (.int q.1), q.2)) 0 [(0, .ref (ga G this)), (1, .int a0), (2, .int a1)] [] μ _ some
  unfold m_X8_run
  refine v_aload_n C (n := 0) rfl rfl dX8_run_0 ?_
  refine v_getr C (t := 6) fl_X8_10 rfl rfl ht dX8_run_1 (fun h1 => ?_)
  refine v_iload_n C (n := 1) rfl rfl dX8_run_4 ?_
  refine v_cvRi C (d := 0) (hR.le (by omega)) (c := 6) rfl cv_X8_94 (by decide) h1 (by decide) [.int a0] rfl (fun _ hc => s_X6_hasNumber G Z hG hZ   h1 hc) (Nat.le_of_ble_eq_true rfl) dX8_run_5 rfl (fun r2 => ?_)
  refine v_ifne C (t := 14) dX8_run_8 (by decide) ?_ ?_
  · refine v_aload_n C (n := 0) rfl rfl dX8_run_14 ?_
    refine v_getm C fl_X8_76 rfl ht dX8_run_15 (fun q3 h4 => ?_)
    refine v_cvRi C (d := 0) (hR.le (by omega)) (c := 3) rfl cv_X8_205 (by decide) h4 (by decide) [] rfl (fun _ hc => s_X3_isNone G Z hG hZ   h4 hc) (Nat.le_of_ble_eq_true rfl) dX8_run_18 rfl (fun r5 => ?_)
    refine v_ifeq C (t := 27) dX8_run_21 (by decide) ?_ ?_
    · refine v_aload_n C (n := 0) rfl rfl dX8_run_27 ?_
      refine v_getr C (t := 6) fl_X8_10 rfl rfl ht dX8_run_28 (fun h6 => ?_)
      refine v_iload_n C (n := 1) rfl rfl dX8_run_31 ?_
      refine v_iload_n C (n := 2) rfl rfl dX8_run_32 ?_
      refine v_aload_n C (n := 0) rfl rfl dX8_run_33 ?_
      refine v_getm C fl_X8_76 rfl ht dX8_run_34 (fun q7 h8 => ?_)
      refine v_getiN C fn_X8_210 rfl h8 dX8_run_37 ?_
      refine v_cvRi C (d := 1) (hR.le (by omega)) (c := 6) rfl cv_X8_110 (by decide) h6 (by decide) [.int a0, .int a1, .int (μ q7 1)] rfl (fun _ hc => s_X6_findingAt G Z hG hZ   h6 hc) (Nat.le_of_ble_eq_true rfl) dX8_run_40 rfl (fun r9 => ?_)
      refine v_istore_n C (lv' := [(3, .int r9), (0, .ref (ga G this)), (1, .int a0), (2, .int a1)]) rfl (by decide) rfl dX8_run_43 ?_
      refine v_iload_n C (n := 0) rfl rfl dX8_run_44 ?_
      refine v_ifeq C (t := 54) dX8_run_45 (by decide) ?_ ?_
      · refine v_aload_n C (n := 1) rfl rfl dX8_run_54 ?_
        refine v_getr C (t := 6) fl_X8_10 rfl rfl ht dX8_run_55 (fun h10 => ?_)
        refine v_iload_n C (n := 2) rfl rfl dX8_run_58 ?_
        refine v_iload_n C (n := 3) rfl rfl dX8_run_59 ?_
        refine v_aload_n C (n := 1) rfl rfl dX8_run_60 ?_
        refine v_getm C fl_X8_76 rfl ht dX8_run_61 (fun q11 h12 => ?_)
        refine v_getiN C fn_X8_210 rfl h12 dX8_run_64 ?_
        refine v_cvRi C (d := 3) (hR.le (by omega)) (c := 6) rfl cv_X8_213 (by decide) h10 (by decide) [.int a0, .int a1, .int (μ q11 1)] rfl (fun _ hc => s_X6_tellsOrder G Z hG hZ   h10 hc) (Nat.le_of_ble_eq_true rfl) dX8_run_67 rfl (fun r13 => ?_)
        refine v_ifne C (t := 76) dX8_run_70 (by decide) ?_ ?_
        · refine v_iconst C (v := 0) (by decide) dX8_run_76 ?_
          refine v_istore C (lv' := [(4, .int 0), (3, .int r9), (0, .ref (ga G this)), (1, .int a0), (2, .int a1)]) (by decide) rfl dX8_run_77 ?_
          refine v_sub (lv' := [(0, .ref (ga G this)), (1, .int a0), (2, .int a1), (4, .int 0)]) [2, 3, 4, 0] rfl ?_
          refine v_lp 79 116 (fun t : Int32 × MT => [(0, .ref (ga G this)), (1, .int a0), (2, .int a1), (4, .int (t.1))]) (fun t : Int32 × MT => t.2) (fun t : MT => [(0, .ref (ga G this))]) (fun t : MT => t) ?_ ?_ LN (0, μ)
          · intro ν16
            refine v_aload_n C (n := 0) rfl rfl dX8_run_116 ?_
            refine v_aload_n C (n := 0) rfl rfl dX8_run_117 ?_
            refine v_cvIi C (d := 5) (hR.le (by omega)) (c := 8) rfl cv_X8_220 (by decide) ht (by decide) [] rfl (fun _ hc => s_X8_standByOrder G Z hG hZ   ht hc) (Nat.le_of_ble_eq_true rfl) dX8_run_118 rfl (fun r21 ν22 => ?_)
            refine v_cvIi C (d := 0) (hR.le (by omega)) (c := 8) rfl cv_X8_107 (by decide) ht (by decide) [.int r21] rfl (fun _ hc => s_X8_fine G Z hG hZ   ht hc) (Nat.le_of_ble_eq_true rfl) dX8_run_121 rfl (fun r23 ν24 => ?_)
            exact v_iret C hr dX8_run_124 (fun a h => by have h := Option.some.inj h; subst h; rfl)
          · intro X17 F19 hX18 hF20
            rintro ⟨y14, ν15⟩
            refine v_iload C (n := 3) rfl dX8_run_79 ?_
            refine v_aload_n C (n := 0) rfl rfl dX8_run_81 ?_
            refine v_getm C fl_X8_76 rfl ht dX8_run_82 (fun q25 h26 => ?_)
            refine v_getiN C fn_X8_210 rfl h26 dX8_run_85 ?_
            refine v_icge C (t := 116) dX8_run_88 (by decide) ?_ ?_
            · refine v_sub (lv' := [(0, .ref (ga G this))]) [0] rfl ?_
              exact v_leaf (hF20 ν15)
            · refine v_aload_n C (n := 0) rfl rfl dX8_run_91 ?_
              refine v_getr C (t := 20) fl_X8_36 rfl rfl ht dX8_run_92 (fun h27 => ?_)
              refine v_iload C (n := 3) rfl dX8_run_95 ?_
              refine v_aload_n C (n := 0) rfl rfl dX8_run_97 ?_
              refine v_getr C (t := 6) fl_X8_10 rfl rfl ht dX8_run_98 (fun h28 => ?_)
              refine v_iload_n C (n := 1) rfl rfl dX8_run_101 ?_
              refine v_iload_n C (n := 2) rfl rfl dX8_run_102 ?_
              refine v_iload C (n := 3) rfl dX8_run_103 ?_
              refine v_iadd C dX8_run_105 ?_
              refine v_cvRi C (d := 2) (hR.le (by omega)) (c := 6) rfl cv_X8_217 (by decide) h28 (by decide) [.int a0, .int (a1 + y14)] rfl (fun _ hc => s_X6_itemAt G Z hG hZ   h28 hc) (Nat.le_of_ble_eq_true rfl) dX8_run_106 rfl (fun r29 => ?_)
              refine v_iast C h27 dX8_run_109 (fun ν30 => ?_)
              refine v_iinc C (n := 3) (v := y14 + 1) (lv' := [(4, .int (y14 + 1)), (0, .ref (ga G this)), (1, .int a0), (2, .int a1)]) rfl (congrArg (y14 + ·) (by decide : Int32.ofInt (1) = (1 : Int32))) (by decide) rfl dX8_run_110 ?_
              refine v_let (y := y14 + 1) (fun x31 => [(4, .int x31), (0, .ref (ga G this)), (1, .int a0), (2, .int a1)]) (fun x31 => []) (fun x31 => ?_)
              refine v_goto C (t := 79) (by decide) dX8_run_113 ?_
              refine v_sub (lv' := [(0, .ref (ga G this)), (1, .int a0), (2, .int a1), (4, .int x31)]) [1, 2, 3, 0] rfl ?_
              exact v_leaf (hX18 (x31, ν30))
        · refine v_ldc C (v := (-1000001)) (w4 13 rfl) dX8_run_73 ?_
          exact v_iret C hr dX8_run_75 (fun a h => by have h := Option.some.inj h; subst h; rfl)
      · refine v_aload_n C (n := 1) rfl rfl dX8_run_48 ?_
        refine v_iload_n C (n := 0) rfl rfl dX8_run_49 ?_
        refine v_cvIi C (d := 0) (hR.le (by omega)) (c := 8) rfl cv_X8_99 (by decide) ht (by decide) [.int r9] rfl (fun _ hc => s_X8_found G Z hG hZ   ht hc) (Nat.le_of_ble_eq_true rfl) dX8_run_50 rfl (fun r32 ν33 => ?_)
        exact v_iret C hr dX8_run_53 (fun a h => by have h := Option.some.inj h; subst h; rfl)
    · refine v_ldc C (v := (-1000002)) (w8 24 rfl) dX8_run_24 ?_
      exact v_iret C hr dX8_run_26 (fun a h => by have h := Option.some.inj h; subst h; rfl)
  · refine v_ldc C (v := (-1000001)) (w4 13 rfl) dX8_run_11 ?_
    exact v_iret C hr dX8_run_13 (fun a h => by have h := Option.some.inj h; subst h; rfl)
set_option maxRecDepth 20000 in
set_option maxHeartbeats 4000000 in
theorem s_X8_runs {l : Launch} (G : GT) (Z : ZT) (hG : DA G) (hZ : WT G Z) {this : Nat} {μ : MT} {q : Int32 × MT} (ht : Ob G Z this 8) (hq : m_X8_runs Z (gn G) this μ = some q) : MZ l G Z yX8_runs cX8_runs 1 (some .int) 6 [.ref (ga G this)] μ (some (.int q.1)) q.2 := by
  refine v_met (J := (fun q : Int32 × MT => (some (.int q.1), q.2))) hG hZ (by decide) (Nat.le_of_ble_eq_true rfl) hq ?_
  intro x C hR _ hr
  show VK x G Z (0, 0) 1 (QM x G Z) (fun q : Int32 × MT => (some (.int q.1), q.2)) 0 [(0, .ref (ga G this))] [] μ _ some
  unfold m_X8_runs
  refine v_aload_n C (n := 0) rfl rfl dX8_runs_0 ?_
  refine v_getm C fl_X8_76 rfl ht dX8_runs_1 (fun q1 h2 => ?_)
  refine v_cvRi C (d := 0) (hR.le (by omega)) (c := 3) rfl cv_X8_205 (by decide) h2 (by decide) [] rfl (fun _ hc => s_X3_isNone G Z hG hZ   h2 hc) (Nat.le_of_ble_eq_true rfl) dX8_runs_4 rfl (fun r3 => ?_)
  refine v_ifeq C (t := 13) dX8_runs_7 (by decide) ?_ ?_
  · refine v_gets C (k := 1000) C.2.2.2.2.2.2.1.1 (w7 35 rfl) dX8_runs_13 ?_
    refine v_iconst C (v := 0) (by decide) dX8_runs_16 ?_
    refine v_aload_n C (n := 0) rfl rfl dX8_runs_17 ?_
    refine v_getr C (t := 20) fl_X8_36 rfl rfl ht dX8_runs_18 (fun h4 => ?_)
    refine v_iconst C (v := 0) (by decide) dX8_runs_21 ?_
    refine v_bipush C (v := 6) (by decide) dX8_runs_22 ?_
    refine v_copy C (hR.le (by omega)) cy_X8_166 (C.2.2.2.2.2.2.2.2.1.2.2.2.2 0 (by decide)) h4 (Nat.le_of_ble_eq_true rfl) dX8_runs_24 (fun ν5 => ?_)
    refine v_aload_n C (n := 0) rfl rfl dX8_runs_27 ?_
    refine v_cvIi C (d := 5) (hR.le (by omega)) (c := 8) rfl cv_X8_220 (by decide) ht (by decide) [] rfl (fun _ hc => s_X8_standByOrder G Z hG hZ   ht hc) (Nat.le_of_ble_eq_true rfl) dX8_runs_28 rfl (fun r6 ν7 => ?_)
    exact v_iret C hr dX8_runs_31 (fun a h => by have h := Option.some.inj h; subst h; rfl)
  · refine v_ldc C (v := (-1000002)) (w8 24 rfl) dX8_runs_10 ?_
    exact v_iret C hr dX8_runs_12 (fun a h => by have h := Option.some.inj h; subst h; rfl)
set_option maxRecDepth 20000 in
set_option maxHeartbeats 4000000 in
theorem s_X8_best {l : Launch} (G : GT) (Z : ZT) (hG : DA G) (hZ : WT G Z) {this : Nat} {a0 : Int32} {μ : MT} {q : Int32 × MT} (ht : Ob G Z this 8) (hq : m_X8_best Z (gn G) this a0 μ = some q) : MZ l G Z yX8_best cX8_best 2 (some .int) 14 [.ref (ga G this), .int a0] μ (some (.int q.1)) q.2 := by
  refine v_met (J := (fun q : Int32 × MT => (some (.int q.1), q.2))) hG hZ (by decide) (Nat.le_of_ble_eq_true rfl) hq ?_
  intro x C hR _ hr
  show VK x G Z (0, 0) 2 (QM x G Z) (fun q : Int32 × MT => (some (.int q.1), q.2)) 0 [(0, .ref (ga G this)), (1, .int a0)] [] μ _ some
  unfold m_X8_best
  refine v_iload_n C (n := 1) rfl rfl dX8_best_0 ?_
  refine v_iconst C (v := (-1)) (by decide) dX8_best_1 ?_
  refine v_icge C (t := 8) dX8_best_2 (by decide) ?_ ?_
  · refine v_aload_n C (n := 0) rfl rfl dX8_best_8 ?_
    refine v_getm C fl_X8_76 rfl ht dX8_best_9 (fun q1 h2 => ?_)
    refine v_cvRi C (d := 0) (hR.le (by omega)) (c := 3) rfl cv_X8_205 (by decide) h2 (by decide) [] rfl (fun _ hc => s_X3_isNone G Z hG hZ   h2 hc) (Nat.le_of_ble_eq_true rfl) dX8_best_12 rfl (fun r3 => ?_)
    refine v_ifeq C (t := 21) dX8_best_15 (by decide) ?_ ?_
    · refine v_aload_n C (n := 0) rfl rfl dX8_best_21 ?_
      refine v_getr C (t := 5) fl_X8_55 rfl rfl ht dX8_best_22 (fun h4 => ?_)
      refine v_aload_n C (n := 0) rfl rfl dX8_best_25 ?_
      refine v_getm C fl_X8_76 rfl ht dX8_best_26 (fun q5 h6 => ?_)
      refine v_aload_n C (n := 0) rfl rfl dX8_best_29 ?_
      refine v_getr C (t := 20) fl_X8_32 rfl rfl ht dX8_best_30 (fun h7 => ?_)
      refine v_cvIv C (d := 13) (hR.le (by omega)) (c := 5) rfl cv_X8_251 (by decide) h4 (by decide) [.ref (ga G q5), .ref (ga G (zr Z this 3))] rfl (fun _ hc => s_X5_look G Z hG hZ   h4 h6 h7.oa hc) (Nat.le_of_ble_eq_true rfl) dX8_best_33 rfl (fun ν8 => ?_)
      refine v_aload_n C (n := 0) rfl rfl dX8_best_36 ?_
      refine v_getr C (t := 5) fl_X8_55 rfl rfl ht dX8_best_37 (fun h9 => ?_)
      refine v_getiN C fn_X8_255 rfl h9 dX8_best_40 ?_
      refine v_ifne C (t := 49) dX8_best_43 (by decide) ?_ ?_
      · refine v_iload_n C (n := 1) rfl rfl dX8_best_49 ?_
        refine v_iconst C (v := (-1)) (by decide) dX8_best_50 ?_
        refine v_icne C (t := 62) dX8_best_51 (by decide) ?_ ?_
        · refine v_aload_n C (n := 0) rfl rfl dX8_best_62 ?_
          refine v_getm C fl_X8_76 rfl ht dX8_best_63 (fun q10 h11 => ?_)
          refine v_iload_n C (n := 1) rfl rfl dX8_best_66 ?_
          refine v_cvRi C (d := 0) (hR.le (by omega)) (c := 3) rfl cv_X8_248 (by decide) h11 (by decide) [.int a0] rfl (fun _ hc => s_X3_hasSeam G Z hG hZ   h11 hc) (Nat.le_of_ble_eq_true rfl) dX8_best_67 rfl (fun r12 => ?_)
          refine v_ifeq C (t := 85) dX8_best_70 (by decide) ?_ ?_
          · refine v_ldc C (v := (-1000000)) (w8 7 rfl) dX8_best_85 ?_
            exact v_iret C hr dX8_best_87 (fun a h => by have h := Option.some.inj h; subst h; rfl)
          · refine v_aload_n C (n := 0) rfl rfl dX8_best_73 ?_
            refine v_getr C (t := 5) fl_X8_55 rfl rfl ht dX8_best_74 (fun h13 => ?_)
            refine v_getrN C (t := 20) fn_X8_261 rfl rfl h13 dX8_best_77 (fun h14 => ?_)
            refine v_iload_n C (n := 1) rfl rfl dX8_best_80 ?_
            refine v_iald C h14.oa dX8_best_81 (fun x15 => ?_)
            refine v_goto C (t := 87) (by decide) dX8_best_82 ?_
            exact v_iret C hr dX8_best_87 (fun a h => by have h := Option.some.inj h; subst h; rfl)
        · refine v_aload_n C (n := 0) rfl rfl dX8_best_54 ?_
          refine v_getr C (t := 5) fl_X8_55 rfl rfl ht dX8_best_55 (fun h16 => ?_)
          refine v_getiN C fn_X8_258 rfl h16 dX8_best_58 ?_
          exact v_iret C hr dX8_best_61 (fun a h => by have h := Option.some.inj h; subst h; rfl)
      · refine v_ldc C (v := (-1000000)) (w8 7 rfl) dX8_best_46 ?_
        exact v_iret C hr dX8_best_48 (fun a h => by have h := Option.some.inj h; subst h; rfl)
    · refine v_ldc C (v := (-1000002)) (w8 24 rfl) dX8_best_18 ?_
      exact v_iret C hr dX8_best_20 (fun a h => by have h := Option.some.inj h; subst h; rfl)
  · refine v_ldc C (v := (-1000001)) (w4 13 rfl) dX8_best_5 ?_
    exact v_iret C hr dX8_best_7 (fun a h => by have h := Option.some.inj h; subst h; rfl)
set_option maxRecDepth 20000 in
set_option maxHeartbeats 4000000 in
theorem s_X8_beforehand {l : Launch} (G : GT) (Z : ZT) (hG : DA G) (hZ : WT G Z) {this : Nat} {a0 : Int32} {μ : MT} {q : Int32 × MT} (ht : Ob G Z this 8) (hq : m_X8_beforehand Z (gn G) this a0 μ = some q) : MZ l G Z yX8_beforehand cX8_beforehand 2 (some .int) 6 [.ref (ga G this), .int a0] μ (some (.int q.1)) q.2 := by
  refine v_met (J := (fun q : Int32 × MT => (some (.int q.1), q.2))) hG hZ (by decide) (Nat.le_of_ble_eq_true rfl) hq ?_
  intro x C hR _ hr
  show VK x G Z (0, 0) 2 (QM x G Z) (fun q : Int32 × MT => (some (.int q.1), q.2)) 0 [(0, .ref (ga G this)), (1, .int a0)] [] μ _ some
  unfold m_X8_beforehand
  refine v_aload_n C (n := 0) rfl rfl dX8_beforehand_0 ?_
  refine v_getm C fl_X8_76 rfl ht dX8_beforehand_1 (fun q1 h2 => ?_)
  refine v_iload_n C (n := 1) rfl rfl dX8_beforehand_4 ?_
  refine v_cvRi C (d := 0) (hR.le (by omega)) (c := 3) rfl cv_X8_202 (by decide) h2 (by decide) [.int a0] rfl (fun _ hc => s_X3_hasCell G Z hG hZ   h2 hc) (Nat.le_of_ble_eq_true rfl) dX8_beforehand_5 rfl (fun r3 => ?_)
  refine v_ifne C (t := 14) dX8_beforehand_8 (by decide) ?_ ?_
  · refine v_aload_n C (n := 0) rfl rfl dX8_beforehand_14 ?_
    refine v_getr C (t := 1) fl_X8_62 rfl rfl ht dX8_beforehand_15 (fun h4 => ?_)
    refine v_aload_n C (n := 0) rfl rfl dX8_beforehand_18 ?_
    refine v_getm C fl_X8_76 rfl ht dX8_beforehand_19 (fun q5 h6 => ?_)
    refine v_aload_n C (n := 0) rfl rfl dX8_beforehand_22 ?_
    refine v_getr C (t := 2) fl_X8_49 rfl rfl ht dX8_beforehand_23 (fun h7 => ?_)
    refine v_cvIv C (d := 5) (hR.le (by omega)) (c := 1) rfl cv_X8_267 (by decide) h4 (by decide) [.ref (ga G q5), .ref (ga G (zr Z this 7))] rfl (fun _ hc => s_X1_look G Z hG hZ   h4 h6 h7 hc) (Nat.le_of_ble_eq_true rfl) dX8_beforehand_26 rfl (fun ν8 => ?_)
    refine v_aload_n C (n := 0) rfl rfl dX8_beforehand_29 ?_
    refine v_getr C (t := 1) fl_X8_62 rfl rfl ht dX8_beforehand_30 (fun h9 => ?_)
    refine v_getrN C (t := 20) fn_X8_270 rfl rfl h9 dX8_beforehand_33 (fun h10 => ?_)
    refine v_iload_n C (n := 1) rfl rfl dX8_beforehand_36 ?_
    refine v_iald C h10.oa dX8_beforehand_37 (fun x11 => ?_)
    exact v_iret C hr dX8_beforehand_38 (fun a h => by have h := Option.some.inj h; subst h; rfl)
  · refine v_ldc C (v := (-1000001)) (w4 13 rfl) dX8_beforehand_11 ?_
    exact v_iret C hr dX8_beforehand_13 (fun a h => by have h := Option.some.inj h; subst h; rfl)
set_option maxRecDepth 20000 in
set_option maxHeartbeats 4000000 in
theorem s_X8_wire {l : Launch} (G : GT) (Z : ZT) (hG : DA G) (hZ : WT G Z) {this : Nat} {a0 : Int32} {a1 : Int32} {a2 : Int32} {μ : MT} {q : Int32 × MT} (ht : Ob G Z this 8) (hq : m_X8_wire Z (gn G) this a0 a1 a2 μ = some q) : MZ l G Z yX8_wire cX8_wire 5 (some .int) 6 [.ref (ga G this), .int a0, .int a1, .int a2] μ (some (.int q.1)) q.2 := by
  refine v_met (J := (fun q : Int32 × MT => (some (.int q.1), q.2))) hG hZ (by decide) (Nat.le_of_ble_eq_true rfl) hq ?_
  intro x C hR _ hr
  show VK x G Z (0, 0) 5 (QM x G Z) (fun q : Int32 × MT => (some (.int q.1), q.2)) 0 [(0, .ref (ga G this)), (1, .int a0), (2, .int a1), (3, .int a2)] [] μ _ some
  unfold m_X8_wire
  refine v_aload_n C (n := 0) rfl rfl dX8_wire_0 ?_
  refine v_getr C (t := 6) fl_X8_10 rfl rfl ht dX8_wire_1 (fun h1 => ?_)
  refine v_iload_n C (n := 1) rfl rfl dX8_wire_4 ?_
  refine v_cvRi C (d := 0) (hR.le (by omega)) (c := 6) rfl cv_X8_94 (by decide) h1 (by decide) [.int a0] rfl (fun _ hc => s_X6_hasNumber G Z hG hZ   h1 hc) (Nat.le_of_ble_eq_true rfl) dX8_wire_5 rfl (fun r2 => ?_)
  refine v_ifne C (t := 14) dX8_wire_8 (by decide) ?_ ?_
  · refine v_aload_n C (n := 0) rfl rfl dX8_wire_14 ?_
    refine v_getm C fl_X8_76 rfl ht dX8_wire_15 (fun q3 h4 => ?_)
    refine v_cvRi C (d := 0) (hR.le (by omega)) (c := 3) rfl cv_X8_205 (by decide) h4 (by decide) [] rfl (fun _ hc => s_X3_isNone G Z hG hZ   h4 hc) (Nat.le_of_ble_eq_true rfl) dX8_wire_18 rfl (fun r5 => ?_)
    refine v_ifeq C (t := 27) dX8_wire_21 (by decide) ?_ ?_
    · refine v_iload_n C (n := 3) rfl rfl dX8_wire_27 ?_
      refine v_iconst C (v := (-1)) (by decide) dX8_wire_28 ?_
      refine v_iclt C (t := 43) dX8_wire_29 (by decide) ?_ ?_
      · refine v_ldc C (v := (-1000001)) (w4 13 rfl) dX8_wire_43 ?_
        exact v_iret C hr dX8_wire_45 (fun a h => by have h := Option.some.inj h; subst h; rfl)
      · refine v_iload_n C (n := 3) rfl rfl dX8_wire_32 ?_
        refine v_aload_n C (n := 0) rfl rfl dX8_wire_33 ?_
        refine v_getm C fl_X8_76 rfl ht dX8_wire_34 (fun q6 h7 => ?_)
        refine v_getiN C fn_X8_172 rfl h7 dX8_wire_37 ?_
        refine v_iclt C (t := 46) dX8_wire_40 (by decide) ?_ ?_
        · refine v_aload_n C (n := 0) rfl rfl dX8_wire_46 ?_
          refine v_getr C (t := 6) fl_X8_10 rfl rfl ht dX8_wire_47 (fun h8 => ?_)
          refine v_iload_n C (n := 1) rfl rfl dX8_wire_50 ?_
          refine v_iload_n C (n := 2) rfl rfl dX8_wire_51 ?_
          refine v_aload_n C (n := 0) rfl rfl dX8_wire_52 ?_
          refine v_getm C fl_X8_76 rfl ht dX8_wire_53 (fun q9 h10 => ?_)
          refine v_getiN C fn_X8_172 rfl h10 dX8_wire_56 ?_
          refine v_iconst C (v := 1) (by decide) dX8_wire_59 ?_
          refine v_iadd C dX8_wire_60 ?_
          refine v_cvRi C (d := 1) (hR.le (by omega)) (c := 6) rfl cv_X8_110 (by decide) h8 (by decide) [.int a0, .int a1, .int ((μ q9 0) + 1)] rfl (fun _ hc => s_X6_findingAt G Z hG hZ   h8 hc) (Nat.le_of_ble_eq_true rfl) dX8_wire_61 rfl (fun r11 => ?_)
          refine v_istore C (lv' := [(4, .int r11), (0, .ref (ga G this)), (1, .int a0), (2, .int a1), (3, .int a2)]) (by decide) rfl dX8_wire_64 ?_
          refine v_iload C (n := 0) rfl dX8_wire_66 ?_
          refine v_ifeq C (t := 78) dX8_wire_68 (by decide) ?_ ?_
          · refine v_aload_n C (n := 1) rfl rfl dX8_wire_78 ?_
            refine v_getr C (t := 6) fl_X8_10 rfl rfl ht dX8_wire_79 (fun h12 => ?_)
            refine v_iload_n C (n := 2) rfl rfl dX8_wire_82 ?_
            refine v_iload_n C (n := 3) rfl rfl dX8_wire_83 ?_
            refine v_aload_n C (n := 1) rfl rfl dX8_wire_84 ?_
            refine v_getm C fl_X8_76 rfl ht dX8_wire_85 (fun q13 h14 => ?_)
            refine v_getiN C fn_X8_172 rfl h14 dX8_wire_88 ?_
            refine v_iconst C (v := 1) (by decide) dX8_wire_91 ?_
            refine v_iadd C dX8_wire_92 ?_
            refine v_sipush C (v := 9999) (by decide) dX8_wire_93 ?_
            refine v_cvRi C (d := 3) (hR.le (by omega)) (c := 6) rfl cv_X8_299 (by decide) h12 (by decide) [.int a0, .int a1, .int ((μ q13 0) + 1), .int 9999] rfl (fun _ hc => s_X6_allWithin G Z hG hZ   h12 hc) (Nat.le_of_ble_eq_true rfl) dX8_wire_96 rfl (fun r15 => ?_)
            refine v_ifne C (t := 105) dX8_wire_99 (by decide) ?_ ?_
            · refine v_aload_n C (n := 1) rfl rfl dX8_wire_105 ?_
              refine v_iload_n C (n := 4) rfl rfl dX8_wire_106 ?_
              refine v_iconst C (v := (-1)) (by decide) dX8_wire_107 ?_
              refine v_join 127 (fun t : Int32 => []) (fun t : Int32 => [.int t, .ref (ga G this)]) (fun t : Int32 => μ) ?_ ?_
              · intro z16
                refine v_cvIi C (d := 0) (hR.le (by omega)) (c := 8) rfl cv_X8_107 (by decide) ht (by decide) [.int z16] rfl (fun _ hc => s_X8_fine G Z hG hZ   ht hc) (Nat.le_of_ble_eq_true rfl) dX8_wire_127 rfl (fun r19 ν20 => ?_)
                exact v_iret C hr dX8_wire_130 (fun a h => by have h := Option.some.inj h; subst h; rfl)
              intro F18 hF17
              refine v_icne C (t := 120) dX8_wire_108 (by decide) ?_ ?_
              · refine v_aload_n C (n := 1) rfl rfl dX8_wire_120 ?_
                refine v_iload_n C (n := 2) rfl rfl dX8_wire_121 ?_
                refine v_iload_n C (n := 3) rfl rfl dX8_wire_122 ?_
                refine v_iload_n C (n := 4) rfl rfl dX8_wire_123 ?_
                refine v_cvRi C (d := 3) (hR.le (by omega)) (c := 8) rfl cv_X8_306 (by decide) ht (by decide) [.int a0, .int a1, .int a2] rfl (fun _ hc => s_X8_wireBend G Z hG hZ   ht hc) (Nat.le_of_ble_eq_true rfl) dX8_wire_124 rfl (fun r21 => ?_)
                refine v_sub (lv' := []) [] rfl ?_
                exact v_leaf (hF17 r21)
              · refine v_aload_n C (n := 1) rfl rfl dX8_wire_111 ?_
                refine v_iload_n C (n := 2) rfl rfl dX8_wire_112 ?_
                refine v_iload_n C (n := 3) rfl rfl dX8_wire_113 ?_
                refine v_cvRi C (d := 5) (hR.le (by omega)) (c := 8) rfl cv_X8_303 (by decide) ht (by decide) [.int a0, .int a1] rfl (fun _ hc => s_X8_steelOf G Z hG hZ   ht hc) (Nat.le_of_ble_eq_true rfl) dX8_wire_114 rfl (fun r22 => ?_)
                refine v_goto C (t := 127) (by decide) dX8_wire_117 ?_
                refine v_sub (lv' := []) [] rfl ?_
                exact v_leaf (hF17 r22)
            · refine v_ldc C (v := (-1000001)) (w4 13 rfl) dX8_wire_102 ?_
              exact v_iret C hr dX8_wire_104 (fun a h => by have h := Option.some.inj h; subst h; rfl)
          · refine v_aload_n C (n := 1) rfl rfl dX8_wire_71 ?_
            refine v_iload C (n := 0) rfl dX8_wire_72 ?_
            refine v_cvIi C (d := 0) (hR.le (by omega)) (c := 8) rfl cv_X8_99 (by decide) ht (by decide) [.int r11] rfl (fun _ hc => s_X8_found G Z hG hZ   ht hc) (Nat.le_of_ble_eq_true rfl) dX8_wire_74 rfl (fun r23 ν24 => ?_)
            exact v_iret C hr dX8_wire_77 (fun a h => by have h := Option.some.inj h; subst h; rfl)
        · refine v_ldc C (v := (-1000001)) (w4 13 rfl) dX8_wire_43 ?_
          exact v_iret C hr dX8_wire_45 (fun a h => by have h := Option.some.inj h; subst h; rfl)
    · refine v_ldc C (v := (-1000002)) (w8 24 rfl) dX8_wire_24 ?_
      exact v_iret C hr dX8_wire_26 (fun a h => by have h := Option.some.inj h; subst h; rfl)
  · refine v_ldc C (v := (-1000001)) (w4 13 rfl) dX8_wire_11 ?_
    exact v_iret C hr dX8_wire_13 (fun a h => by have h := Option.some.inj h; subst h; rfl)
set_option maxRecDepth 20000 in
set_option maxHeartbeats 4000000 in
theorem s_X9_plan {l : Launch} (G : GT) (Z : ZT) (hG : DA G) (hZ : WT G Z) {this : Nat} {μ : MT} {q : Int32 × MT} (ht : Ob G Z this 9) (hq : m_X9_plan Z this μ = some q) : MZ l G Z yX9_plan cX9_plan 2 (some .int) 6 [.ref (ga G this)] μ (some (.int q.1)) q.2 := by
  refine v_met (J := (fun q : Int32 × MT => (some (.int q.1), q.2))) hG hZ (by decide) (Nat.le_of_ble_eq_true rfl) hq ?_
  intro x C hR _ hr
  show VK x G Z (0, 0) 2 (QM x G Z) (fun q : Int32 × MT => (some (.int q.1), q.2)) 0 [(0, .ref (ga G this))] [] μ _ some
  unfold m_X9_plan
  refine v_aload_n C (n := 0) rfl rfl dX9_plan_0 ?_
  refine v_iconst C (v := 0) (by decide) dX9_plan_1 ?_
  refine v_puti C fp_X9_71 rfl rfl ht dX9_plan_2 (fun ν1 => ?_)
  refine v_aload_n C (n := 0) rfl rfl dX9_plan_5 ?_
  refine v_aload_n C (n := 0) rfl rfl dX9_plan_6 ?_
  refine v_geti C fl_X9_98 rfl ht dX9_plan_7 ?_
  refine v_puti C fp_X9_104 rfl rfl ht dX9_plan_10 (fun ν2 => ?_)
  refine v_aload_n C (n := 0) rfl rfl dX9_plan_13 ?_
  refine v_iconst C (v := 0) (by decide) dX9_plan_14 ?_
  refine v_puti C fp_X9_98 rfl rfl ht dX9_plan_15 (fun ν3 => ?_)
  refine v_aload_n C (n := 0) rfl rfl dX9_plan_18 ?_
  refine v_iconst C (v := 0) (by decide) dX9_plan_19 ?_
  refine v_puti C fp_X9_108 rfl rfl ht dX9_plan_20 (fun ν4 => ?_)
  refine v_aload_n C (n := 0) rfl rfl dX9_plan_23 ?_
  refine v_iconst C (v := 0) (by decide) dX9_plan_24 ?_
  refine v_puti C fp_X9_129 rfl rfl ht dX9_plan_25 (fun ν5 => ?_)
  refine v_aload_n C (n := 0) rfl rfl dX9_plan_28 ?_
  refine v_iconst C (v := 0) (by decide) dX9_plan_29 ?_
  refine v_puti C fp_X9_180 rfl rfl ht dX9_plan_30 (fun ν6 => ?_)
  refine v_aload_n C (n := 0) rfl rfl dX9_plan_33 ?_
  refine v_iconst C (v := 0) (by decide) dX9_plan_34 ?_
  refine v_puti C fp_X9_170 rfl rfl ht dX9_plan_35 (fun ν7 => ?_)
  refine v_aload_n C (n := 0) rfl rfl dX9_plan_38 ?_
  refine v_iconst C (v := 0) (by decide) dX9_plan_39 ?_
  refine v_puti C fp_X9_193 rfl rfl ht dX9_plan_40 (fun ν8 => ?_)
  refine v_aload_n C (n := 0) rfl rfl dX9_plan_43 ?_
  refine v_cvIv C (d := 1) (hR.le (by omega)) (c := 9) rfl cv_X9_139 (by decide) ht (by decide) [] rfl (fun _ hc => s_X9_next G Z hG hZ   ht hc) (Nat.le_of_ble_eq_true rfl) dX9_plan_44 rfl (fun ν9 => ?_)
  refine v_aload_n C (n := 0) rfl rfl dX9_plan_47 ?_
  refine v_aload_n C (n := 0) rfl rfl dX9_plan_48 ?_
  refine v_cvRl C (d := 0) (hR.le (by omega)) (c := 9) rfl cv_X9_146 (by decide) ht (by decide) [] rfl (fun _ hc => s_X9_word G Z hG hZ   ht hc) (Nat.le_of_ble_eq_true rfl) dX9_plan_49 rfl (fun r10 => ?_)
  refine v_ldc2 C (v := 482670962028) (w14 62 rfl) dX9_plan_52 ?_
  refine v_lcmp C dX9_plan_55 ?_
  refine v_join 64 (fun t : Int32 => [(0, .ref (ga G this))]) (fun t : Int32 => [.int t, .ref (ga G this)]) (fun t : Int32 => ν9) ?_ ?_
  · intro z11
    refine v_cvIv C (d := 2) (hR.le (by omega)) (c := 9) rfl cv_X9_142 (by decide) ht (by decide) [.int z11] rfl (fun _ hc => s_X9_must G Z hG hZ   ht hc) (Nat.le_of_ble_eq_true rfl) dX9_plan_64 rfl (fun ν14 => ?_)
    refine v_aload_n C (n := 0) rfl rfl dX9_plan_67 ?_
    refine v_aload_n C (n := 0) rfl rfl dX9_plan_68 ?_
    refine v_iconst C (v := 4) (by decide) dX9_plan_69 ?_
    refine v_bipush C (v := 12) (by decide) dX9_plan_70 ?_
    refine v_ldc C (v := (-1000000)) (w14 52 rfl) dX9_plan_72 ?_
    refine v_cvIi C (d := 3) (hR.le (by omega)) (c := 9) rfl cv_X9_173 (by decide) ht (by decide) [.int 4, .int 12, .int (-1000000)] rfl (fun _ hc => s_X9_numberIn G Z hG hZ   ht hc) (Nat.le_of_ble_eq_true rfl) dX9_plan_74 rfl (fun r15 ν16 => ?_)
    refine v_puti C fp_X9_177 rfl rfl ht dX9_plan_77 (fun ν17 => ?_)
    refine v_aload_n C (n := 0) rfl rfl dX9_plan_80 ?_
    refine v_cvIv C (d := 3) (hR.le (by omega)) (c := 9) rfl cv_X9_190 (by decide) ht (by decide) [] rfl (fun _ hc => s_X9_mustEnd G Z hG hZ   ht hc) (Nat.le_of_ble_eq_true rfl) dX9_plan_81 rfl (fun ν18 => ?_)
    refine v_lp 84 102 (fun t : MT => [(0, .ref (ga G this))]) (fun t : MT => t) (fun t : MT => [(0, .ref (ga G this))]) (fun t : MT => t) ?_ ?_ LN ν18
    · intro ν20
      refine v_lp 102 143 (fun t : MT => [(0, .ref (ga G this))]) (fun t : MT => t) (fun t : MT => [(0, .ref (ga G this))]) (fun t : MT => t) ?_ ?_ LN ν20
      · intro ν26
        refine v_aload_n C (n := 0) rfl rfl dX9_plan_143 ?_
        refine v_geti C fl_X9_129 rfl ht dX9_plan_144 ?_
        refine v_ifle C (t := 166) dX9_plan_147 (by decide) ?_ ?_
        · refine v_aload_n C (n := 0) rfl rfl dX9_plan_166 ?_
          refine v_aload_n C (n := 0) rfl rfl dX9_plan_167 ?_
          refine v_geti C fl_X9_177 rfl ht dX9_plan_168 ?_
          refine v_puti C fp_X9_212 rfl rfl ht dX9_plan_171 (fun ν31 => ?_)
          refine v_aload_n C (n := 0) rfl rfl dX9_plan_174 ?_
          refine v_aload_n C (n := 0) rfl rfl dX9_plan_175 ?_
          refine v_geti C fl_X9_180 rfl ht dX9_plan_176 ?_
          refine v_puti C fp_X9_215 rfl rfl ht dX9_plan_179 (fun ν32 => ?_)
          refine v_aload_n C (n := 0) rfl rfl dX9_plan_182 ?_
          refine v_aload_n C (n := 0) rfl rfl dX9_plan_183 ?_
          refine v_geti C fl_X9_170 rfl ht dX9_plan_184 ?_
          refine v_puti C fp_X9_218 rfl rfl ht dX9_plan_187 (fun ν33 => ?_)
          refine v_aload_n C (n := 0) rfl rfl dX9_plan_190 ?_
          refine v_aload_n C (n := 0) rfl rfl dX9_plan_191 ?_
          refine v_geti C fl_X9_193 rfl ht dX9_plan_192 ?_
          refine v_puti C fp_X9_221 rfl rfl ht dX9_plan_195 (fun ν34 => ?_)
          refine v_iconst C (v := 0) (by decide) dX9_plan_198 ?_
          refine v_istore_n C (lv' := [(1, .int 0), (0, .ref (ga G this))]) rfl (by decide) rfl dX9_plan_199 ?_
          refine v_sub (lv' := [(0, .ref (ga G this)), (1, .int 0)]) [1, 0] rfl ?_
          refine v_lp 200 225 (fun t : Int32 × MT => [(0, .ref (ga G this)), (1, .int (t.1))]) (fun t : Int32 × MT => t.2) (fun t : MT => [(0, .ref (ga G this))]) (fun t : MT => t) ?_ ?_ LN (0, ν34)
          · intro ν37
            refine v_iconst C (v := 0) (by decide) dX9_plan_225 ?_
            refine v_istore_n C (lv' := [(1, .int 0), (0, .ref (ga G this))]) rfl (by decide) rfl dX9_plan_226 ?_
            refine v_sub (lv' := [(0, .ref (ga G this)), (1, .int 0)]) [1, 0] rfl ?_
            refine v_lp 227 263 (fun t : Int32 × MT => [(0, .ref (ga G this)), (1, .int (t.1))]) (fun t : Int32 × MT => t.2) (fun t : MT => [(0, .ref (ga G this))]) (fun t : MT => t) ?_ ?_ LN (0, ν37)
            · intro ν44
              refine v_iconst C (v := 0) (by decide) dX9_plan_263 ?_
              refine v_istore_n C (lv' := [(1, .int 0), (0, .ref (ga G this))]) rfl (by decide) rfl dX9_plan_264 ?_
              refine v_sub (lv' := [(0, .ref (ga G this)), (1, .int 0)]) [1, 0] rfl ?_
              refine v_lp 265 284 (fun t : Int32 × MT => [(0, .ref (ga G this)), (1, .int (t.1))]) (fun t : Int32 × MT => t.2) (fun t : MT => [(0, .ref (ga G this))]) (fun t : MT => t) ?_ ?_ LN (0, ν44)
              · intro ν51
                refine v_aload_n C (n := 0) rfl rfl dX9_plan_284 ?_
                refine v_iconst C (v := 0) (by decide) dX9_plan_285 ?_
                refine v_putz C (Or.inl rfl) fp_X9_224 rfl rfl ht dX9_plan_286 (fun ν56 => ?_)
                refine v_iconst C (v := 0) (by decide) dX9_plan_289 ?_
                refine v_istore_n C (lv' := [(1, .int 0), (0, .ref (ga G this))]) rfl (by decide) rfl dX9_plan_290 ?_
                refine v_sub (lv' := [(0, .ref (ga G this)), (1, .int 0)]) [1, 0] rfl ?_
                refine v_lp 291 310 (fun t : Int32 × MT => [(0, .ref (ga G this)), (1, .int (t.1))]) (fun t : Int32 × MT => t.2) (fun t : MT => [(0, .ref (ga G this))]) (fun t : MT => t) ?_ ?_ LN (0, ν56)
                · intro ν59
                  refine v_aload_n C (n := 0) rfl rfl dX9_plan_310 ?_
                  refine v_geti C fl_X9_218 rfl ht dX9_plan_311 ?_
                  exact v_iret C hr dX9_plan_314 (fun a h => by have h := Option.some.inj h; subst h; rfl)
                · intro X60 F62 hX61 hF63
                  rintro ⟨y57, ν58⟩
                  refine v_iload_n C (n := 1) rfl rfl dX9_plan_291 ?_
                  refine v_bipush C (v := 6) (by decide) dX9_plan_292 ?_
                  refine v_icge C (t := 310) dX9_plan_294 (by decide) ?_ ?_
                  · refine v_sub (lv' := [(0, .ref (ga G this))]) [0] rfl ?_
                    exact v_leaf (hF63 ν58)
                  · refine v_aload_n C (n := 0) rfl rfl dX9_plan_297 ?_
                    refine v_getr C (t := 20) fl_X9_43 rfl rfl ht dX9_plan_298 (fun h64 => ?_)
                    refine v_iload_n C (n := 1) rfl rfl dX9_plan_301 ?_
                    refine v_iload_n C (n := 1) rfl rfl dX9_plan_302 ?_
                    refine v_iast C h64 dX9_plan_303 (fun ν65 => ?_)
                    refine v_iinc C (n := 1) (v := y57 + 1) (lv' := [(1, .int (y57 + 1)), (0, .ref (ga G this))]) rfl (congrArg (y57 + ·) (by decide : Int32.ofInt (1) = (1 : Int32))) (by decide) rfl dX9_plan_304 ?_
                    refine v_let (y := y57 + 1) (fun x66 => [(1, .int x66), (0, .ref (ga G this))]) (fun x66 => []) (fun x66 => ?_)
                    refine v_goto C (t := 291) (by decide) dX9_plan_307 ?_
                    refine v_sub (lv' := [(0, .ref (ga G this)), (1, .int x66)]) [1, 0] rfl ?_
                    exact v_leaf (hX61 (x66, ν65))
              · intro X52 F54 hX53 hF55
                rintro ⟨y49, ν50⟩
                refine v_iload_n C (n := 1) rfl rfl dX9_plan_265 ?_
                refine v_bipush C (v := 12) (by decide) dX9_plan_266 ?_
                refine v_icge C (t := 284) dX9_plan_268 (by decide) ?_ ?_
                · refine v_sub (lv' := [(0, .ref (ga G this))]) [0] rfl ?_
                  exact v_leaf (hF55 ν50)
                · refine v_aload_n C (n := 0) rfl rfl dX9_plan_271 ?_
                  refine v_getr C (t := 20) fl_X9_40 rfl rfl ht dX9_plan_272 (fun h67 => ?_)
                  refine v_iload_n C (n := 1) rfl rfl dX9_plan_275 ?_
                  refine v_iconst C (v := 0) (by decide) dX9_plan_276 ?_
                  refine v_iast C h67 dX9_plan_277 (fun ν68 => ?_)
                  refine v_iinc C (n := 1) (v := y49 + 1) (lv' := [(1, .int (y49 + 1)), (0, .ref (ga G this))]) rfl (congrArg (y49 + ·) (by decide : Int32.ofInt (1) = (1 : Int32))) (by decide) rfl dX9_plan_278 ?_
                  refine v_let (y := y49 + 1) (fun x69 => [(1, .int x69), (0, .ref (ga G this))]) (fun x69 => []) (fun x69 => ?_)
                  refine v_goto C (t := 265) (by decide) dX9_plan_281 ?_
                  refine v_sub (lv' := [(0, .ref (ga G this)), (1, .int x69)]) [1, 0] rfl ?_
                  exact v_leaf (hX53 (x69, ν68))
            · intro X45 F47 hX46 hF48
              rintro ⟨y42, ν43⟩
              refine v_iload_n C (n := 1) rfl rfl dX9_plan_227 ?_
              refine v_bipush C (v := 10) (by decide) dX9_plan_228 ?_
              refine v_icge C (t := 263) dX9_plan_230 (by decide) ?_ ?_
              · refine v_sub (lv' := [(0, .ref (ga G this))]) [0] rfl ?_
                exact v_leaf (hF48 ν43)
              · refine v_aload_n C (n := 0) rfl rfl dX9_plan_233 ?_
                refine v_getr C (t := 20) fl_X9_22 rfl rfl ht dX9_plan_234 (fun h70 => ?_)
                refine v_iload_n C (n := 1) rfl rfl dX9_plan_237 ?_
                refine v_aload_n C (n := 0) rfl rfl dX9_plan_238 ?_
                refine v_getr C (t := 20) fl_X9_31 rfl rfl ht dX9_plan_239 (fun h71 => ?_)
                refine v_iload_n C (n := 1) rfl rfl dX9_plan_242 ?_
                refine v_iald C h71.oa dX9_plan_243 (fun x72 => ?_)
                refine v_iast C h70 dX9_plan_244 (fun ν73 => ?_)
                refine v_aload_n C (n := 0) rfl rfl dX9_plan_245 ?_
                refine v_getr C (t := 20) fl_X9_25 rfl rfl ht dX9_plan_246 (fun h74 => ?_)
                refine v_iload_n C (n := 1) rfl rfl dX9_plan_249 ?_
                refine v_aload_n C (n := 0) rfl rfl dX9_plan_250 ?_
                refine v_getr C (t := 20) fl_X9_34 rfl rfl ht dX9_plan_251 (fun h75 => ?_)
                refine v_iload_n C (n := 1) rfl rfl dX9_plan_254 ?_
                refine v_iald C h75.oa dX9_plan_255 (fun x76 => ?_)
                refine v_iast C h74 dX9_plan_256 (fun ν77 => ?_)
                refine v_iinc C (n := 1) (v := y42 + 1) (lv' := [(1, .int (y42 + 1)), (0, .ref (ga G this))]) rfl (congrArg (y42 + ·) (by decide : Int32.ofInt (1) = (1 : Int32))) (by decide) rfl dX9_plan_257 ?_
                refine v_let (y := y42 + 1) (fun x78 => [(1, .int x78), (0, .ref (ga G this))]) (fun x78 => []) (fun x78 => ?_)
                refine v_goto C (t := 227) (by decide) dX9_plan_260 ?_
                refine v_sub (lv' := [(0, .ref (ga G this)), (1, .int x78)]) [1, 0] rfl ?_
                exact v_leaf (hX46 (x78, ν77))
          · intro X38 F40 hX39 hF41
            rintro ⟨y35, ν36⟩
            refine v_iload_n C (n := 1) rfl rfl dX9_plan_200 ?_
            refine v_sipush C (v := 160) (by decide) dX9_plan_201 ?_
            refine v_icge C (t := 225) dX9_plan_204 (by decide) ?_ ?_
            · refine v_sub (lv' := [(0, .ref (ga G this))]) [0] rfl ?_
              exact v_leaf (hF41 ν36)
            · refine v_aload_n C (n := 0) rfl rfl dX9_plan_207 ?_
              refine v_getr C (t := 20) fl_X9_19 rfl rfl ht dX9_plan_208 (fun h79 => ?_)
              refine v_iload_n C (n := 1) rfl rfl dX9_plan_211 ?_
              refine v_aload_n C (n := 0) rfl rfl dX9_plan_212 ?_
              refine v_getr C (t := 20) fl_X9_28 rfl rfl ht dX9_plan_213 (fun h80 => ?_)
              refine v_iload_n C (n := 1) rfl rfl dX9_plan_216 ?_
              refine v_iald C h80.oa dX9_plan_217 (fun x81 => ?_)
              refine v_iast C h79 dX9_plan_218 (fun ν82 => ?_)
              refine v_iinc C (n := 1) (v := y35 + 1) (lv' := [(1, .int (y35 + 1)), (0, .ref (ga G this))]) rfl (congrArg (y35 + ·) (by decide : Int32.ofInt (1) = (1 : Int32))) (by decide) rfl dX9_plan_219 ?_
              refine v_let (y := y35 + 1) (fun x83 => [(1, .int x83), (0, .ref (ga G this))]) (fun x83 => []) (fun x83 => ?_)
              refine v_goto C (t := 200) (by decide) dX9_plan_222 ?_
              refine v_sub (lv' := [(0, .ref (ga G this)), (1, .int x83)]) [1, 0] rfl ?_
              exact v_leaf (hX39 (x83, ν82))
        · refine v_aload_n C (n := 0) rfl rfl dX9_plan_150 ?_
          refine v_aload_n C (n := 0) rfl rfl dX9_plan_151 ?_
          refine v_geti C fl_X9_129 rfl ht dX9_plan_152 ?_
          refine v_puti C fp_X9_208 rfl rfl ht dX9_plan_155 (fun ν84 => ?_)
          refine v_ldc C (v := (-1000100)) (w15 35 rfl) dX9_plan_158 ?_
          refine v_aload_n C (n := 0) rfl rfl dX9_plan_160 ?_
          refine v_geti C fl_X9_132 rfl ht dX9_plan_161 ?_
          refine v_isub C dX9_plan_164 ?_
          exact v_iret C hr dX9_plan_165 (fun a h => by have h := Option.some.inj h; subst h; rfl)
      · intro X27 F29 hX28 hF30
        intro ν25
        refine v_aload_n C (n := 0) rfl rfl dX9_plan_102 ?_
        refine v_geti C fl_X9_129 rfl ht dX9_plan_103 ?_
        refine v_ifne C (t := 143) dX9_plan_106 (by decide) ?_ ?_
        · exact v_leaf (hF30 ν25)
        · refine v_aload_n C (n := 0) rfl rfl dX9_plan_109 ?_
          refine v_geti C fl_X9_117 rfl ht dX9_plan_110 ?_
          refine v_iconst C (v := 1) (by decide) dX9_plan_113 ?_
          refine v_iceq C (t := 143) dX9_plan_114 (by decide) ?_ ?_
          · exact v_leaf (hF30 ν25)
          · refine v_aload_n C (n := 0) rfl rfl dX9_plan_117 ?_
            refine v_cvRl C (d := 0) (hR.le (by omega)) (c := 9) rfl cv_X9_146 (by decide) ht (by decide) [] rfl (fun _ hc => s_X9_word G Z hG hZ   ht hc) (Nat.le_of_ble_eq_true rfl) dX9_plan_118 rfl (fun r85 => ?_)
            refine v_ldc2 C (v := 108187649798757) (w15 31 rfl) dX9_plan_121 ?_
            refine v_lcmp C dX9_plan_124 ?_
            refine v_ifeq C (t := 136) dX9_plan_125 (by decide) ?_ ?_
            · refine v_aload_n C (n := 0) rfl rfl dX9_plan_136 ?_
              refine v_cvIv C (d := 4) (hR.le (by omega)) (c := 9) rfl cv_X9_205 (by decide) ht (by decide) [] rfl (fun _ hc => s_X9_readBefore G Z hG hZ   ht hc) (Nat.le_of_ble_eq_true rfl) dX9_plan_137 rfl (fun ν86 => ?_)
              refine v_goto C (t := 102) (by decide) dX9_plan_140 ?_
              exact v_leaf (hX28 ν86)
            · refine v_aload_n C (n := 0) rfl rfl dX9_plan_128 ?_
              refine v_iconst C (v := 1) (by decide) dX9_plan_129 ?_
              refine v_cvIv C (d := 0) (hR.le (by omega)) (c := 9) rfl cv_X9_135 (by decide) ht (by decide) [.int 1] rfl (fun _ hc => s_X9_bad G Z hG hZ   ht hc) (Nat.le_of_ble_eq_true rfl) dX9_plan_130 rfl (fun ν87 => ?_)
              refine v_goto C (t := 102) (by decide) dX9_plan_133 ?_
              exact v_leaf (hX28 ν87)
    · intro X21 F23 hX22 hF24
      intro ν19
      refine v_aload_n C (n := 0) rfl rfl dX9_plan_84 ?_
      refine v_cvRl C (d := 0) (hR.le (by omega)) (c := 9) rfl cv_X9_146 (by decide) ht (by decide) [] rfl (fun _ hc => s_X9_word G Z hG hZ   ht hc) (Nat.le_of_ble_eq_true rfl) dX9_plan_85 rfl (fun r88 => ?_)
      refine v_ldc2 C (v := 1936023917) (w15 11 rfl) dX9_plan_88 ?_
      refine v_lcmp C dX9_plan_91 ?_
      refine v_ifne C (t := 102) dX9_plan_92 (by decide) ?_ ?_
      · exact v_leaf (hF24 ν19)
      · refine v_aload_n C (n := 0) rfl rfl dX9_plan_95 ?_
        refine v_cvIv C (d := 5) (hR.le (by omega)) (c := 9) rfl cv_X9_202 (by decide) ht (by decide) [] rfl (fun _ hc => s_X9_readSeam G Z hG hZ   ht hc) (Nat.le_of_ble_eq_true rfl) dX9_plan_96 rfl (fun ν89 => ?_)
        refine v_goto C (t := 84) (by decide) dX9_plan_99 ?_
        exact v_leaf (hX22 ν89)
  intro F13 hF12
  refine v_ifne C (t := 63) dX9_plan_56 (by decide) ?_ ?_
  · refine v_iconst C (v := 0) (by decide) dX9_plan_63 ?_
    exact v_leaf (hF12 0)
  · refine v_iconst C (v := 1) (by decide) dX9_plan_59 ?_
    refine v_goto C (t := 64) (by decide) dX9_plan_60 ?_
    exact v_leaf (hF12 1)
