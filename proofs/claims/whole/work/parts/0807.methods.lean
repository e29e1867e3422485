set_option maxRecDepth 20000 in
set_option maxHeartbeats 4000000 in
theorem s_X8_act {l : Launch} (G : GT) (Z : ZT) (hG : DA G) (hZ : WT G Z) {this : Nat} {a0 : Int32} {a1 : Int32} {μ : MT} {q : Int32} (ht : Ob G Z this 8) (hq : m_X8_act Z (gn G) this a0 a1 μ = some q) : MZ l G Z yX8_act cX8_act 3 (some .int) 2 [.ref (ga G this), .int a0, .int a1] μ (some (.int q)) μ := by
  refine v_met (J := (fun r : Int32 => (some (.int r), μ))) hG hZ (by decide) (Nat.le_of_ble_eq_true rfl) hq ?_
  intro x C hR _ hr
  show VK x G Z (0, 0) 3 (QM x G Z) (fun r : Int32 => (some (.int r), μ)) 0 [(0, .ref (ga G this)), (1, .int a0), (2, .int a1)] [] μ _ some
  unfold m_X8_act
  refine v_aload_n C (n := 0) rfl rfl dX8_act_0 ?_
  refine v_getm C fl_X8_76 rfl ht dX8_act_1 (fun q1 h2 => ?_)
  refine v_iload_n C (n := 1) rfl rfl dX8_act_4 ?_
  refine v_cvRi C (d := 0) (hR.le (by omega)) (c := 3) rfl cv_X8_183 (by decide) h2 (by decide) [.int a0] rfl (fun _ hc => s_X3_hasAct G Z hG hZ   h2 hc) (Nat.le_of_ble_eq_true rfl) dX8_act_5 rfl (fun r3 => ?_)
  refine v_ifne C (t := 14) dX8_act_8 (by decide) ?_ ?_
  · refine v_iload_n C (n := 2) rfl rfl dX8_act_14 ?_
    refine v_case (fun c4 => ?_) (fun c4 => ?_)
    · refine v_tin C (t := 44) (k := 0) c4 dX8_act_15 (by decide) (by decide) rfl (by decide) ?_
      refine v_aload_n C (n := 0) rfl rfl dX8_act_44 ?_
      refine v_getm C fl_X8_76 rfl ht dX8_act_45 (fun q5 h6 => ?_)
      refine v_getrN C (t := 20) fn_X8_186 rfl rfl h6 dX8_act_48 (fun h7 => ?_)
      refine v_iload_n C (n := 1) rfl rfl dX8_act_51 ?_
      refine v_iald C h7.oa dX8_act_52 (fun x8 => ?_)
      exact v_iret C hr dX8_act_53 (fun a h => by have h := Option.some.inj h; subst h; rfl)
    refine v_case (fun c9 => ?_) (fun c9 => ?_)
    · refine v_tin C (t := 54) (k := 1) c9 dX8_act_15 (by decide) (by decide) rfl (by decide) ?_
      refine v_aload_n C (n := 0) rfl rfl dX8_act_54 ?_
      refine v_getm C fl_X8_76 rfl ht dX8_act_55 (fun q10 h11 => ?_)
      refine v_getrN C (t := 20) fn_X8_189 rfl rfl h11 dX8_act_58 (fun h12 => ?_)
      refine v_iload_n C (n := 1) rfl rfl dX8_act_61 ?_
      refine v_iald C h12.oa dX8_act_62 (fun x13 => ?_)
      exact v_iret C hr dX8_act_63 (fun a h => by have h := Option.some.inj h; subst h; rfl)
    refine v_case (fun c14 => ?_) (fun c14 => ?_)
    · refine v_tin C (t := 64) (k := 2) c14 dX8_act_15 (by decide) (by decide) rfl (by decide) ?_
      refine v_aload_n C (n := 0) rfl rfl dX8_act_64 ?_
      refine v_getm C fl_X8_76 rfl ht dX8_act_65 (fun q15 h16 => ?_)
      refine v_iload_n C (n := 1) rfl rfl dX8_act_68 ?_
      refine v_cvRi C (d := 1) (hR.le (by omega)) (c := 3) rfl cv_X8_192 (by decide) h16 (by decide) [.int a0] rfl (fun _ hc => s_X3_isStep G Z hG hZ   h16 hc) (Nat.le_of_ble_eq_true rfl) dX8_act_69 rfl (fun r17 => ?_)
      refine v_ifeq C (t := 87) dX8_act_72 (by decide) ?_ ?_
      · refine v_ldc C (v := (-1000000)) (w8 7 rfl) dX8_act_87 ?_
        exact v_iret C hr dX8_act_89 (fun a h => by have h := Option.some.inj h; subst h; rfl)
      · refine v_aload_n C (n := 0) rfl rfl dX8_act_75 ?_
        refine v_getm C fl_X8_76 rfl ht dX8_act_76 (fun q18 h19 => ?_)
        refine v_getrN C (t := 20) fn_X8_195 rfl rfl h19 dX8_act_79 (fun h20 => ?_)
        refine v_iload_n C (n := 1) rfl rfl dX8_act_82 ?_
        refine v_iald C h20.oa dX8_act_83 (fun x21 => ?_)
        refine v_goto C (t := 89) (by decide) dX8_act_84 ?_
        exact v_iret C hr dX8_act_89 (fun a h => by have h := Option.some.inj h; subst h; rfl)
    refine v_case (fun c22 => ?_) (fun c22 => ?_)
    · refine v_tin C (t := 90) (k := 3) c22 dX8_act_15 (by decide) (by decide) rfl (by decide) ?_
      refine v_aload_n C (n := 0) rfl rfl dX8_act_90 ?_
      refine v_getm C fl_X8_76 rfl ht dX8_act_91 (fun q23 h24 => ?_)
      refine v_getrN C (t := 20) fn_X8_199 rfl rfl h24 dX8_act_94 (fun h25 => ?_)
      refine v_iload_n C (n := 1) rfl rfl dX8_act_97 ?_
      refine v_iald C h25.oa dX8_act_98 (fun x26 => ?_)
      exact v_iret C hr dX8_act_99 (fun a h => by have h := Option.some.inj h; subst h; rfl)
    have nc4 := lv_neT (k := 0) (a := 0) c4 (by decide)
    have nc9 := lv_neT (k := 1) (a := 1) c9 (by decide)
    have nc14 := lv_neT (k := 2) (a := 2) c14 (by decide)
    have nc22 := lv_neT (k := 3) (a := 3) c22 (by decide)
    refine v_tout C (t := 100) dX8_act_15 (by omega) (by decide) ?_
    refine v_ldc C (v := (-1000001)) (w4 13 rfl) dX8_act_100 ?_
    exact v_iret C hr dX8_act_102 (fun a h => by have h := Option.some.inj h; subst h; rfl)
  · refine v_ldc C (v := (-1000001)) (w4 13 rfl) dX8_act_11 ?_
    exact v_iret C hr dX8_act_13 (fun a h => by have h := Option.some.inj h; subst h; rfl)
set_option maxRecDepth 20000 in
set_option maxHeartbeats 4000000 in
theorem s_X8_open {l : Launch} (G : GT) (Z : ZT) (hG : DA G) (hZ : WT G Z) {this : Nat} {a0 : Int32} {a1 : Int32} {μ : MT} {q : Int32 × MT} (ht : Ob G Z this 8) (hq : m_X8_open Z (gn G) this a0 a1 μ = some q) : MZ l G Z yX8_open cX8_open 4 (some .int) 2 [.ref (ga G this), .int a0, .int a1] μ (some (.int q.1)) q.2 := by
  refine v_met (J := (fun q : Int32 × MT => (some (.int q.1), q.2))) hG hZ (by decide) (Nat.le_of_ble_eq_true rfl) hq ?_
  intro x C hR _ hr
  show VK x G Z (0, 0) 4 (QM x G Z) (fun q : Int32 × MT => (some (.int q.1), q.2)) 0 [(0, .ref (ga G this)), (1, .int a0), (2, .int a1)] [] μ _ some
  unfold m_X8_open
  refine v_aload_n C (n := 0) rfl rfl dX8_open_0 ?_
  refine v_getm C fl_X8_76 rfl ht dX8_open_1 (fun q1 h2 => ?_)
  refine v_iload_n C (n := 1) rfl rfl dX8_open_4 ?_
  refine v_cvRi C (d := 0) (hR.le (by omega)) (c := 3) rfl cv_X8_202 (by decide) h2 (by decide) [.int a0] rfl (fun _ hc => s_X3_hasCell G Z hG hZ   h2 hc) (Nat.le_of_ble_eq_true rfl) dX8_open_5 rfl (fun r3 => ?_)
  refine v_ifeq C (t := 23) dX8_open_8 (by decide) ?_ ?_
  · refine v_ldc C (v := (-1000001)) (w4 13 rfl) dX8_open_23 ?_
    exact v_iret C hr dX8_open_25 (fun a h => by have h := Option.some.inj h; subst h; rfl)
  · refine v_iload_n C (n := 2) rfl rfl dX8_open_11 ?_
    refine v_bipush C (v := (-40)) (by decide) dX8_open_12 ?_
    refine v_iclt C (t := 23) dX8_open_14 (by decide) ?_ ?_
    · refine v_ldc C (v := (-1000001)) (w4 13 rfl) dX8_open_23 ?_
      exact v_iret C hr dX8_open_25 (fun a h => by have h := Option.some.inj h; subst h; rfl)
    · refine v_iload_n C (n := 2) rfl rfl dX8_open_17 ?_
      refine v_bipush C (v := 40) (by decide) dX8_open_18 ?_
      refine v_icle C (t := 26) dX8_open_20 (by decide) ?_ ?_
      · refine v_aload_n C (n := 0) rfl rfl dX8_open_26 ?_
        refine v_getr C (t := 20) fl_X8_32 rfl rfl ht dX8_open_27 (fun h4 => ?_)
        refine v_iload_n C (n := 1) rfl rfl dX8_open_30 ?_
        refine v_iald C h4.oa dX8_open_31 (fun x5 => ?_)
        refine v_istore_n C (lv' := [(3, .int x5), (0, .ref (ga G this)), (1, .int a0), (2, .int a1)]) rfl (by decide) rfl dX8_open_32 ?_
        refine v_aload_n C (n := 1) rfl rfl dX8_open_33 ?_
        refine v_getr C (t := 20) fl_X8_32 rfl rfl ht dX8_open_34 (fun h6 => ?_)
        refine v_iload_n C (n := 2) rfl rfl dX8_open_37 ?_
        refine v_iload_n C (n := 3) rfl rfl dX8_open_38 ?_
        refine v_iast C h6 dX8_open_39 (fun ν7 => ?_)
        refine v_aload_n C (n := 1) rfl rfl dX8_open_40 ?_
        refine v_getr C (t := 5) fl_X8_55 rfl rfl ht dX8_open_41 (fun h8 => ?_)
        refine v_cvIv C (d := 0) (hR.le (by omega)) (c := 5) rfl cv_X8_179 (by decide) h8 (by decide) [] rfl (fun _ hc => s_X5_forget G Z hG hZ   h8 hc) (Nat.le_of_ble_eq_true rfl) dX8_open_44 rfl (fun ν9 => ?_)
        refine v_aload_n C (n := 1) rfl rfl dX8_open_47 ?_
        refine v_geti C fl_X8_83 rfl ht dX8_open_48 ?_
        refine v_ifne C (t := 72) dX8_open_51 (by decide) ?_ ?_
        · refine v_iload_n C (n := 0) rfl rfl dX8_open_72 ?_
          exact v_iret C hr dX8_open_73 (fun a h => by have h := Option.some.inj h; subst h; rfl)
        · refine v_aload_n C (n := 1) rfl rfl dX8_open_54 ?_
          refine v_getr C (t := 2) fl_X8_45 rfl rfl ht dX8_open_55 (fun h10 => ?_)
          refine v_aload_n C (n := 1) rfl rfl dX8_open_58 ?_
          refine v_getm C fl_X8_76 rfl ht dX8_open_59 (fun q11 h12 => ?_)
          refine v_getiN C fn_X8_172 rfl h12 dX8_open_62 ?_
          refine v_aload_n C (n := 1) rfl rfl dX8_open_65 ?_
          refine v_getr C (t := 20) fl_X8_32 rfl rfl ht dX8_open_66 (fun h13 => ?_)
          refine v_cvIv C (d := 1) (hR.le (by omega)) (c := 2) rfl cv_X8_175 (by decide) h10 (by decide) [.int (ν9 q11 0), .ref (ga G (zr Z this 3))] rfl (fun _ hc => s_X2_begin G Z hG hZ   h10 h13.oa hc) (Nat.le_of_ble_eq_true rfl) dX8_open_69 rfl (fun ν14 => ?_)
          refine v_iload_n C (n := 0) rfl rfl dX8_open_72 ?_
          exact v_iret C hr dX8_open_73 (fun a h => by have h := Option.some.inj h; subst h; rfl)
      · refine v_ldc C (v := (-1000001)) (w4 13 rfl) dX8_open_23 ?_
        exact v_iret C hr dX8_open_25 (fun a h => by have h := Option.some.inj h; subst h; rfl)
set_option maxRecDepth 20000 in
set_option maxHeartbeats 4000000 in
theorem s_X8_cell {l : Launch} (G : GT) (Z : ZT) (hG : DA G) (hZ : WT G Z) {this : Nat} {a0 : Int32} {a1 : Int32} {μ : MT} {q : Int32 × MT} (ht : Ob G Z this 8) (hq : m_X8_cell Z (gn G) this a0 a1 μ = some q) : MZ l G Z yX8_cell cX8_cell 3 (some .int) 2 [.ref (ga G this), .int a0, .int a1] μ (some (.int q.1)) q.2 := by
  refine v_met (J := (fun q : Int32 × MT => (some (.int q.1), q.2))) hG hZ (by decide) (Nat.le_of_ble_eq_true rfl) hq ?_
  intro x C hR _ hr
  show VK x G Z (0, 0) 3 (QM x G Z) (fun q : Int32 × MT => (some (.int q.1), q.2)) 0 [(0, .ref (ga G this)), (1, .int a0), (2, .int a1)] [] μ _ some
  unfold m_X8_cell
  refine v_aload_n C (n := 0) rfl rfl dX8_cell_0 ?_
  refine v_getm C fl_X8_76 rfl ht dX8_cell_1 (fun q1 h2 => ?_)
  refine v_iload_n C (n := 1) rfl rfl dX8_cell_4 ?_
  refine v_cvRi C (d := 0) (hR.le (by omega)) (c := 3) rfl cv_X8_202 (by decide) h2 (by decide) [.int a0] rfl (fun _ hc => s_X3_hasCell G Z hG hZ   h2 hc) (Nat.le_of_ble_eq_true rfl) dX8_cell_5 rfl (fun r3 => ?_)
  refine v_ifne C (t := 14) dX8_cell_8 (by decide) ?_ ?_
  · refine v_iload_n C (n := 2) rfl rfl dX8_cell_14 ?_
    refine v_case (fun c4 => ?_) (fun c4 => ?_)
    · refine v_tin C (t := 44) (k := 0) c4 dX8_cell_15 (by decide) (by decide) rfl (by decide) ?_
      refine v_aload_n C (n := 0) rfl rfl dX8_cell_44 ?_
      refine v_getr C (t := 2) fl_X8_45 rfl rfl ht dX8_cell_45 (fun h5 => ?_)
      refine v_iload_n C (n := 1) rfl rfl dX8_cell_48 ?_
      refine v_cvIi C (d := 1) (hR.le (by omega)) (c := 2) rfl cv_X8_230 (by decide) h5 (by decide) [.int a0] rfl (fun _ hc => s_X2_heatOf G Z hG hZ   h5 hc) (Nat.le_of_ble_eq_true rfl) dX8_cell_49 rfl (fun r6 ν7 => ?_)
      exact v_iret C hr dX8_cell_52 (fun a h => by have h := Option.some.inj h; subst h; rfl)
    refine v_case (fun c8 => ?_) (fun c8 => ?_)
    · refine v_tin C (t := 53) (k := 1) c8 dX8_cell_15 (by decide) (by decide) rfl (by decide) ?_
      refine v_aload_n C (n := 0) rfl rfl dX8_cell_53 ?_
      refine v_getr C (t := 2) fl_X8_45 rfl rfl ht dX8_cell_54 (fun h9 => ?_)
      refine v_getrN C (t := 20) fn_X8_233 rfl rfl h9 dX8_cell_57 (fun h10 => ?_)
      refine v_iload_n C (n := 1) rfl rfl dX8_cell_60 ?_
      refine v_iald C h10.oa dX8_cell_61 (fun x11 => ?_)
      exact v_iret C hr dX8_cell_62 (fun a h => by have h := Option.some.inj h; subst h; rfl)
    refine v_case (fun c12 => ?_) (fun c12 => ?_)
    · refine v_tin C (t := 63) (k := 2) c12 dX8_cell_15 (by decide) (by decide) rfl (by decide) ?_
      refine v_aload_n C (n := 0) rfl rfl dX8_cell_63 ?_
      refine v_getr C (t := 2) fl_X8_45 rfl rfl ht dX8_cell_64 (fun h13 => ?_)
      refine v_getrN C (t := 20) fn_X8_236 rfl rfl h13 dX8_cell_67 (fun h14 => ?_)
      refine v_iload_n C (n := 1) rfl rfl dX8_cell_70 ?_
      refine v_iald C h14.oa dX8_cell_71 (fun x15 => ?_)
      exact v_iret C hr dX8_cell_72 (fun a h => by have h := Option.some.inj h; subst h; rfl)
    refine v_case (fun c16 => ?_) (fun c16 => ?_)
    · refine v_tin C (t := 73) (k := 3) c16 dX8_cell_15 (by decide) (by decide) rfl (by decide) ?_
      refine v_aload_n C (n := 0) rfl rfl dX8_cell_73 ?_
      refine v_getr C (t := 2) fl_X8_45 rfl rfl ht dX8_cell_74 (fun h17 => ?_)
      refine v_iload_n C (n := 1) rfl rfl dX8_cell_77 ?_
      refine v_cvRi C (d := 1) (hR.le (by omega)) (c := 2) rfl cv_X8_239 (by decide) h17 (by decide) [.int a0] rfl (fun _ hc => s_X2_pullOf G Z hG hZ   h17 hc) (Nat.le_of_ble_eq_true rfl) dX8_cell_78 rfl (fun r18 => ?_)
      exact v_iret C hr dX8_cell_81 (fun a h => by have h := Option.some.inj h; subst h; rfl)
    have nc4 := lv_neT (k := 0) (a := 0) c4 (by decide)
    have nc8 := lv_neT (k := 1) (a := 1) c8 (by decide)
    have nc12 := lv_neT (k := 2) (a := 2) c12 (by decide)
    have nc16 := lv_neT (k := 3) (a := 3) c16 (by decide)
    refine v_tout C (t := 82) dX8_cell_15 (by omega) (by decide) ?_
    refine v_ldc C (v := (-1000001)) (w4 13 rfl) dX8_cell_82 ?_
    exact v_iret C hr dX8_cell_84 (fun a h => by have h := Option.some.inj h; subst h; rfl)
  · refine v_ldc C (v := (-1000001)) (w4 13 rfl) dX8_cell_11 ?_
    exact v_iret C hr dX8_cell_13 (fun a h => by have h := Option.some.inj h; subst h; rfl)
set_option maxRecDepth 20000 in
set_option maxHeartbeats 4000000 in
theorem s_X8_spots {l : Launch} (G : GT) (Z : ZT) (hG : DA G) (hZ : WT G Z) {this : Nat} {a0 : Int32} {a1 : Int32} {μ : MT} {q : Int32 × MT} (ht : Ob G Z this 8) (hq : m_X8_spots Z (gn G) this a0 a1 μ = some q) : MZ l G Z yX8_spots cX8_spots 7 (some .int) 3 [.ref (ga G this), .int a0, .int a1] μ (some (.int q.1)) q.2 := by
  refine v_met (J := (fun q : Int32 × MT => (some (.int q.1), q.2))) hG hZ (by decide) (Nat.le_of_ble_eq_true rfl) hq ?_
  intro x C hR _ hr
  show VK x G Z (0, 0) 7 (QM x G Z) (fun q : Int32 × MT => (some (.int q.1), q.2)) 0 [(0, .ref (ga G this)), (1, .int a0), (2, .int a1)] [] μ _ some
  unfold m_X8_spots
  refine v_iload_n C (n := 1) rfl rfl dX8_spots_0 ?_
  refine v_iconst C (v := 1) (by decide) dX8_spots_1 ?_
  refine v_iclt C (t := 21) dX8_spots_2 (by decide) ?_ ?_
  · refine v_ldc C (v := (-1000001)) (w4 13 rfl) dX8_spots_21 ?_
    exact v_iret C hr dX8_spots_23 (fun a h => by have h := Option.some.inj h; subst h; rfl)
  · refine v_iload_n C (n := 1) rfl rfl dX8_spots_5 ?_
    refine v_bipush C (v := 20) (by decide) dX8_spots_6 ?_
    refine v_icgt C (t := 21) dX8_spots_8 (by decide) ?_ ?_
    · refine v_ldc C (v := (-1000001)) (w4 13 rfl) dX8_spots_21 ?_
      exact v_iret C hr dX8_spots_23 (fun a h => by have h := Option.some.inj h; subst h; rfl)
    · refine v_iload_n C (n := 2) rfl rfl dX8_spots_11 ?_
      refine v_iflt C (t := 21) dX8_spots_12 (by decide) ?_ ?_
      · refine v_ldc C (v := (-1000001)) (w4 13 rfl) dX8_spots_21 ?_
        exact v_iret C hr dX8_spots_23 (fun a h => by have h := Option.some.inj h; subst h; rfl)
      · refine v_iload_n C (n := 2) rfl rfl dX8_spots_15 ?_
        refine v_bipush C (v := 40) (by decide) dX8_spots_16 ?_
        refine v_icle C (t := 24) dX8_spots_18 (by decide) ?_ ?_
        · refine v_aload_n C (n := 0) rfl rfl dX8_spots_24 ?_
          refine v_getm C fl_X8_76 rfl ht dX8_spots_25 (fun q1 h2 => ?_)
          refine v_cvRi C (d := 0) (hR.le (by omega)) (c := 3) rfl cv_X8_205 (by decide) h2 (by decide) [] rfl (fun _ hc => s_X3_isNone G Z hG hZ   h2 hc) (Nat.le_of_ble_eq_true rfl) dX8_spots_28 rfl (fun r3 => ?_)
          refine v_ifeq C (t := 37) dX8_spots_31 (by decide) ?_ ?_
          · refine v_ldc C (v := (-1000000)) (w8 7 rfl) dX8_spots_37 ?_
            refine v_istore_n C (lv' := [(3, .int (-1000000)), (0, .ref (ga G this)), (1, .int a0), (2, .int a1)]) rfl (by decide) rfl dX8_spots_39 ?_
            refine v_iconst C (v := 4) (by decide) dX8_spots_40 ?_
            refine v_istore C (lv' := [(4, .int 4), (3, .int (-1000000)), (0, .ref (ga G this)), (1, .int a0), (2, .int a1)]) (by decide) rfl dX8_spots_41 ?_
            refine v_iconst C (v := 0) (by decide) dX8_spots_43 ?_
            refine v_istore C (lv' := [(5, .int 0), (4, .int 4), (3, .int (-1000000)), (0, .ref (ga G this)), (1, .int a0), (2, .int a1)]) (by decide) rfl dX8_spots_44 ?_
            refine v_sub (lv' := [(0, .ref (ga G this)), (1, .int a0), (2, .int a1), (3, .int (-1000000)), (4, .int 4), (5, .int 0)]) [3, 4, 5, 2, 1, 0] rfl ?_
            refine v_lp 46 98 (fun t : Int32 × Int32 × Int32 × MT => [(0, .ref (ga G this)), (1, .int a0), (2, .int a1), (3, .int (t.1)), (4, .int (t.2.1)), (5, .int (t.2.2.1))]) (fun t : Int32 × Int32 × Int32 × MT => t.2.2.2) (fun t : Int32 × MT => [(3, .int (t.1))]) (fun t : Int32 × MT => t.2) ?_ ?_ LN ((-1000000), 4, 0, μ)
            · rintro ⟨y8, ν9⟩
              refine v_iload_n C (n := 0) rfl rfl dX8_spots_98 ?_
              exact v_iret C hr dX8_spots_99 (fun a h => by have h := Option.some.inj h; subst h; rfl)
            · intro X10 F12 hX11 hF13
              rintro ⟨y4, y5, y6, ν7⟩
              refine v_iload C (n := 5) rfl dX8_spots_46 ?_
              refine v_iconst C (v := 1) (by decide) dX8_spots_48 ?_
              refine v_aload_n C (n := 0) rfl rfl dX8_spots_49 ?_
              refine v_getm C fl_X8_76 rfl ht dX8_spots_50 (fun q14 h15 => ?_)
              refine v_getiN C fn_X8_172 rfl h15 dX8_spots_53 ?_
              refine v_ishl C dX8_spots_56 ?_
              refine v_icge C (t := 98) dX8_spots_57 (by decide) ?_ ?_
              · refine v_sub (lv' := [(3, .int y4)]) [3] rfl ?_
                exact v_leaf (hF13 (y4, ν7))
              · refine v_iload C (n := 5) rfl dX8_spots_60 ?_
                refine v_csRi C (d := 0) (hR.le (by omega)) cs_X8_273 (by decide) [.int y6] rfl (fun _ hc => s_J6_bitCount_0f7a4 G Z hG hZ   hc) (Nat.le_of_ble_eq_true rfl) dX8_spots_62 rfl (fun r16 => ?_)
                refine v_istore C (lv' := [(6, .int r16), (0, .ref (ga G this)), (1, .int a0), (2, .int a1), (3, .int y4), (4, .int y5), (5, .int y6)]) (by decide) rfl dX8_spots_65 ?_
                refine v_iload C (n := 0) rfl dX8_spots_67 ?_
                refine v_iload C (n := 5) rfl dX8_spots_69 ?_
                refine v_join 92 (fun t : Int32 × Int32 × MT => [(0, .ref (ga G this)), (1, .int a0), (2, .int a1), (3, .int (t.1)), (4, .int (t.2.1)), (5, .int y6)]) (fun t : Int32 × Int32 × MT => []) (fun t : Int32 × Int32 × MT => t.2.2) ?_ ?_
                · rintro ⟨y17, y18, ν19⟩
                  refine v_iinc C (n := 5) (v := y6 + 1) (lv' := [(5, .int (y6 + 1)), (0, .ref (ga G this)), (1, .int a0), (2, .int a1), (3, .int y17), (4, .int y18)]) rfl (congrArg (y6 + ·) (by decide : Int32.ofInt (1) = (1 : Int32))) (by decide) rfl dX8_spots_92 ?_
                  refine v_let (y := y6 + 1) (fun x22 => [(5, .int x22), (0, .ref (ga G this)), (1, .int a0), (2, .int a1), (3, .int y17), (4, .int y18)]) (fun x22 => []) (fun x22 => ?_)
                  refine v_goto C (t := 46) (by decide) dX8_spots_95 ?_
                  refine v_sub (lv' := [(0, .ref (ga G this)), (1, .int a0), (2, .int a1), (3, .int y17), (4, .int y18), (5, .int x22)]) [1, 2, 3, 4, 5, 0] rfl ?_
                  exact v_leaf (hX11 (y17, y18, x22, ν19))
                intro F21 hF20
                refine v_icge C (t := 92) dX8_spots_71 (by decide) ?_ ?_
                · refine v_sub (lv' := [(0, .ref (ga G this)), (1, .int a0), (2, .int a1), (3, .int y4), (4, .int y5), (5, .int y6)]) [1, 2, 3, 4, 5, 6] rfl ?_
                  exact v_leaf (hF20 (y4, y5, ν7))
                · refine v_aload_n C (n := 1) rfl rfl dX8_spots_74 ?_
                  refine v_iload C (n := 6) rfl dX8_spots_75 ?_
                  refine v_iload_n C (n := 2) rfl rfl dX8_spots_77 ?_
                  refine v_iload_n C (n := 3) rfl rfl dX8_spots_78 ?_
                  refine v_cvIi C (d := 2) (hR.le (by omega)) (c := 8) rfl cv_X8_278 (by decide) ht (by decide) [.int y6, .int a0, .int a1] rfl (fun _ hc => s_X8_drawDown G Z hG hZ   ht hc) (Nat.le_of_ble_eq_true rfl) dX8_spots_79 rfl (fun r23 ν24 => ?_)
                  refine v_ifeq C (t := 92) dX8_spots_82 (by decide) ?_ ?_
                  · refine v_sub (lv' := [(0, .ref (ga G this)), (1, .int a0), (2, .int a1), (3, .int y4), (4, .int y5), (5, .int y6)]) [1, 2, 3, 4, 5, 6] rfl ?_
                    exact v_leaf (hF20 (y4, y5, ν24))
                  · refine v_iload C (n := 0) rfl dX8_spots_85 ?_
                    refine v_istore C (lv' := [(4, .int r16), (6, .int r16), (0, .ref (ga G this)), (1, .int a0), (2, .int a1), (3, .int y4), (5, .int y6)]) (by decide) rfl dX8_spots_87 ?_
                    refine v_iload C (n := 6) rfl dX8_spots_89 ?_
                    refine v_istore_n C (lv' := [(3, .int y6), (4, .int r16), (6, .int r16), (0, .ref (ga G this)), (1, .int a0), (2, .int a1), (5, .int y6)]) rfl (by decide) rfl dX8_spots_91 ?_
                    refine v_sub (lv' := [(0, .ref (ga G this)), (1, .int a0), (2, .int a1), (3, .int y6), (4, .int r16), (5, .int y6)]) [3, 4, 5, 0, 1, 6] rfl ?_
                    exact v_leaf (hF20 (y6, r16, ν24))
          · refine v_ldc C (v := (-1000002)) (w8 24 rfl) dX8_spots_34 ?_
            exact v_iret C hr dX8_spots_36 (fun a h => by have h := Option.some.inj h; subst h; rfl)
        · refine v_ldc C (v := (-1000001)) (w4 13 rfl) dX8_spots_21 ?_
          exact v_iret C hr dX8_spots_23 (fun a h => by have h := Option.some.inj h; subst h; rfl)
set_option maxRecDepth 20000 in
set_option maxHeartbeats 4000000 in
theorem s_X8_kind {l : Launch} (G : GT) (Z : ZT) (hG : DA G) (hZ : WT G Z) {this : Nat} {a0 : Int32} {μ : MT} {q : Int32} (ht : Ob G Z this 8) (hq : m_X8_kind Z (gn G) this a0 μ = some q) : MZ l G Z yX8_kind cX8_kind 2 (some .int) 2 [.ref (ga G this), .int a0] μ (some (.int q)) μ := by
  refine v_met (J := (fun r : Int32 => (some (.int r), μ))) hG hZ (by decide) (Nat.le_of_ble_eq_true rfl) hq ?_
  intro x C hR _ hr
  show VK x G Z (0, 0) 2 (QM x G Z) (fun r : Int32 => (some (.int r), μ)) 0 [(0, .ref (ga G this)), (1, .int a0)] [] μ _ some
  unfold m_X8_kind
  refine v_aload_n C (n := 0) rfl rfl dX8_kind_0 ?_
  refine v_getm C fl_X8_76 rfl ht dX8_kind_1 (fun q1 h2 => ?_)
  refine v_iload_n C (n := 1) rfl rfl dX8_kind_4 ?_
  refine v_cvRi C (d := 1) (hR.le (by omega)) (c := 3) rfl cv_X8_192 (by decide) h2 (by decide) [.int a0] rfl (fun _ hc => s_X3_isStep G Z hG hZ   h2 hc) (Nat.le_of_ble_eq_true rfl) dX8_kind_5 rfl (fun r3 => ?_)
  refine v_ifeq C (t := 22) dX8_kind_8 (by decide) ?_ ?_
  · refine v_ldc C (v := (-1000001)) (w4 13 rfl) dX8_kind_22 ?_
    exact v_iret C hr dX8_kind_24 (fun a h => by have h := Option.some.inj h; subst h; rfl)
  · refine v_aload_n C (n := 0) rfl rfl dX8_kind_11 ?_
    refine v_getm C fl_X8_76 rfl ht dX8_kind_12 (fun q4 h5 => ?_)
    refine v_iload_n C (n := 1) rfl rfl dX8_kind_15 ?_
    refine v_cvRi C (d := 0) (hR.le (by omega)) (c := 3) rfl cv_X8_312 (by decide) h5 (by decide) [.int a0] rfl (fun _ hc => s_X3_stepKind G Z hG hZ   h5 hc) (Nat.le_of_ble_eq_true rfl) dX8_kind_16 rfl (fun r6 => ?_)
    refine v_goto C (t := 24) (by decide) dX8_kind_19 ?_
    exact v_iret C hr dX8_kind_24 (fun a h => by have h := Option.some.inj h; subst h; rfl)
set_option maxRecDepth 20000 in
set_option maxHeartbeats 4000000 in
theorem s_X8_as {l : Launch} (G : GT) (Z : ZT) (hG : DA G) (hZ : WT G Z) {this : Nat} {a0 : Int32} {a1 : Int32} {μ : MT} {q : Int32 × MT} (ht : Ob G Z this 8) (hq : m_X8_as Z (gn G) this a0 a1 μ = some q) : MZ l G Z yX8_as cX8_as 3 (some .int) 2 [.ref (ga G this), .int a0, .int a1] μ (some (.int q.1)) q.2 := by
  refine v_met (J := (fun q : Int32 × MT => (some (.int q.1), q.2))) hG hZ (by decide) (Nat.le_of_ble_eq_true rfl) hq ?_
  intro x C hR _ hr
  show VK x G Z (0, 0) 3 (QM x G Z) (fun q : Int32 × MT => (some (.int q.1), q.2)) 0 [(0, .ref (ga G this)), (1, .int a0), (2, .int a1)] [] μ _ some
  unfold m_X8_as
  refine v_aload_n C (n := 0) rfl rfl dX8_as_0 ?_
  refine v_getm C fl_X8_76 rfl ht dX8_as_1 (fun q1 h2 => ?_)
  refine v_iload_n C (n := 1) rfl rfl dX8_as_4 ?_
  refine v_cvRi C (d := 1) (hR.le (by omega)) (c := 3) rfl cv_X8_192 (by decide) h2 (by decide) [.int a0] rfl (fun _ hc => s_X3_isStep G Z hG hZ   h2 hc) (Nat.le_of_ble_eq_true rfl) dX8_as_5 rfl (fun r3 => ?_)
  refine v_ifeq C (t := 18) dX8_as_8 (by decide) ?_ ?_
  · refine v_ldc C (v := (-1000001)) (w4 13 rfl) dX8_as_18 ?_
    exact v_iret C hr dX8_as_20 (fun a h => by have h := Option.some.inj h; subst h; rfl)
  · refine v_iload_n C (n := 2) rfl rfl dX8_as_11 ?_
    refine v_csRi C (d := 0) (hR.le (by omega)) cs_X8_315 (by decide) [.int a1] rfl (fun _ hc => s_X0_hasKind G Z hG hZ   hc) (Nat.le_of_ble_eq_true rfl) dX8_as_12 rfl (fun r4 => ?_)
    refine v_ifne C (t := 21) dX8_as_15 (by decide) ?_ ?_
    · refine v_aload_n C (n := 0) rfl rfl dX8_as_21 ?_
      refine v_getm C fl_X8_76 rfl ht dX8_as_22 (fun q5 h6 => ?_)
      refine v_iload_n C (n := 1) rfl rfl dX8_as_25 ?_
      refine v_cvRi C (d := 0) (hR.le (by omega)) (c := 3) rfl cv_X8_312 (by decide) h6 (by decide) [.int a0] rfl (fun _ hc => s_X3_stepKind G Z hG hZ   h6 hc) (Nat.le_of_ble_eq_true rfl) dX8_as_26 rfl (fun r7 => ?_)
      refine v_iload_n C (n := 2) rfl rfl dX8_as_29 ?_
      refine v_csRi C (d := 1) (hR.le (by omega)) cs_X8_318 (by decide) [.int r7, .int a1] rfl (fun _ hc => s_X0_isOfKind G Z hG hZ   hc) (Nat.le_of_ble_eq_true rfl) dX8_as_30 rfl (fun r8 => ?_)
      refine v_ifne C (t := 42) dX8_as_33 (by decide) ?_ ?_
      · refine v_aload_n C (n := 0) rfl rfl dX8_as_42 ?_
        refine v_aload_n C (n := 0) rfl rfl dX8_as_43 ?_
        refine v_getm C fl_X8_76 rfl ht dX8_as_44 (fun q9 h10 => ?_)
        refine v_getrN C (t := 20) fn_X8_189 rfl rfl h10 dX8_as_47 (fun h11 => ?_)
        refine v_iload_n C (n := 1) rfl rfl dX8_as_50 ?_
        refine v_iald C h11.oa dX8_as_51 (fun x12 => ?_)
        refine v_cvIi C (d := 0) (hR.le (by omega)) (c := 8) rfl cv_X8_107 (by decide) ht (by decide) [.int x12] rfl (fun _ hc => s_X8_fine G Z hG hZ   ht hc) (Nat.le_of_ble_eq_true rfl) dX8_as_52 rfl (fun r13 ν14 => ?_)
        exact v_iret C hr dX8_as_55 (fun a h => by have h := Option.some.inj h; subst h; rfl)
      · refine v_aload_n C (n := 0) rfl rfl dX8_as_36 ?_
        refine v_iconst C (v := 3) (by decide) dX8_as_37 ?_
        refine v_cvIi C (d := 0) (hR.le (by omega)) (c := 8) rfl cv_X8_99 (by decide) ht (by decide) [.int 3] rfl (fun _ hc => s_X8_found G Z hG hZ   ht hc) (Nat.le_of_ble_eq_true rfl) dX8_as_38 rfl (fun r15 ν16 => ?_)
        exact v_iret C hr dX8_as_41 (fun a h => by have h := Option.some.inj h; subst h; rfl)
    · refine v_ldc C (v := (-1000001)) (w4 13 rfl) dX8_as_18 ?_
      exact v_iret C hr dX8_as_20 (fun a h => by have h := Option.some.inj h; subst h; rfl)
set_option maxRecDepth 20000 in
set_option maxHeartbeats 4000000 in
theorem s_X9_sheet {l : Launch} (G : GT) (Z : ZT) (hG : DA G) (hZ : WT G Z) {this : Nat} {a0 : Int32} {a1 : Int32} {a2 : Int32} {μ : MT} {q : Int32 × MT} (ht : Ob G Z this 9) (hq : m_X9_sheet Z this a0 a1 a2 μ = some q) : MZ l G Z yX9_sheet cX9_sheet 5 (some .int) 2 [.ref (ga G this), .int a0, .int a1, .int a2] μ (some (.int q.1)) q.2 := by
  refine v_met (J := (fun q : Int32 × MT => (some (.int q.1), q.2))) hG hZ (by decide) (Nat.le_of_ble_eq_true rfl) hq ?_
  intro x C hR _ hr
  show VK x G Z (0, 0) 5 (QM x G Z) (fun q : Int32 × MT => (some (.int q.1), q.2)) 0 [(0, .ref (ga G this)), (1, .int a0), (2, .int a1), (3, .int a2)] [] μ _ some
  unfold m_X9_sheet
  refine v_aload_n C (n := 0) rfl rfl dX9_sheet_0 ?_
  refine v_iconst C (v := 0) (by decide) dX9_sheet_1 ?_
  refine v_puti C fp_X9_71 rfl rfl ht dX9_sheet_2 (fun ν1 => ?_)
  refine v_iload_n C (n := 1) rfl rfl dX9_sheet_5 ?_
  refine v_csRi C (d := 1) (hR.le (by omega)) cs_X9_85 (by decide) [.int a0] rfl (fun _ hc => s_X9_isSheet G Z hG hZ   hc) (Nat.le_of_ble_eq_true rfl) dX9_sheet_6 rfl (fun r2 => ?_)
  refine v_ifeq C (t := 30) dX9_sheet_9 (by decide) ?_ ?_
  · refine v_ldc C (v := (-1000001)) (w14 18 rfl) dX9_sheet_30 ?_
    exact v_iret C hr dX9_sheet_32 (fun a h => by have h := Option.some.inj h; subst h; rfl)
  · refine v_iload_n C (n := 2) rfl rfl dX9_sheet_12 ?_
    refine v_i2l C (v := (a1 : Int32).toInt64) rfl dX9_sheet_13 ?_
    refine v_lconst C (v := 0) (by decide) dX9_sheet_14 ?_
    refine v_ldc2 C (v := 2) (w14 17 rfl) dX9_sheet_15 ?_
    refine v_csRi C (d := 0) (hR.le (by omega)) cs_X9_81 (by decide) [.long ((a1 : Int32).toInt64), .long 0, .long 2] rfl (fun _ hc => s_X9_in G Z hG hZ   hc) (Nat.le_of_ble_eq_true rfl) dX9_sheet_18 rfl (fun r3 => ?_)
    refine v_ifeq C (t := 30) dX9_sheet_21 (by decide) ?_ ?_
    · refine v_ldc C (v := (-1000001)) (w14 18 rfl) dX9_sheet_30 ?_
      exact v_iret C hr dX9_sheet_32 (fun a h => by have h := Option.some.inj h; subst h; rfl)
    · refine v_iload_n C (n := 3) rfl rfl dX9_sheet_24 ?_
      refine v_bipush C (v := 40) (by decide) dX9_sheet_25 ?_
      refine v_icle C (t := 33) dX9_sheet_27 (by decide) ?_ ?_
      · refine v_aload_n C (n := 0) rfl rfl dX9_sheet_33 ?_
        refine v_iconst C (v := 0) (by decide) dX9_sheet_34 ?_
        refine v_puti C fp_X9_75 rfl rfl ht dX9_sheet_35 (fun ν4 => ?_)
        refine v_iload_n C (n := 3) rfl rfl dX9_sheet_38 ?_
        refine v_ifge C (t := 48) dX9_sheet_39 (by decide) ?_ ?_
        · refine v_aload_n C (n := 0) rfl rfl dX9_sheet_48 ?_
          refine v_getr C (t := 20) fl_X9_7 rfl rfl ht dX9_sheet_49 (fun h5 => ?_)
          refine v_iload_n C (n := 1) rfl rfl dX9_sheet_52 ?_
          refine v_iload_n C (n := 2) rfl rfl dX9_sheet_53 ?_
          refine v_iast C h5 dX9_sheet_54 (fun ν6 => ?_)
          refine v_aload_n C (n := 0) rfl rfl dX9_sheet_55 ?_
          refine v_getr C (t := 20) fl_X9_13 rfl rfl ht dX9_sheet_56 (fun h7 => ?_)
          refine v_iload_n C (n := 1) rfl rfl dX9_sheet_59 ?_
          refine v_iload_n C (n := 3) rfl rfl dX9_sheet_60 ?_
          refine v_iast C h7 dX9_sheet_61 (fun ν8 => ?_)
          refine v_iconst C (v := 0) (by decide) dX9_sheet_62 ?_
          refine v_istore C (lv' := [(4, .int 0), (0, .ref (ga G this)), (1, .int a0), (2, .int a1), (3, .int a2)]) (by decide) rfl dX9_sheet_63 ?_
          refine v_sub (lv' := [(0, .ref (ga G this)), (1, .int a0), (3, .int a2), (4, .int 0)]) [1, 2, 4, 0] rfl ?_
          refine v_lp 65 91 (fun t : Int32 × MT => [(0, .ref (ga G this)), (1, .int a0), (3, .int a2), (4, .int (t.1))]) (fun t : Int32 × MT => t.2) (fun t : MT => [(3, .int a2)]) (fun t : MT => t) ?_ ?_ LN (0, ν8)
          · intro ν11
            refine v_iload_n C (n := 0) rfl rfl dX9_sheet_91 ?_
            exact v_iret C hr dX9_sheet_92 (fun a h => by have h := Option.some.inj h; subst h; rfl)
          · intro X12 F14 hX13 hF15
            rintro ⟨y9, ν10⟩
            refine v_iload C (n := 3) rfl dX9_sheet_65 ?_
            refine v_bipush C (v := 40) (by decide) dX9_sheet_67 ?_
            refine v_icge C (t := 91) dX9_sheet_69 (by decide) ?_ ?_
            · refine v_sub (lv' := [(3, .int a2)]) [2] rfl ?_
              exact v_leaf (hF15 ν10)
            · refine v_aload_n C (n := 0) rfl rfl dX9_sheet_72 ?_
              refine v_getr C (t := 20) fl_X9_16 rfl rfl ht dX9_sheet_73 (fun h16 => ?_)
              refine v_bipush C (v := 40) (by decide) dX9_sheet_76 ?_
              refine v_iload_n C (n := 1) rfl rfl dX9_sheet_78 ?_
              refine v_imul C dX9_sheet_79 ?_
              refine v_iload C (n := 3) rfl dX9_sheet_80 ?_
              refine v_iadd C dX9_sheet_82 ?_
              refine v_iconst C (v := 0) (by decide) dX9_sheet_83 ?_
              refine v_iast C h16 dX9_sheet_84 (fun ν17 => ?_)
              refine v_iinc C (n := 3) (v := y9 + 1) (lv' := [(4, .int (y9 + 1)), (0, .ref (ga G this)), (1, .int a0), (3, .int a2)]) rfl (congrArg (y9 + ·) (by decide : Int32.ofInt (1) = (1 : Int32))) (by decide) rfl dX9_sheet_85 ?_
              refine v_let (y := y9 + 1) (fun x18 => [(4, .int x18), (0, .ref (ga G this)), (1, .int a0), (3, .int a2)]) (fun x18 => []) (fun x18 => ?_)
              refine v_goto C (t := 65) (by decide) dX9_sheet_88 ?_
              refine v_sub (lv' := [(0, .ref (ga G this)), (1, .int a0), (3, .int a2), (4, .int x18)]) [1, 2, 3, 0] rfl ?_
              exact v_leaf (hX13 (x18, ν17))
        · refine v_aload_n C (n := 0) rfl rfl dX9_sheet_42 ?_
          refine v_iconst C (v := 4) (by decide) dX9_sheet_43 ?_
          refine v_cvIi C (d := 0) (hR.le (by omega)) (c := 9) rfl cv_X9_92 (by decide) ht (by decide) [.int 4] rfl (fun _ hc => s_X9_finding G Z hG hZ   ht hc) (Nat.le_of_ble_eq_true rfl) dX9_sheet_44 rfl (fun r19 ν20 => ?_)
          exact v_iret C hr dX9_sheet_47 (fun a h => by have h := Option.some.inj h; subst h; rfl)
      · refine v_ldc C (v := (-1000001)) (w14 18 rfl) dX9_sheet_30 ?_
        exact v_iret C hr dX9_sheet_32 (fun a h => by have h := Option.some.inj h; subst h; rfl)
set_option maxRecDepth 20000 in
set_option maxHeartbeats 4000000 in
theorem s_X9_set {l : Launch} (G : GT) (Z : ZT) (hG : DA G) (hZ : WT G Z) {this : Nat} {a0 : Int32} {a1 : Int32} {a2 : Int32} {μ : MT} {q : Int32 × MT} (ht : Ob G Z this 9) (hq : m_X9_set Z this a0 a1 a2 μ = some q) : MZ l G Z yX9_set cX9_set 4 (some .int) 2 [.ref (ga G this), .int a0, .int a1, .int a2] μ (some (.int q.1)) q.2 := by
  refine v_met (J := (fun q : Int32 × MT => (some (.int q.1), q.2))) hG hZ (by decide) (Nat.le_of_ble_eq_true rfl) hq ?_
  intro x C hR _ hr
  show VK x G Z (0, 0) 4 (QM x G Z) (fun q : Int32 × MT => (some (.int q.1), q.2)) 0 [(0, .ref (ga G this)), (1, .int a0), (2, .int a1), (3, .int a2)] [] μ _ some
  unfold m_X9_set
  refine v_aload_n C (n := 0) rfl rfl dX9_set_0 ?_
  refine v_iconst C (v := 0) (by decide) dX9_set_1 ?_
  refine v_puti C fp_X9_71 rfl rfl ht dX9_set_2 (fun ν1 => ?_)
  refine v_iload_n C (n := 1) rfl rfl dX9_set_5 ?_
  refine v_csRi C (d := 1) (hR.le (by omega)) cs_X9_85 (by decide) [.int a0] rfl (fun _ hc => s_X9_isSheet G Z hG hZ   hc) (Nat.le_of_ble_eq_true rfl) dX9_set_6 rfl (fun r2 => ?_)
  refine v_ifne C (t := 15) dX9_set_9 (by decide) ?_ ?_
  · refine v_aload_n C (n := 0) rfl rfl dX9_set_15 ?_
    refine v_iconst C (v := 0) (by decide) dX9_set_16 ?_
    refine v_puti C fp_X9_75 rfl rfl ht dX9_set_17 (fun ν3 => ?_)
    refine v_aload_n C (n := 0) rfl rfl dX9_set_20 ?_
    refine v_getr C (t := 20) fl_X9_7 rfl rfl ht dX9_set_21 (fun h4 => ?_)
    refine v_iload_n C (n := 1) rfl rfl dX9_set_24 ?_
    refine v_iald C h4.oa dX9_set_25 (fun x5 => ?_)
    refine v_ifge C (t := 35) dX9_set_26 (by decide) ?_ ?_
    · refine v_iload_n C (n := 2) rfl rfl dX9_set_35 ?_
      refine v_i2l C (v := (a1 : Int32).toInt64) rfl dX9_set_36 ?_
      refine v_lconst C (v := 0) (by decide) dX9_set_37 ?_
      refine v_aload_n C (n := 0) rfl rfl dX9_set_38 ?_
      refine v_getr C (t := 20) fl_X9_13 rfl rfl ht dX9_set_39 (fun h6 => ?_)
      refine v_iload_n C (n := 1) rfl rfl dX9_set_42 ?_
      refine v_iald C h6.oa dX9_set_43 (fun x7 => ?_)
      refine v_iconst C (v := 1) (by decide) dX9_set_44 ?_
      refine v_isub C dX9_set_45 ?_
      refine v_i2l C (v := (x7 - 1 : Int32).toInt64) rfl dX9_set_46 ?_
      refine v_csRi C (d := 0) (hR.le (by omega)) cs_X9_81 (by decide) [.long ((a1 : Int32).toInt64), .long 0, .long ((x7 - 1 : Int32).toInt64)] rfl (fun _ hc => s_X9_in G Z hG hZ   hc) (Nat.le_of_ble_eq_true rfl) dX9_set_47 rfl (fun r8 => ?_)
      refine v_ifne C (t := 59) dX9_set_50 (by decide) ?_ ?_
      · refine v_aload_n C (n := 0) rfl rfl dX9_set_59 ?_
        refine v_getr C (t := 20) fl_X9_16 rfl rfl ht dX9_set_60 (fun h9 => ?_)
        refine v_bipush C (v := 40) (by decide) dX9_set_63 ?_
        refine v_iload_n C (n := 1) rfl rfl dX9_set_65 ?_
        refine v_imul C dX9_set_66 ?_
        refine v_iload_n C (n := 2) rfl rfl dX9_set_67 ?_
        refine v_iadd C dX9_set_68 ?_
        refine v_aload_n C (n := 0) rfl rfl dX9_set_69 ?_
        refine v_getr C (t := 20) fl_X9_7 rfl rfl ht dX9_set_70 (fun h10 => ?_)
        refine v_iload_n C (n := 1) rfl rfl dX9_set_73 ?_
        refine v_iald C h10.oa dX9_set_74 (fun x11 => ?_)
        refine v_join 99 (fun t : Int32 => [(0, .ref (ga G this)), (1, .int a0), (2, .int a1)]) (fun t : Int32 => [.int t, .int ((40 * a0) + a1), .ref (ga G (zr Z this 4))]) (fun t : Int32 => ν3) ?_ ?_
        · intro z12
          refine v_iast C h9 dX9_set_99 (fun ν15 => ?_)
          refine v_aload_n C (n := 0) rfl rfl dX9_set_100 ?_
          refine v_getr C (t := 20) fl_X9_16 rfl rfl ht dX9_set_101 (fun h16 => ?_)
          refine v_bipush C (v := 40) (by decide) dX9_set_104 ?_
          refine v_iload_n C (n := 1) rfl rfl dX9_set_106 ?_
          refine v_imul C dX9_set_107 ?_
          refine v_iload_n C (n := 2) rfl rfl dX9_set_108 ?_
          refine v_iadd C dX9_set_109 ?_
          refine v_iald C h16.oa dX9_set_110 (fun x17 => ?_)
          exact v_iret C hr dX9_set_111 (fun a h => by have h := Option.some.inj h; subst h; rfl)
        intro F14 hF13
        refine v_ifne C (t := 83) dX9_set_75 (by decide) ?_ ?_
        · refine v_aload_n C (n := 0) rfl rfl dX9_set_83 ?_
          refine v_getr C (t := 20) fl_X9_7 rfl rfl ht dX9_set_84 (fun h18 => ?_)
          refine v_iload_n C (n := 1) rfl rfl dX9_set_87 ?_
          refine v_iald C h18.oa dX9_set_88 (fun x19 => ?_)
          refine v_iconst C (v := 1) (by decide) dX9_set_89 ?_
          refine v_icne C (t := 98) dX9_set_90 (by decide) ?_ ?_
          · refine v_iload_n C (n := 3) rfl rfl dX9_set_98 ?_
            refine v_sub (lv' := [(0, .ref (ga G this)), (1, .int a0), (2, .int a1)]) [0, 1, 2] rfl ?_
            exact v_leaf (hF13 a2)
          · refine v_iload_n C (n := 3) rfl rfl dX9_set_93 ?_
            refine v_i2s C (v := (a2 : Int32).toInt16.toInt32) rfl dX9_set_94 ?_
            refine v_goto C (t := 99) (by decide) dX9_set_95 ?_
            refine v_sub (lv' := [(0, .ref (ga G this)), (1, .int a0), (2, .int a1)]) [0, 1, 2] rfl ?_
            exact v_leaf (hF13 ((a2 : Int32).toInt16.toInt32))
        · refine v_iload_n C (n := 3) rfl rfl dX9_set_78 ?_
          refine v_i2b C (v := (a2 : Int32).toInt8.toInt32) rfl dX9_set_79 ?_
          refine v_goto C (t := 99) (by decide) dX9_set_80 ?_
          refine v_sub (lv' := [(0, .ref (ga G this)), (1, .int a0), (2, .int a1)]) [0, 1, 2] rfl ?_
          exact v_leaf (hF13 ((a2 : Int32).toInt8.toInt32))
      · refine v_aload_n C (n := 0) rfl rfl dX9_set_53 ?_
        refine v_iconst C (v := 2) (by decide) dX9_set_54 ?_
        refine v_cvIi C (d := 0) (hR.le (by omega)) (c := 9) rfl cv_X9_92 (by decide) ht (by decide) [.int 2] rfl (fun _ hc => s_X9_finding G Z hG hZ   ht hc) (Nat.le_of_ble_eq_true rfl) dX9_set_55 rfl (fun r20 ν21 => ?_)
        exact v_iret C hr dX9_set_58 (fun a h => by have h := Option.some.inj h; subst h; rfl)
    · refine v_aload_n C (n := 0) rfl rfl dX9_set_29 ?_
      refine v_iconst C (v := 1) (by decide) dX9_set_30 ?_
      refine v_cvIi C (d := 0) (hR.le (by omega)) (c := 9) rfl cv_X9_92 (by decide) ht (by decide) [.int 1] rfl (fun _ hc => s_X9_finding G Z hG hZ   ht hc) (Nat.le_of_ble_eq_true rfl) dX9_set_31 rfl (fun r22 ν23 => ?_)
      exact v_iret C hr dX9_set_34 (fun a h => by have h := Option.some.inj h; subst h; rfl)
  · refine v_ldc C (v := (-1000001)) (w14 18 rfl) dX9_set_12 ?_
    exact v_iret C hr dX9_set_14 (fun a h => by have h := Option.some.inj h; subst h; rfl)
