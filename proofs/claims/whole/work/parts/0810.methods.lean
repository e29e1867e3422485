set_option maxRecDepth 20000 in
set_option maxHeartbeats 4000000 in
theorem s_X2_doSeam {l : Launch} (G : GT) (Z : ZT) (hG : DA G) (hZ : WT G Z) {this : Nat} {a0 : Nat} {a1 : Int32} {μ : MT} {q : MT} (ht : Ob G Z this 2) (ha0 : Ob G Z a0 3) (hq : m_X2_doSeam Z this a0 a1 μ = some q) : MZ l G Z yX2_doSeam cX2_doSeam 5 none 3 [.ref (ga G this), .ref (ga G a0), .int a1] μ none q := by
  refine v_met (J := (fun ν : MT => ((none : Option Value), ν))) hG hZ (by decide) (Nat.le_of_ble_eq_true rfl) hq ?_
  intro x C hR _ hr
  show VK x G Z (0, 0) 5 (QM x G Z) (fun ν : MT => ((none : Option Value), ν)) 0 [(0, .ref (ga G this)), (1, .ref (ga G a0)), (2, .int a1)] [] μ _ some
  unfold m_X2_doSeam
  refine v_aload_n C (n := 1) rfl rfl dX2_doSeam_0 ?_
  refine v_iload_n C (n := 2) rfl rfl dX2_doSeam_1 ?_
  refine v_cvRi C (d := 0) (hR.le (by omega)) (c := 3) rfl cv_X2_78 (by decide) ha0 (by decide) [.int a1] rfl (fun _ hc => s_X3_firstAct G Z hG hZ   ha0 hc) (Nat.le_of_ble_eq_true rfl) dX2_doSeam_2 rfl (fun r1 => ?_)
  refine v_istore_n C (lv' := [(3, .int r1), (0, .ref (ga G this)), (1, .ref (ga G a0)), (2, .int a1)]) rfl (by decide) rfl dX2_doSeam_5 ?_
  refine v_sub (lv' := [(0, .ref (ga G this)), (1, .ref (ga G a0)), (2, .int a1), (3, .int r1)]) [1, 2, 3, 0] rfl ?_
  refine v_lp 6 119 (fun t : Int32 × MT => [(0, .ref (ga G this)), (1, .ref (ga G a0)), (2, .int a1), (3, .int (t.1))]) (fun t : Int32 × MT => t.2) (fun t : MT => []) (fun t : MT => t) ?_ ?_ LN (r1, μ)
  · intro ν4
    exact v_vret C hr dX2_doSeam_119 (fun a h => by have h := Option.some.inj h; subst h; rfl)
  · intro X5 F7 hX6 hF8
    rintro ⟨y2, ν3⟩
    refine v_iload_n C (n := 3) rfl rfl dX2_doSeam_6 ?_
    refine v_aload_n C (n := 1) rfl rfl dX2_doSeam_7 ?_
    refine v_iload_n C (n := 2) rfl rfl dX2_doSeam_8 ?_
    refine v_cvRi C (d := 1) (hR.le (by omega)) (c := 3) rfl cv_X2_82 (by decide) ha0 (by decide) [.int a1] rfl (fun _ hc => s_X3_endOfActs G Z hG hZ   ha0 hc) (Nat.le_of_ble_eq_true rfl) dX2_doSeam_9 rfl (fun r9 => ?_)
    refine v_icge C (t := 119) dX2_doSeam_12 (by decide) ?_ ?_
    · refine v_sub (lv' := []) [] rfl ?_
      exact v_leaf (hF8 ν3)
    · refine v_aload_n C (n := 1) rfl rfl dX2_doSeam_15 ?_
      refine v_getrN C (t := 20) fn_X2_85 rfl rfl ha0 dX2_doSeam_16 (fun h10 => ?_)
      refine v_iload_n C (n := 3) rfl rfl dX2_doSeam_19 ?_
      refine v_iald C h10.oa dX2_doSeam_20 (fun x11 => ?_)
      refine v_istore C (lv' := [(4, .int x11), (0, .ref (ga G this)), (1, .ref (ga G a0)), (2, .int a1), (3, .int y2)]) (by decide) rfl dX2_doSeam_21 ?_
      refine v_aload_n C (n := 2) rfl rfl dX2_doSeam_23 ?_
      refine v_getrN C (t := 20) fn_X2_88 rfl rfl ha0 dX2_doSeam_24 (fun h12 => ?_)
      refine v_iload_n C (n := 4) rfl rfl dX2_doSeam_27 ?_
      refine v_iald C h12.oa dX2_doSeam_28 (fun x13 => ?_)
      refine v_join 113 (fun t : MT => [(0, .ref (ga G this)), (1, .ref (ga G a0)), (2, .int a1), (3, .int y2)]) (fun t : MT => []) (fun t : MT => t) ?_ ?_
      · intro ν14
        refine v_iinc C (n := 3) (v := y2 + 1) (lv' := [(3, .int (y2 + 1)), (0, .ref (ga G this)), (1, .ref (ga G a0)), (2, .int a1)]) rfl (congrArg (y2 + ·) (by decide : Int32.ofInt (1) = (1 : Int32))) (by decide) rfl dX2_doSeam_113 ?_
        refine v_let (y := y2 + 1) (fun x17 => [(3, .int x17), (0, .ref (ga G this)), (1, .ref (ga G a0)), (2, .int a1)]) (fun x17 => []) (fun x17 => ?_)
        refine v_goto C (t := 6) (by decide) dX2_doSeam_116 ?_
        refine v_sub (lv' := [(0, .ref (ga G this)), (1, .ref (ga G a0)), (2, .int a1), (3, .int x17)]) [1, 2, 3, 0] rfl ?_
        exact v_leaf (hX6 (x17, ν14))
      intro F16 hF15
      refine v_case (fun c18 => ?_) (fun c18 => ?_)
      · refine v_tin C (t := 56) (k := 7) c18 dX2_doSeam_29 (by decide) (by decide) rfl (by decide) ?_
        refine v_aload_n C (n := 1) rfl rfl dX2_doSeam_56 ?_
        refine v_dup C rfl dX2_doSeam_57 ?_
        refine v_geti C fl_X2_37 rfl ht dX2_doSeam_58 ?_
        refine v_iload C (n := 0) rfl dX2_doSeam_61 ?_
        refine v_iadd C dX2_doSeam_63 ?_
        refine v_puti C fp_X2_37 rfl rfl ht dX2_doSeam_64 (fun ν19 => ?_)
        refine v_goto C (t := 113) (by decide) dX2_doSeam_67 ?_
        refine v_sub (lv' := [(0, .ref (ga G this)), (1, .ref (ga G a0)), (2, .int a1), (3, .int y2)]) [1, 2, 3, 4] rfl ?_
        exact v_leaf (hF15 ν19)
      refine v_case (fun c20 => ?_) (fun c20 => ?_)
      · refine v_tin C (t := 70) (k := 8) c20 dX2_doSeam_29 (by decide) (by decide) rfl (by decide) ?_
        refine v_aload_n C (n := 1) rfl rfl dX2_doSeam_70 ?_
        refine v_dup C rfl dX2_doSeam_71 ?_
        refine v_geti C fl_X2_30 rfl ht dX2_doSeam_72 ?_
        refine v_iconst C (v := 1) (by decide) dX2_doSeam_75 ?_
        refine v_iload C (n := 0) rfl dX2_doSeam_76 ?_
        refine v_ishl C dX2_doSeam_78 ?_
        refine v_ior C dX2_doSeam_79 ?_
        refine v_puti C fp_X2_30 rfl rfl ht dX2_doSeam_80 (fun ν21 => ?_)
        refine v_goto C (t := 113) (by decide) dX2_doSeam_83 ?_
        refine v_sub (lv' := [(0, .ref (ga G this)), (1, .ref (ga G a0)), (2, .int a1), (3, .int y2)]) [1, 2, 3, 4] rfl ?_
        exact v_leaf (hF15 ν21)
      refine v_case (fun c22 => ?_) (fun c22 => ?_)
      · refine v_tin C (t := 86) (k := 9) c22 dX2_doSeam_29 (by decide) (by decide) rfl (by decide) ?_
        refine v_aload_n C (n := 1) rfl rfl dX2_doSeam_86 ?_
        refine v_iload C (n := 0) rfl dX2_doSeam_87 ?_
        refine v_cvIv C (d := 1) (hR.le (by omega)) (c := 2) rfl cv_X2_91 (by decide) ht (by decide) [.int x11] rfl (fun _ hc => s_X2_freeOne G Z hG hZ   ht hc) (Nat.le_of_ble_eq_true rfl) dX2_doSeam_89 rfl (fun ν23 => ?_)
        refine v_goto C (t := 113) (by decide) dX2_doSeam_92 ?_
        refine v_sub (lv' := [(0, .ref (ga G this)), (1, .ref (ga G a0)), (2, .int a1), (3, .int y2)]) [1, 2, 3, 4] rfl ?_
        exact v_leaf (hF15 ν23)
      have nc18 := lv_neT (k := 7) (a := 7) c18 (by decide)
      have nc20 := lv_neT (k := 8) (a := 8) c20 (by decide)
      have nc22 := lv_neT (k := 9) (a := 9) c22 (by decide)
      refine v_tout C (t := 95) dX2_doSeam_29 (by omega) (by decide) ?_
      refine v_aload_n C (n := 1) rfl rfl dX2_doSeam_95 ?_
      refine v_aload_n C (n := 2) rfl rfl dX2_doSeam_96 ?_
      refine v_getrN C (t := 20) fn_X2_88 rfl rfl ha0 dX2_doSeam_97 (fun h24 => ?_)
      refine v_iload_n C (n := 4) rfl rfl dX2_doSeam_100 ?_
      refine v_iald C h24.oa dX2_doSeam_101 (fun x25 => ?_)
      refine v_iload C (n := 0) rfl dX2_doSeam_102 ?_
      refine v_aload_n C (n := 2) rfl rfl dX2_doSeam_104 ?_
      refine v_getrN C (t := 20) fn_X2_95 rfl rfl ha0 dX2_doSeam_105 (fun h26 => ?_)
      refine v_iload_n C (n := 4) rfl rfl dX2_doSeam_108 ?_
      refine v_iald C h26.oa dX2_doSeam_109 (fun x27 => ?_)
      refine v_cvIv C (d := 2) (hR.le (by omega)) (c := 2) rfl cv_X2_98 (by decide) ht (by decide) [.int x25, .int x11, .int x27] rfl (fun _ hc => s_X2_doStep G Z hG hZ   ht hc) (Nat.le_of_ble_eq_true rfl) dX2_doSeam_110 rfl (fun ν28 => ?_)
      refine v_sub (lv' := [(0, .ref (ga G this)), (1, .ref (ga G a0)), (2, .int a1), (3, .int y2)]) [1, 2, 3, 4] rfl ?_
      exact v_leaf (hF15 ν28)
set_option maxRecDepth 20000 in
set_option maxHeartbeats 4000000 in
theorem s_X4_takeAct {l : Launch} (G : GT) (Z : ZT) (hG : DA G) (hZ : WT G Z) {this : Nat} {a0 : Nat} {a1 : Int32} {μ : MT} {q : Int32 × MT} (ht : Ob G Z this 4) (ha0 : Ob G Z a0 3) (hq : m_X4_takeAct Z this a0 a1 μ = some q) : MZ l G Z yX4_takeAct cX4_takeAct 6 (some .int) 3 [.ref (ga G this), .ref (ga G a0), .int a1] μ (some (.int q.1)) q.2 := by
  refine v_met (J := (fun q : Int32 × MT => (some (.int q.1), q.2))) hG hZ (by decide) (Nat.le_of_ble_eq_true rfl) hq ?_
  intro x C hR _ hr
  show VK x G Z (0, 0) 6 (QM x G Z) (fun q : Int32 × MT => (some (.int q.1), q.2)) 0 [(0, .ref (ga G this)), (1, .ref (ga G a0)), (2, .int a1)] [] μ _ some
  unfold m_X4_takeAct
  refine v_aload_n C (n := 1) rfl rfl dX4_takeAct_0 ?_
  refine v_getiN C fn_X4_74 rfl ha0 dX4_takeAct_1 ?_
  refine v_bipush C (v := 40) (by decide) dX4_takeAct_4 ?_
  refine v_iclt C (t := 11) dX4_takeAct_6 (by decide) ?_ ?_
  · refine v_aload_n C (n := 0) rfl rfl dX4_takeAct_11 ?_
    refine v_getr C (t := 7) fl_X4_15 rfl rfl ht dX4_takeAct_12 (fun h1 => ?_)
    refine v_cvIv C (d := 1) (hR.le (by omega)) (c := 7) rfl cv_X4_47 (by decide) h1 (by decide) [] rfl (fun _ hc => s_X7_toNext G Z hG hZ   h1 hc) (Nat.le_of_ble_eq_true rfl) dX4_takeAct_15 rfl (fun ν2 => ?_)
    refine v_iload_n C (n := 2) rfl rfl dX4_takeAct_18 ?_
    refine v_bipush C (v := 7) (by decide) dX4_takeAct_19 ?_
    refine v_join 45 (fun t : Int32 × MT => [(0, .ref (ga G this)), (1, .ref (ga G a0)), (2, .int a1)]) (fun t : Int32 × MT => [.int (t.1)]) (fun t : Int32 × MT => t.2) ?_ ?_
    · rintro ⟨z3, ν4⟩
      refine v_istore_n C (lv' := [(3, .int z3), (0, .ref (ga G this)), (1, .ref (ga G a0)), (2, .int a1)]) rfl (by decide) rfl dX4_takeAct_45 ?_
      refine v_aload_n C (n := 1) rfl rfl dX4_takeAct_46 ?_
      refine v_geti C fl_X4_9 rfl ht dX4_takeAct_47 ?_
      refine v_istore C (lv' := [(4, .int (ν4 this 1)), (3, .int z3), (0, .ref (ga G this)), (1, .ref (ga G a0)), (2, .int a1)]) (by decide) rfl dX4_takeAct_50 ?_
      refine v_let (y := (ν4 this 1)) (fun x7 => [(4, .int x7), (3, .int z3), (0, .ref (ga G this)), (1, .ref (ga G a0)), (2, .int a1)]) (fun x7 => []) (fun x7 => ?_)
      refine v_iconst C (v := 0) (by decide) dX4_takeAct_52 ?_
      refine v_istore C (lv' := [(5, .int 0), (4, .int x7), (3, .int z3), (0, .ref (ga G this)), (1, .ref (ga G a0)), (2, .int a1)]) (by decide) rfl dX4_takeAct_53 ?_
      refine v_iload_n C (n := 2) rfl rfl dX4_takeAct_55 ?_
      refine v_join 79 (fun t : Int32 × Int32 × MT => [(1, .ref (ga G a0)), (2, .int a1), (3, .int (t.1)), (4, .int x7), (5, .int (t.2.1))]) (fun t : Int32 × Int32 × MT => []) (fun t : Int32 × Int32 × MT => t.2.2) ?_ ?_
      · rintro ⟨y8, y9, ν10⟩
        refine v_iload_n C (n := 2) rfl rfl dX4_takeAct_79 ?_
        refine v_ifne C (t := 92) dX4_takeAct_80 (by decide) ?_ ?_
        · refine v_iload_n C (n := 2) rfl rfl dX4_takeAct_92 ?_
          exact v_iret C hr dX4_takeAct_93 (fun a h => by have h := Option.some.inj h; subst h; rfl)
        · refine v_aload_n C (n := 0) rfl rfl dX4_takeAct_83 ?_
          refine v_iload_n C (n := 1) rfl rfl dX4_takeAct_84 ?_
          refine v_iload C (n := 3) rfl dX4_takeAct_85 ?_
          refine v_iload C (n := 4) rfl dX4_takeAct_87 ?_
          refine v_cvIv C (d := 0) (hR.le (by omega)) (c := 3) rfl cv_X4_77 (by decide) ha0 (by decide) [.int a1, .int x7, .int y9] rfl (fun _ hc => s_X3_addAct G Z hG hZ   ha0 hc) (Nat.le_of_ble_eq_true rfl) dX4_takeAct_89 rfl (fun ν13 => ?_)
          refine v_iload_n C (n := 2) rfl rfl dX4_takeAct_92 ?_
          exact v_iret C hr dX4_takeAct_93 (fun a h => by have h := Option.some.inj h; subst h; rfl)
      intro F12 hF11
      refine v_ifne C (t := 79) dX4_takeAct_56 (by decide) ?_ ?_
      · refine v_sub (lv' := [(1, .ref (ga G a0)), (2, .int a1), (3, .int z3), (4, .int x7), (5, .int 0)]) [4, 5, 2, 1, 0] rfl ?_
        exact v_leaf (hF11 (z3, 0, ν4))
      · refine v_iload_n C (n := 5) rfl rfl dX4_takeAct_59 ?_
        refine v_bipush C (v := 6) (by decide) dX4_takeAct_60 ?_
        refine v_icgt C (t := 79) dX4_takeAct_62 (by decide) ?_ ?_
        · refine v_sub (lv' := [(1, .ref (ga G a0)), (2, .int a1), (3, .int z3), (4, .int x7), (5, .int 0)]) [4, 5, 2, 1, 0] rfl ?_
          exact v_leaf (hF11 (z3, 0, ν4))
        · refine v_aload_n C (n := 3) rfl rfl dX4_takeAct_65 ?_
          refine v_iconst C (v := 1) (by decide) dX4_takeAct_66 ?_
          refine v_bipush C (v := 20) (by decide) dX4_takeAct_67 ?_
          refine v_cvIi C (d := 2) (hR.le (by omega)) (c := 4) rfl cv_X4_50 (by decide) ht (by decide) [.int 1, .int 20] rfl (fun _ hc => s_X4_takeNumber G Z hG hZ   ht hc) (Nat.le_of_ble_eq_true rfl) dX4_takeAct_69 rfl (fun r14 ν15 => ?_)
          refine v_istore_n C (lv' := [(3, .int r14), (5, .int 0), (4, .int x7), (0, .ref (ga G this)), (1, .ref (ga G a0)), (2, .int a1)]) rfl (by decide) rfl dX4_takeAct_72 ?_
          refine v_aload_n C (n := 3) rfl rfl dX4_takeAct_73 ?_
          refine v_geti C fl_X4_9 rfl ht dX4_takeAct_74 ?_
          refine v_istore C (lv' := [(5, .int (ν15 this 1)), (3, .int r14), (4, .int x7), (0, .ref (ga G this)), (1, .ref (ga G a0)), (2, .int a1)]) (by decide) rfl dX4_takeAct_77 ?_
          refine v_let (y := (ν15 this 1)) (fun x16 => [(5, .int x16), (3, .int r14), (4, .int x7), (0, .ref (ga G this)), (1, .ref (ga G a0)), (2, .int a1)]) (fun x16 => []) (fun x16 => ?_)
          refine v_sub (lv' := [(1, .ref (ga G a0)), (2, .int a1), (3, .int r14), (4, .int x7), (5, .int x16)]) [4, 5, 1, 2, 0] rfl ?_
          exact v_leaf (hF11 (r14, x16, ν15))
    intro F6 hF5
    refine v_icne C (t := 34) dX4_takeAct_21 (by decide) ?_ ?_
    · refine v_aload_n C (n := 0) rfl rfl dX4_takeAct_34 ?_
      refine v_iconst C (v := 0) (by decide) dX4_takeAct_35 ?_
      refine v_aload_n C (n := 1) rfl rfl dX4_takeAct_36 ?_
      refine v_getiN C fn_X4_54 rfl ha0 dX4_takeAct_37 ?_
      refine v_iconst C (v := 1) (by decide) dX4_takeAct_40 ?_
      refine v_isub C dX4_takeAct_41 ?_
      refine v_cvIi C (d := 2) (hR.le (by omega)) (c := 4) rfl cv_X4_50 (by decide) ht (by decide) [.int 0, .int ((ν2 a0 0) - 1)] rfl (fun _ hc => s_X4_takeNumber G Z hG hZ   ht hc) (Nat.le_of_ble_eq_true rfl) dX4_takeAct_42 rfl (fun r17 ν18 => ?_)
      exact v_leaf (hF5 (r17, ν18))
    · refine v_aload_n C (n := 0) rfl rfl dX4_takeAct_24 ?_
      refine v_iconst C (v := 1) (by decide) dX4_takeAct_25 ?_
      refine v_bipush C (v := 30) (by decide) dX4_takeAct_26 ?_
      refine v_cvIi C (d := 2) (hR.le (by omega)) (c := 4) rfl cv_X4_50 (by decide) ht (by decide) [.int 1, .int 30] rfl (fun _ hc => s_X4_takeNumber G Z hG hZ   ht hc) (Nat.le_of_ble_eq_true rfl) dX4_takeAct_28 rfl (fun r19 ν20 => ?_)
      refine v_goto C (t := 45) (by decide) dX4_takeAct_31 ?_
      exact v_leaf (hF5 (r19, ν20))
  · refine v_iconst C (v := 3) (by decide) dX4_takeAct_9 ?_
    exact v_iret C hr dX4_takeAct_10 (fun a h => by have h := Option.some.inj h; subst h; rfl)
set_option maxRecDepth 20000 in
set_option maxHeartbeats 4000000 in
theorem s_X4_takeBefore {l : Launch} (G : GT) (Z : ZT) (hG : DA G) (hZ : WT G Z) {this : Nat} {a0 : Nat} {μ : MT} {q : Int32 × MT} (ht : Ob G Z this 4) (ha0 : Ob G Z a0 3) (hq : m_X4_takeBefore Z this a0 μ = some q) : MZ l G Z yX4_takeBefore cX4_takeBefore 4 (some .int) 3 [.ref (ga G this), .ref (ga G a0)] μ (some (.int q.1)) q.2 := by
  refine v_met (J := (fun q : Int32 × MT => (some (.int q.1), q.2))) hG hZ (by decide) (Nat.le_of_ble_eq_true rfl) hq ?_
  intro x C hR _ hr
  show VK x G Z (0, 0) 4 (QM x G Z) (fun q : Int32 × MT => (some (.int q.1), q.2)) 0 [(0, .ref (ga G this)), (1, .ref (ga G a0))] [] μ _ some
  unfold m_X4_takeBefore
  refine v_aload_n C (n := 1) rfl rfl dX4_takeBefore_0 ?_
  refine v_getiN C fn_X4_81 rfl ha0 dX4_takeBefore_1 ?_
  refine v_bipush C (v := 10) (by decide) dX4_takeBefore_4 ?_
  refine v_iclt C (t := 11) dX4_takeBefore_6 (by decide) ?_ ?_
  · refine v_aload_n C (n := 0) rfl rfl dX4_takeBefore_11 ?_
    refine v_getr C (t := 7) fl_X4_15 rfl rfl ht dX4_takeBefore_12 (fun h1 => ?_)
    refine v_cvIv C (d := 1) (hR.le (by omega)) (c := 7) rfl cv_X4_47 (by decide) h1 (by decide) [] rfl (fun _ hc => s_X7_toNext G Z hG hZ   h1 hc) (Nat.le_of_ble_eq_true rfl) dX4_takeBefore_15 rfl (fun ν2 => ?_)
    refine v_aload_n C (n := 0) rfl rfl dX4_takeBefore_18 ?_
    refine v_iconst C (v := 0) (by decide) dX4_takeBefore_19 ?_
    refine v_aload_n C (n := 1) rfl rfl dX4_takeBefore_20 ?_
    refine v_getiN C fn_X4_61 rfl ha0 dX4_takeBefore_21 ?_
    refine v_iconst C (v := 1) (by decide) dX4_takeBefore_24 ?_
    refine v_isub C dX4_takeBefore_25 ?_
    refine v_cvIi C (d := 2) (hR.le (by omega)) (c := 4) rfl cv_X4_50 (by decide) ht (by decide) [.int 0, .int ((ν2 a0 1) - 1)] rfl (fun _ hc => s_X4_takeNumber G Z hG hZ   ht hc) (Nat.le_of_ble_eq_true rfl) dX4_takeBefore_26 rfl (fun r3 ν4 => ?_)
    refine v_istore_n C (lv' := [(2, .int r3), (0, .ref (ga G this)), (1, .ref (ga G a0))]) rfl (by decide) rfl dX4_takeBefore_29 ?_
    refine v_iload_n C (n := 0) rfl rfl dX4_takeBefore_30 ?_
    refine v_ifeq C (t := 36) dX4_takeBefore_31 (by decide) ?_ ?_
    · refine v_aload_n C (n := 1) rfl rfl dX4_takeBefore_36 ?_
      refine v_geti C fl_X4_9 rfl ht dX4_takeBefore_37 ?_
      refine v_istore_n C (lv' := [(3, .int (ν4 this 1)), (2, .int r3), (0, .ref (ga G this)), (1, .ref (ga G a0))]) rfl (by decide) rfl dX4_takeBefore_40 ?_
      refine v_let (y := (ν4 this 1)) (fun x5 => [(3, .int x5), (2, .int r3), (0, .ref (ga G this)), (1, .ref (ga G a0))]) (fun x5 => []) (fun x5 => ?_)
      refine v_aload_n C (n := 2) rfl rfl dX4_takeBefore_41 ?_
      refine v_getr C (t := 7) fl_X4_15 rfl rfl ht dX4_takeBefore_42 (fun h6 => ?_)
      refine v_cvRi C (d := 0) (hR.le (by omega)) (c := 7) rfl cv_X4_84 (by decide) h6 (by decide) [] rfl (fun _ hc => s_X7_atNumber G Z hG hZ   h6 hc) (Nat.le_of_ble_eq_true rfl) dX4_takeBefore_45 rfl (fun r7 => ?_)
      refine v_joinm 64 (fun t : Unit => [(0, .ref (ga G this)), (1, .ref (ga G a0)), (3, .int x5)]) (fun t : Unit => []) (fun t : Unit => ν4) ?_ ?_
      · rintro ⟨⟩
        refine v_aload_n C (n := 0) rfl rfl dX4_takeBefore_64 ?_
        refine v_iconst C (v := 0) (by decide) dX4_takeBefore_65 ?_
        refine v_aload_n C (n := 1) rfl rfl dX4_takeBefore_66 ?_
        refine v_getiN C fn_X4_61 rfl ha0 dX4_takeBefore_67 ?_
        refine v_iconst C (v := 1) (by decide) dX4_takeBefore_70 ?_
        refine v_isub C dX4_takeBefore_71 ?_
        refine v_cvIi C (d := 2) (hR.le (by omega)) (c := 4) rfl cv_X4_50 (by decide) ht (by decide) [.int 0, .int ((ν4 a0 1) - 1)] rfl (fun _ hc => s_X4_takeNumber G Z hG hZ   ht hc) (Nat.le_of_ble_eq_true rfl) dX4_takeBefore_72 rfl (fun r11 ν12 => ?_)
        refine v_istore_n C (lv' := [(2, .int r11), (0, .ref (ga G this)), (1, .ref (ga G a0)), (3, .int x5)]) rfl (by decide) rfl dX4_takeBefore_75 ?_
        refine v_iload_n C (n := 0) rfl rfl dX4_takeBefore_76 ?_
        refine v_ifeq C (t := 82) dX4_takeBefore_77 (by decide) ?_ ?_
        · refine v_aload_n C (n := 2) rfl rfl dX4_takeBefore_82 ?_
          refine v_iload_n C (n := 3) rfl rfl dX4_takeBefore_83 ?_
          refine v_aload_n C (n := 1) rfl rfl dX4_takeBefore_84 ?_
          refine v_geti C fl_X4_9 rfl ht dX4_takeBefore_85 ?_
          refine v_cvIv C (d := 1) (hR.le (by omega)) (c := 3) rfl cv_X4_90 (by decide) ha0 (by decide) [.int x5, .int (ν12 this 1)] rfl (fun _ hc => s_X3_addBefore G Z hG hZ   ha0 hc) (Nat.le_of_ble_eq_true rfl) dX4_takeBefore_88 rfl (fun ν13 => ?_)
          refine v_aload_n C (n := 1) rfl rfl dX4_takeBefore_91 ?_
          refine v_cvIi C (d := 2) (hR.le (by omega)) (c := 4) rfl cv_X4_57 (by decide) ht (by decide) [] rfl (fun _ hc => s_X4_takeSign G Z hG hZ   ht hc) (Nat.le_of_ble_eq_true rfl) dX4_takeBefore_92 rfl (fun r14 ν15 => ?_)
          exact v_iret C hr dX4_takeBefore_95 (fun a h => by have h := Option.some.inj h; subst h; rfl)
        · refine v_iload_n C (n := 0) rfl rfl dX4_takeBefore_80 ?_
          exact v_iret C hr dX4_takeBefore_81 (fun a h => by have h := Option.some.inj h; subst h; rfl)
      intro F9 e10 hF8
      refine v_ifeq C (t := 64) dX4_takeBefore_48 (by decide) ?_ ?_
      · refine v_sub (lv' := [(0, .ref (ga G this)), (1, .ref (ga G a0)), (3, .int x5)]) [2, 3, 0] rfl ?_
        exact v_leaf (hF8 ())
      · refine v_aload_n C (n := 2) rfl rfl dX4_takeBefore_51 ?_
        refine v_getr C (t := 7) fl_X4_15 rfl rfl ht dX4_takeBefore_52 (fun h16 => ?_)
        refine v_cvRi C (d := 0) (hR.le (by omega)) (c := 7) rfl cv_X4_87 (by decide) h16 (by decide) [] rfl (fun _ hc => s_X7_numberHere G Z hG hZ   h16 hc) (Nat.le_of_ble_eq_true rfl) dX4_takeBefore_55 rfl (fun r17 => ?_)
        refine v_iload_n C (n := 0) rfl rfl dX4_takeBefore_58 ?_
        refine v_icne C (t := 64) dX4_takeBefore_59 (by decide) ?_ ?_
        · refine v_sub (lv' := [(0, .ref (ga G this)), (1, .ref (ga G a0)), (3, .int x5)]) [2, 3, 0] rfl ?_
          exact v_leaf (hF8 ())
        · refine v_iconst C (v := 2) (by decide) dX4_takeBefore_62 ?_
          exact v_iret C hr dX4_takeBefore_63 (fun a h => by simp only [ob_s, lq, e10] at h; have h := Option.some.inj h; subst h; rfl)
    · refine v_iload_n C (n := 0) rfl rfl dX4_takeBefore_34 ?_
      exact v_iret C hr dX4_takeBefore_35 (fun a h => by have h := Option.some.inj h; subst h; rfl)
  · refine v_iconst C (v := 3) (by decide) dX4_takeBefore_9 ?_
    exact v_iret C hr dX4_takeBefore_10 (fun a h => by have h := Option.some.inj h; subst h; rfl)
set_option maxRecDepth 20000 in
set_option maxHeartbeats 4000000 in
theorem s_X5_weigh {l : Launch} (G : GT) (Z : ZT) (hG : DA G) (hZ : WT G Z) {this : Nat} {a0 : Nat} {a1 : Int32} {μ : MT} {q : MT} (ht : Ob G Z this 5) (ha0 : Ob G Z a0 2) (hq : m_X5_weigh Z this a0 a1 μ = some q) : MZ l G Z yX5_weigh cX5_weigh 4 none 3 [.ref (ga G this), .ref (ga G a0), .int a1] μ none q := by
  refine v_met (J := (fun ν : MT => ((none : Option Value), ν))) hG hZ (by decide) (Nat.le_of_ble_eq_true rfl) hq ?_
  intro x C hR _ hr
  show VK x G Z (0, 0) 4 (QM x G Z) (fun ν : MT => ((none : Option Value), ν)) 0 [(0, .ref (ga G this)), (1, .ref (ga G a0)), (2, .int a1)] [] μ _ some
  unfold m_X5_weigh
  refine v_aload_n C (n := 1) rfl rfl dX5_weigh_0 ?_
  refine v_cvIv C (d := 2) (hR.le (by omega)) (c := 2) rfl cv_X5_71 (by decide) ha0 (by decide) [] rfl (fun _ hc => s_X2_freeAll G Z hG hZ   ha0 hc) (Nat.le_of_ble_eq_true rfl) dX5_weigh_1 rfl (fun ν1 => ?_)
  refine v_aload_n C (n := 1) rfl rfl dX5_weigh_4 ?_
  refine v_cvRi C (d := 1) (hR.le (by omega)) (c := 2) rfl cv_X5_74 (by decide) ha0 (by decide) [] rfl (fun _ hc => s_X2_off G Z hG hZ   ha0 hc) (Nat.le_of_ble_eq_true rfl) dX5_weigh_5 rfl (fun r2 => ?_)
  refine v_istore_n C (lv' := [(3, .int r2), (0, .ref (ga G this)), (1, .ref (ga G a0)), (2, .int a1)]) rfl (by decide) rfl dX5_weigh_8 ?_
  refine v_aload_n C (n := 1) rfl rfl dX5_weigh_9 ?_
  refine v_geti C fl_X5_31 rfl ht dX5_weigh_10 ?_
  refine v_joinm 24 (fun t : Unit => [(0, .ref (ga G this)), (2, .int a1), (3, .int r2)]) (fun t : Unit => []) (fun t : Unit => ν1) ?_ ?_
  · rintro ⟨⟩
    refine v_aload_n C (n := 0) rfl rfl dX5_weigh_24 ?_
    refine v_iconst C (v := 1) (by decide) dX5_weigh_25 ?_
    refine v_putz C (Or.inr rfl) fp_X5_31 rfl rfl ht dX5_weigh_26 (fun ν6 => ?_)
    refine v_aload_n C (n := 0) rfl rfl dX5_weigh_29 ?_
    refine v_iload_n C (n := 2) rfl rfl dX5_weigh_30 ?_
    refine v_puti C fp_X5_34 rfl rfl ht dX5_weigh_31 (fun ν7 => ?_)
    refine v_aload_n C (n := 0) rfl rfl dX5_weigh_34 ?_
    refine v_getr C (t := 20) fl_X5_17 rfl rfl ht dX5_weigh_35 (fun h8 => ?_)
    refine v_iconst C (v := 0) (by decide) dX5_weigh_38 ?_
    refine v_aload_n C (n := 0) rfl rfl dX5_weigh_39 ?_
    refine v_getr C (t := 20) fl_X5_21 rfl rfl ht dX5_weigh_40 (fun h9 => ?_)
    refine v_iconst C (v := 0) (by decide) dX5_weigh_43 ?_
    refine v_iload_n C (n := 1) rfl rfl dX5_weigh_44 ?_
    refine v_copy C (hR.le (by omega)) cy_X5_78 h8.oa h9 (Nat.le_of_ble_eq_true rfl) dX5_weigh_45 (fun ν10 => ?_)
    exact v_vret C hr dX5_weigh_48 (fun a h => by have h := Option.some.inj h; subst h; rfl)
  intro F4 e5 hF3
  refine v_ifeq C (t := 24) dX5_weigh_13 (by decide) ?_ ?_
  · refine v_sub (lv' := [(0, .ref (ga G this)), (2, .int a1), (3, .int r2)]) [1, 3, 0] rfl ?_
    exact v_leaf (hF3 ())
  · refine v_iload_n C (n := 0) rfl rfl dX5_weigh_16 ?_
    refine v_aload_n C (n := 1) rfl rfl dX5_weigh_17 ?_
    refine v_geti C fl_X5_34 rfl ht dX5_weigh_18 ?_
    refine v_icge C (t := 48) dX5_weigh_21 (by decide) ?_ ?_
    · exact v_vret C hr dX5_weigh_48 (fun a h => by simp only [ob_s, lq, e5] at h; have h := Option.some.inj h; subst h; rfl)
    · refine v_sub (lv' := [(0, .ref (ga G this)), (2, .int a1), (3, .int r2)]) [1, 3, 0] rfl ?_
      exact v_leaf (hF3 ())
set_option maxRecDepth 20000 in
set_option maxHeartbeats 4000000 in
theorem s_X6_tellsOrder {l : Launch} (G : GT) (Z : ZT) (hG : DA G) (hZ : WT G Z) {this : Nat} {a0 : Int32} {a1 : Int32} {a2 : Int32} {μ : MT} {q : Int32} (ht : Ob G Z this 6) (hq : m_X6_tellsOrder Z this a0 a1 a2 μ = some q) : MZ l G Z yX6_tellsOrder cX6_tellsOrder 7 (some .boolean) 3 [.ref (ga G this), .int a0, .int a1, .int a2] μ (some (.int q)) μ := by
  refine v_met (J := (fun r : Int32 => (some (.int r), μ))) hG hZ (by decide) (Nat.le_of_ble_eq_true rfl) hq ?_
  intro x C hR _ hr
  show VK x G Z (0, 0) 7 (QM x G Z) (fun r : Int32 => (some (.int r), μ)) 0 [(0, .ref (ga G this)), (1, .int a0), (2, .int a1), (3, .int a2)] [] μ _ some
  unfold m_X6_tellsOrder
  refine v_iconst C (v := 0) (by decide) dX6_tellsOrder_0 ?_
  refine v_istore C (lv' := [(4, .int 0), (0, .ref (ga G this)), (1, .int a0), (2, .int a1), (3, .int a2)]) (by decide) rfl dX6_tellsOrder_1 ?_
  refine v_iconst C (v := 0) (by decide) dX6_tellsOrder_3 ?_
  refine v_istore C (lv' := [(5, .int 0), (4, .int 0), (0, .ref (ga G this)), (1, .int a0), (2, .int a1), (3, .int a2)]) (by decide) rfl dX6_tellsOrder_4 ?_
  refine v_sub (lv' := [(0, .ref (ga G this)), (1, .int a0), (2, .int a1), (3, .int a2), (4, .int 0), (5, .int 0)]) [2, 3, 4, 5, 1, 0] rfl ?_
  refine v_lpm 6 62 (fun t : Int32 × Int32 => [(0, .ref (ga G this)), (1, .int a0), (2, .int a1), (3, .int a2), (4, .int (t.1)), (5, .int (t.2))]) (fun t : Int32 × Int32 => μ) (fun t : Unit => []) (fun t : Unit => μ) ?_ ?_ LN (0, 0)
  · rintro ⟨⟩
    refine v_iconst C (v := 1) (by decide) dX6_tellsOrder_62 ?_
    exact v_zret C (Or.inr rfl) hr dX6_tellsOrder_63 (fun a h => by have h := Option.some.inj h; subst h; rfl)
  · intro X3 F5 e7 hX4 hF6
    rintro ⟨y1, y2⟩
    refine v_iload C (n := 5) rfl dX6_tellsOrder_6 ?_
    refine v_iload_n C (n := 3) rfl rfl dX6_tellsOrder_8 ?_
    refine v_icge C (t := 62) dX6_tellsOrder_9 (by decide) ?_ ?_
    · refine v_sub (lv' := []) [] rfl ?_
      exact v_leaf (hF6 ())
    · refine v_aload_n C (n := 0) rfl rfl dX6_tellsOrder_12 ?_
      refine v_iload_n C (n := 1) rfl rfl dX6_tellsOrder_13 ?_
      refine v_iload_n C (n := 2) rfl rfl dX6_tellsOrder_14 ?_
      refine v_iload C (n := 5) rfl dX6_tellsOrder_15 ?_
      refine v_iadd C dX6_tellsOrder_17 ?_
      refine v_cvRi C (d := 2) (hR.le (by omega)) (c := 6) rfl cv_X6_47 (by decide) ht (by decide) [.int a0, .int (a1 + y2)] rfl (fun _ hc => s_X6_itemAt G Z hG hZ   ht hc) (Nat.le_of_ble_eq_true rfl) dX6_tellsOrder_18 rfl (fun r8 => ?_)
      refine v_istore C (lv' := [(6, .int r8), (0, .ref (ga G this)), (1, .int a0), (2, .int a1), (3, .int a2), (4, .int y1), (5, .int y2)]) (by decide) rfl dX6_tellsOrder_21 ?_
      refine v_iload C (n := 0) rfl dX6_tellsOrder_23 ?_
      refine v_iflt C (t := 45) dX6_tellsOrder_25 (by decide) ?_ ?_
      · refine v_iconst C (v := 0) (by decide) dX6_tellsOrder_45 ?_
        exact v_zret C (Or.inl rfl) hr dX6_tellsOrder_46 (fun a h => by simp only [ob_s, lq, e7] at h; have h := Option.some.inj h; subst h; rfl)
      · refine v_iload C (n := 0) rfl dX6_tellsOrder_28 ?_
        refine v_iload_n C (n := 4) rfl rfl dX6_tellsOrder_30 ?_
        refine v_icge C (t := 45) dX6_tellsOrder_31 (by decide) ?_ ?_
        · refine v_iconst C (v := 0) (by decide) dX6_tellsOrder_45 ?_
          exact v_zret C (Or.inl rfl) hr dX6_tellsOrder_46 (fun a h => by simp only [ob_s, lq, e7] at h; have h := Option.some.inj h; subst h; rfl)
        · refine v_iload C (n := 5) rfl dX6_tellsOrder_34 ?_
          refine v_iload C (n := 0) rfl dX6_tellsOrder_36 ?_
          refine v_ishr C dX6_tellsOrder_38 ?_
          refine v_iconst C (v := 1) (by decide) dX6_tellsOrder_39 ?_
          refine v_iand C dX6_tellsOrder_40 ?_
          refine v_iconst C (v := 1) (by decide) dX6_tellsOrder_41 ?_
          refine v_icne C (t := 47) dX6_tellsOrder_42 (by decide) ?_ ?_
          · refine v_iload C (n := 5) rfl dX6_tellsOrder_47 ?_
            refine v_iconst C (v := 1) (by decide) dX6_tellsOrder_49 ?_
            refine v_iload C (n := 0) rfl dX6_tellsOrder_50 ?_
            refine v_ishl C dX6_tellsOrder_52 ?_
            refine v_ior C dX6_tellsOrder_53 ?_
            refine v_istore C (lv' := [(4, .int (y1 ||| (1 <<< (r8 &&& 31)))), (6, .int r8), (0, .ref (ga G this)), (1, .int a0), (2, .int a1), (3, .int a2), (5, .int y2)]) (by decide) rfl dX6_tellsOrder_54 ?_
            refine v_let (y := (y1 ||| (1 <<< (r8 &&& 31)))) (fun x9 => [(4, .int x9), (6, .int r8), (0, .ref (ga G this)), (1, .int a0), (2, .int a1), (3, .int a2), (5, .int y2)]) (fun x9 => []) (fun x9 => ?_)
            refine v_iinc C (n := 6) (v := y2 + 1) (lv' := [(5, .int (y2 + 1)), (4, .int x9), (6, .int r8), (0, .ref (ga G this)), (1, .int a0), (2, .int a1), (3, .int a2)]) rfl (congrArg (y2 + ·) (by decide : Int32.ofInt (1) = (1 : Int32))) (by decide) rfl dX6_tellsOrder_56 ?_
            refine v_let (y := y2 + 1) (fun x10 => [(5, .int x10), (4, .int x9), (6, .int r8), (0, .ref (ga G this)), (1, .int a0), (2, .int a1), (3, .int a2)]) (fun x10 => []) (fun x10 => ?_)
            refine v_goto C (t := 6) (by decide) dX6_tellsOrder_59 ?_
            refine v_sub (lv' := [(0, .ref (ga G this)), (1, .int a0), (2, .int a1), (3, .int a2), (4, .int x9), (5, .int x10)]) [3, 4, 5, 6, 1, 0] rfl ?_
            exact v_leaf (hX4 (x9, x10))
          · refine v_iconst C (v := 0) (by decide) dX6_tellsOrder_45 ?_
            exact v_zret C (Or.inl rfl) hr dX6_tellsOrder_46 (fun a h => by simp only [ob_s, lq, e7] at h; have h := Option.some.inj h; subst h; rfl)
set_option maxRecDepth 20000 in
set_option maxHeartbeats 4000000 in
theorem s_X6_allWithin {l : Launch} (G : GT) (Z : ZT) (hG : DA G) (hZ : WT G Z) {this : Nat} {a0 : Int32} {a1 : Int32} {a2 : Int32} {a3 : Int32} {μ : MT} {q : Int32} (ht : Ob G Z this 6) (hq : m_X6_allWithin Z this a0 a1 a2 a3 μ = some q) : MZ l G Z yX6_allWithin cX6_allWithin 7 (some .boolean) 3 [.ref (ga G this), .int a0, .int a1, .int a2, .int a3] μ (some (.int q)) μ := by
  refine v_met (J := (fun r : Int32 => (some (.int r), μ))) hG hZ (by decide) (Nat.le_of_ble_eq_true rfl) hq ?_
  intro x C hR _ hr
  show VK x G Z (0, 0) 7 (QM x G Z) (fun r : Int32 => (some (.int r), μ)) 0 [(0, .ref (ga G this)), (1, .int a0), (2, .int a1), (3, .int a2), (4, .int a3)] [] μ _ some
  unfold m_X6_allWithin
  refine v_iconst C (v := 0) (by decide) dX6_allWithin_0 ?_
  refine v_istore C (lv' := [(5, .int 0), (0, .ref (ga G this)), (1, .int a0), (2, .int a1), (3, .int a2), (4, .int a3)]) (by decide) rfl dX6_allWithin_1 ?_
  refine v_sub (lv' := [(0, .ref (ga G this)), (1, .int a0), (2, .int a1), (3, .int a2), (4, .int a3), (5, .int 0)]) [1, 2, 3, 4, 5, 0] rfl ?_
  refine v_lpm 3 43 (fun t : Int32 => [(0, .ref (ga G this)), (1, .int a0), (2, .int a1), (3, .int a2), (4, .int a3), (5, .int t)]) (fun t : Int32 => μ) (fun t : Unit => []) (fun t : Unit => μ) ?_ ?_ LN 0
  · rintro ⟨⟩
    refine v_iconst C (v := 1) (by decide) dX6_allWithin_43 ?_
    exact v_zret C (Or.inr rfl) hr dX6_allWithin_44 (fun a h => by have h := Option.some.inj h; subst h; rfl)
  · intro X2 F4 e6 hX3 hF5
    intro y1
    refine v_iload C (n := 5) rfl dX6_allWithin_3 ?_
    refine v_iload_n C (n := 3) rfl rfl dX6_allWithin_5 ?_
    refine v_icge C (t := 43) dX6_allWithin_6 (by decide) ?_ ?_
    · refine v_sub (lv' := []) [] rfl ?_
      exact v_leaf (hF5 ())
    · refine v_aload_n C (n := 0) rfl rfl dX6_allWithin_9 ?_
      refine v_iload_n C (n := 1) rfl rfl dX6_allWithin_10 ?_
      refine v_iload_n C (n := 2) rfl rfl dX6_allWithin_11 ?_
      refine v_iload C (n := 5) rfl dX6_allWithin_12 ?_
      refine v_iadd C dX6_allWithin_14 ?_
      refine v_cvRi C (d := 2) (hR.le (by omega)) (c := 6) rfl cv_X6_47 (by decide) ht (by decide) [.int a0, .int (a1 + y1)] rfl (fun _ hc => s_X6_itemAt G Z hG hZ   ht hc) (Nat.le_of_ble_eq_true rfl) dX6_allWithin_15 rfl (fun r7 => ?_)
      refine v_istore C (lv' := [(6, .int r7), (0, .ref (ga G this)), (1, .int a0), (2, .int a1), (3, .int a2), (4, .int a3), (5, .int y1)]) (by decide) rfl dX6_allWithin_18 ?_
      refine v_iload C (n := 0) rfl dX6_allWithin_20 ?_
      refine v_iload C (n := 5) rfl dX6_allWithin_22 ?_
      refine v_ineg C dX6_allWithin_24 ?_
      refine v_iclt C (t := 35) dX6_allWithin_25 (by decide) ?_ ?_
      · refine v_iconst C (v := 0) (by decide) dX6_allWithin_35 ?_
        exact v_zret C (Or.inl rfl) hr dX6_allWithin_36 (fun a h => by simp only [ob_s, lq, e6] at h; have h := Option.some.inj h; subst h; rfl)
      · refine v_iload C (n := 0) rfl dX6_allWithin_28 ?_
        refine v_iload C (n := 5) rfl dX6_allWithin_30 ?_
        refine v_icle C (t := 37) dX6_allWithin_32 (by decide) ?_ ?_
        · refine v_iinc C (n := 6) (v := y1 + 1) (lv' := [(5, .int (y1 + 1)), (6, .int r7), (0, .ref (ga G this)), (1, .int a0), (2, .int a1), (3, .int a2), (4, .int a3)]) rfl (congrArg (y1 + ·) (by decide : Int32.ofInt (1) = (1 : Int32))) (by decide) rfl dX6_allWithin_37 ?_
          refine v_let (y := y1 + 1) (fun x8 => [(5, .int x8), (6, .int r7), (0, .ref (ga G this)), (1, .int a0), (2, .int a1), (3, .int a2), (4, .int a3)]) (fun x8 => []) (fun x8 => ?_)
          refine v_goto C (t := 3) (by decide) dX6_allWithin_40 ?_
          refine v_sub (lv' := [(0, .ref (ga G this)), (1, .int a0), (2, .int a1), (3, .int a2), (4, .int a3), (5, .int x8)]) [2, 3, 4, 5, 6, 0] rfl ?_
          exact v_leaf (hX3 x8)
        · refine v_iconst C (v := 0) (by decide) dX6_allWithin_35 ?_
          exact v_zret C (Or.inl rfl) hr dX6_allWithin_36 (fun a h => by simp only [ob_s, lq, e6] at h; have h := Option.some.inj h; subst h; rfl)
set_option maxRecDepth 20000 in
set_option maxHeartbeats 4000000 in
theorem s_X7_atWord {l : Launch} (G : GT) (Z : ZT) (hG : DA G) (hZ : WT G Z) {this : Nat} {a0 : Int32} {μ : MT} {q : Int32} (ht : Ob G Z this 7) (hq : m_X7_atWord Z this a0 μ = some q) : MZ l G Z yX7_atWord cX7_atWord 2 (some .boolean) 5 [.ref (ga G this), .int a0] μ (some (.int q)) μ := by
  refine v_met (J := (fun r : Int32 => (some (.int r), μ))) hG hZ (by decide) (Nat.le_of_ble_eq_true rfl) hq ?_
  intro x C hR _ hr
  show VK x G Z (0, 0) 2 (QM x G Z) (fun r : Int32 => (some (.int r), μ)) 0 [(0, .ref (ga G this)), (1, .int a0)] [] μ _ some
  unfold m_X7_atWord
  refine v_aload_n C (n := 0) rfl rfl dX7_atWord_0 ?_
  refine v_geti C fl_X7_25 rfl ht dX7_atWord_1 ?_
  refine v_iconst C (v := 1) (by decide) dX7_atWord_4 ?_
  refine v_icne C (t := 23) dX7_atWord_5 (by decide) ?_ ?_
  · refine v_iconst C (v := 0) (by decide) dX7_atWord_23 ?_
    exact v_zret C (Or.inl rfl) hr dX7_atWord_24 (fun a h => by have h := Option.some.inj h; subst h; rfl)
  · refine v_aload_n C (n := 0) rfl rfl dX7_atWord_8 ?_
    refine v_iload_n C (n := 1) rfl rfl dX7_atWord_9 ?_
    refine v_csRr C (d := 0) (hR.le (by omega)) cs_X7_73 (by decide) [.int a0] rfl (fun _ hc => s_X7_spelling G Z hG hZ   hc) (Nat.le_of_ble_eq_true rfl) dX7_atWord_10 rfl (fun r1 => ?_)
    refine v_stc (fun hs_r1 => ?_)
    refine v_cvRi C (d := 4) (hR.le (by omega)) (c := 7) rfl cv_X7_77 (by decide) ht (by decide) [.ref (ga G r1)] rfl (fun _ hc => s_X7_spells G Z hG hZ   ht hs_r1 hc) (Nat.le_of_ble_eq_true rfl) dX7_atWord_13 rfl (fun r2 => ?_)
    refine v_ifeq C (t := 23) dX7_atWord_16 (by decide) ?_ ?_
    · refine v_iconst C (v := 0) (by decide) dX7_atWord_23 ?_
      exact v_zret C (Or.inl rfl) hr dX7_atWord_24 (fun a h => by have h := Option.some.inj h; subst h; rfl)
    · refine v_iconst C (v := 1) (by decide) dX7_atWord_19 ?_
      refine v_goto C (t := 24) (by decide) dX7_atWord_20 ?_
      exact v_zret C (Or.inr rfl) hr dX7_atWord_24 (fun a h => by have h := Option.some.inj h; subst h; rfl)
set_option maxRecDepth 20000 in
set_option maxHeartbeats 4000000 in
theorem s_X8_orders {l : Launch} (G : GT) (Z : ZT) (hG : DA G) (hZ : WT G Z) {this : Nat} {μ : MT} {q : Int32 × MT} (ht : Ob G Z this 8) (hq : m_X8_orders Z (gn G) this μ = some q) : MZ l G Z yX8_orders cX8_orders 1 (some .int) 3 [.ref (ga G this)] μ (some (.int q.1)) q.2 := by
  refine v_met (J := (fun q : Int32 × MT => (some (.int q.1), q.2))) hG hZ (by decide) (Nat.le_of_ble_eq_true rfl) hq ?_
  intro x C hR _ hr
  show VK x G Z (0, 0) 1 (QM x G Z) (fun q : Int32 × MT => (some (.int q.1), q.2)) 0 [(0, .ref (ga G this))] [] μ _ some
  unfold m_X8_orders
  refine v_aload_n C (n := 0) rfl rfl dX8_orders_0 ?_
  refine v_getm C fl_X8_76 rfl ht dX8_orders_1 (fun q1 h2 => ?_)
  refine v_cvRi C (d := 0) (hR.le (by omega)) (c := 3) rfl cv_X8_205 (by decide) h2 (by decide) [] rfl (fun _ hc => s_X3_isNone G Z hG hZ   h2 hc) (Nat.le_of_ble_eq_true rfl) dX8_orders_4 rfl (fun r3 => ?_)
  refine v_ifeq C (t := 13) dX8_orders_7 (by decide) ?_ ?_
  · refine v_aload_n C (n := 0) rfl rfl dX8_orders_13 ?_
    refine v_getr C (t := 5) fl_X8_55 rfl rfl ht dX8_orders_14 (fun h4 => ?_)
    refine v_aload_n C (n := 0) rfl rfl dX8_orders_17 ?_
    refine v_getm C fl_X8_76 rfl ht dX8_orders_18 (fun q5 h6 => ?_)
    refine v_cvIi C (d := 2) (hR.le (by omega)) (c := 5) rfl cv_X8_264 (by decide) h4 (by decide) [.ref (ga G q5)] rfl (fun _ hc => s_X5_howManyFit G Z hG hZ   h4 h6 hc) (Nat.le_of_ble_eq_true rfl) dX8_orders_21 rfl (fun r7 ν8 => ?_)
    exact v_iret C hr dX8_orders_24 (fun a h => by have h := Option.some.inj h; subst h; rfl)
  · refine v_ldc C (v := (-1000002)) (w8 24 rfl) dX8_orders_10 ?_
    exact v_iret C hr dX8_orders_12 (fun a h => by have h := Option.some.inj h; subst h; rfl)
set_option maxRecDepth 20000 in
set_option maxHeartbeats 4000000 in
theorem s_X8_crack {l : Launch} (G : GT) (Z : ZT) (hG : DA G) (hZ : WT G Z) {this : Nat} {a0 : Int32} {μ : MT} {q : Int32} (ht : Ob G Z this 8) (hq : m_X8_crack Z this a0 μ = some q) : MZ l G Z yX8_crack cX8_crack 2 (some .int) 3 [.ref (ga G this), .int a0] μ (some (.int q)) μ := by
  refine v_met (J := (fun r : Int32 => (some (.int r), μ))) hG hZ (by decide) (Nat.le_of_ble_eq_true rfl) hq ?_
  intro x C hR _ hr
  show VK x G Z (0, 0) 2 (QM x G Z) (fun r : Int32 => (some (.int r), μ)) 0 [(0, .ref (ga G this)), (1, .int a0)] [] μ _ some
  unfold m_X8_crack
  refine v_iload_n C (n := 1) rfl rfl dX8_crack_0 ?_
  refine v_iflt C (t := 10) dX8_crack_1 (by decide) ?_ ?_
  · refine v_ldc C (v := (-1000001)) (w4 13 rfl) dX8_crack_10 ?_
    exact v_iret C hr dX8_crack_12 (fun a h => by have h := Option.some.inj h; subst h; rfl)
  · refine v_iload_n C (n := 1) rfl rfl dX8_crack_4 ?_
    refine v_bipush C (v := 60) (by decide) dX8_crack_5 ?_
    refine v_icle C (t := 13) dX8_crack_7 (by decide) ?_ ?_
    · refine v_aload_n C (n := 0) rfl rfl dX8_crack_13 ?_
      refine v_getr C (t := 2) fl_X8_45 rfl rfl ht dX8_crack_14 (fun h1 => ?_)
      refine v_sipush C (v := 300) (by decide) dX8_crack_17 ?_
      refine v_iconst C (v := 4) (by decide) dX8_crack_20 ?_
      refine v_iload_n C (n := 1) rfl rfl dX8_crack_21 ?_
      refine v_imul C dX8_crack_22 ?_
      refine v_isub C dX8_crack_23 ?_
      refine v_cvRi C (d := 2) (hR.le (by omega)) (c := 2) rfl cv_X8_296 (by decide) h1 (by decide) [.int (300 - (4 * a0))] rfl (fun _ hc => s_X2_firstAbove G Z hG hZ   h1 hc) (Nat.le_of_ble_eq_true rfl) dX8_crack_24 rfl (fun r2 => ?_)
      exact v_iret C hr dX8_crack_27 (fun a h => by have h := Option.some.inj h; subst h; rfl)
    · refine v_ldc C (v := (-1000001)) (w4 13 rfl) dX8_crack_10 ?_
      exact v_iret C hr dX8_crack_12 (fun a h => by have h := Option.some.inj h; subst h; rfl)
set_option maxRecDepth 20000 in
set_option maxHeartbeats 4000000 in
theorem s_X8_warm {l : Launch} (G : GT) (Z : ZT) (hG : DA G) (hZ : WT G Z) {this : Nat} {μ : MT} {q : Int32} (ht : Ob G Z this 8) (hq : m_X8_warm Z (gn G) this μ = some q) : MZ l G Z yX8_warm cX8_warm 2 (some .int) 3 [.ref (ga G this)] μ (some (.int q)) μ := by
  refine v_met (J := (fun r : Int32 => (some (.int r), μ))) hG hZ (by decide) (Nat.le_of_ble_eq_true rfl) hq ?_
  intro x C hR _ hr
  show VK x G Z (0, 0) 2 (QM x G Z) (fun r : Int32 => (some (.int r), μ)) 0 [(0, .ref (ga G this))] [] μ _ some
  unfold m_X8_warm
  refine v_aload_n C (n := 0) rfl rfl dX8_warm_0 ?_
  refine v_getm C fl_X8_76 rfl ht dX8_warm_1 (fun q1 h2 => ?_)
  refine v_cvRi C (d := 0) (hR.le (by omega)) (c := 3) rfl cv_X8_205 (by decide) h2 (by decide) [] rfl (fun _ hc => s_X3_isNone G Z hG hZ   h2 hc) (Nat.le_of_ble_eq_true rfl) dX8_warm_4 rfl (fun r3 => ?_)
  refine v_ifeq C (t := 13) dX8_warm_7 (by decide) ?_ ?_
  · refine v_bipush C (v := 60) (by decide) dX8_warm_13 ?_
    refine v_istore_n C (lv' := [(1, .int 60), (0, .ref (ga G this))]) rfl (by decide) rfl dX8_warm_15 ?_
    refine v_sub (lv' := [(0, .ref (ga G this)), (1, .int 60)]) [1, 0] rfl ?_
    refine v_lpm 16 47 (fun t : Int32 => [(0, .ref (ga G this)), (1, .int t)]) (fun t : Int32 => μ) (fun t : Unit => []) (fun t : Unit => μ) ?_ ?_ LN 60
    · rintro ⟨⟩
      refine v_ldc C (v := (-1000000)) (w8 7 rfl) dX8_warm_47 ?_
      exact v_iret C hr dX8_warm_49 (fun a h => by have h := Option.some.inj h; subst h; rfl)
    · intro X5 F7 e9 hX6 hF8
      intro y4
      refine v_iload_n C (n := 1) rfl rfl dX8_warm_16 ?_
      refine v_iflt C (t := 47) dX8_warm_17 (by decide) ?_ ?_
      · refine v_sub (lv' := []) [] rfl ?_
        exact v_leaf (hF8 ())
      · refine v_aload_n C (n := 0) rfl rfl dX8_warm_20 ?_
        refine v_getr C (t := 2) fl_X8_45 rfl rfl ht dX8_warm_21 (fun h10 => ?_)
        refine v_sipush C (v := 300) (by decide) dX8_warm_24 ?_
        refine v_iconst C (v := 4) (by decide) dX8_warm_27 ?_
        refine v_iload_n C (n := 1) rfl rfl dX8_warm_28 ?_
        refine v_imul C dX8_warm_29 ?_
        refine v_isub C dX8_warm_30 ?_
        refine v_cvRi C (d := 2) (hR.le (by omega)) (c := 2) rfl cv_X8_296 (by decide) h10 (by decide) [.int (300 - (4 * y4))] rfl (fun _ hc => s_X2_firstAbove G Z hG hZ   h10 hc) (Nat.le_of_ble_eq_true rfl) dX8_warm_31 rfl (fun r11 => ?_)
        refine v_ldc C (v := (-1000000)) (w8 7 rfl) dX8_warm_34 ?_
        refine v_icne C (t := 41) dX8_warm_36 (by decide) ?_ ?_
        · refine v_iinc C (n := 1) (v := y4 + (-1)) (lv' := [(1, .int (y4 + (-1))), (0, .ref (ga G this))]) rfl (congrArg (y4 + ·) (by decide : Int32.ofInt (-1) = (-1 : Int32))) (by decide) rfl dX8_warm_41 ?_
          refine v_let (y := y4 + (-1)) (fun x12 => [(1, .int x12), (0, .ref (ga G this))]) (fun x12 => []) (fun x12 => ?_)
          refine v_goto C (t := 16) (by decide) dX8_warm_44 ?_
          refine v_sub (lv' := [(0, .ref (ga G this)), (1, .int x12)]) [1, 0] rfl ?_
          exact v_leaf (hX6 x12)
        · refine v_iload_n C (n := 1) rfl rfl dX8_warm_39 ?_
          exact v_iret C hr dX8_warm_40 (fun a h => by simp only [ob_s, lq, e9] at h; have h := Option.some.inj h; subst h; rfl)
  · refine v_ldc C (v := (-1000002)) (w8 24 rfl) dX8_warm_10 ?_
    exact v_iret C hr dX8_warm_12 (fun a h => by have h := Option.some.inj h; subst h; rfl)
set_option maxRecDepth 20000 in
set_option maxHeartbeats 4000000 in
theorem s_X8_wireBend {l : Launch} (G : GT) (Z : ZT) (hG : DA G) (hZ : WT G Z) {this : Nat} {a0 : Int32} {a1 : Int32} {a2 : Int32} {μ : MT} {q : Int32} (ht : Ob G Z this 8) (hq : m_X8_wireBend Z this a0 a1 a2 μ = some q) : MZ l G Z yX8_wireBend cX8_wireBend 7 (some .int) 3 [.ref (ga G this), .int a0, .int a1, .int a2] μ (some (.int q)) μ := by
  refine v_met (J := (fun r : Int32 => (some (.int r), μ))) hG hZ (by decide) (Nat.le_of_ble_eq_true rfl) hq ?_
  intro x C hR _ hr
  show VK x G Z (0, 0) 7 (QM x G Z) (fun r : Int32 => (some (.int r), μ)) 0 [(0, .ref (ga G this)), (1, .int a0), (2, .int a1), (3, .int a2)] [] μ _ some
  unfold m_X8_wireBend
  refine v_aload_n C (n := 0) rfl rfl dX8_wireBend_0 ?_
  refine v_getr C (t := 6) fl_X8_10 rfl rfl ht dX8_wireBend_1 (fun h1 => ?_)
  refine v_iload_n C (n := 1) rfl rfl dX8_wireBend_4 ?_
  refine v_iload_n C (n := 2) rfl rfl dX8_wireBend_5 ?_
  refine v_iload_n C (n := 3) rfl rfl dX8_wireBend_6 ?_
  refine v_iadd C dX8_wireBend_7 ?_
  refine v_cvRi C (d := 2) (hR.le (by omega)) (c := 6) rfl cv_X8_217 (by decide) h1 (by decide) [.int a0, .int (a1 + a2)] rfl (fun _ hc => s_X6_itemAt G Z hG hZ   h1 hc) (Nat.le_of_ble_eq_true rfl) dX8_wireBend_8 rfl (fun r2 => ?_)
  refine v_istore C (lv' := [(4, .int r2), (0, .ref (ga G this)), (1, .int a0), (2, .int a1), (3, .int a2)]) (by decide) rfl dX8_wireBend_11 ?_
  refine v_aload_n C (n := 1) rfl rfl dX8_wireBend_13 ?_
  refine v_getr C (t := 6) fl_X8_10 rfl rfl ht dX8_wireBend_14 (fun h3 => ?_)
  refine v_iload_n C (n := 2) rfl rfl dX8_wireBend_17 ?_
  refine v_iload_n C (n := 3) rfl rfl dX8_wireBend_18 ?_
  refine v_iload_n C (n := 4) rfl rfl dX8_wireBend_19 ?_
  refine v_iadd C dX8_wireBend_20 ?_
  refine v_iconst C (v := 1) (by decide) dX8_wireBend_21 ?_
  refine v_iadd C dX8_wireBend_22 ?_
  refine v_cvRi C (d := 2) (hR.le (by omega)) (c := 6) rfl cv_X8_217 (by decide) h3 (by decide) [.int a0, .int ((a1 + a2) + 1)] rfl (fun _ hc => s_X6_itemAt G Z hG hZ   h3 hc) (Nat.le_of_ble_eq_true rfl) dX8_wireBend_23 rfl (fun r4 => ?_)
  refine v_iload C (n := 0) rfl dX8_wireBend_26 ?_
  refine v_isub C dX8_wireBend_28 ?_
  refine v_istore C (lv' := [(5, .int (r4 - r2)), (4, .int r2), (0, .ref (ga G this)), (1, .int a0), (2, .int a1), (3, .int a2)]) (by decide) rfl dX8_wireBend_29 ?_
  refine v_let (y := (r4 - r2)) (fun x5 => [(5, .int x5), (4, .int r2), (0, .ref (ga G this)), (1, .int a0), (2, .int a1), (3, .int a2)]) (fun x5 => []) (fun x5 => ?_)
  refine v_iload_n C (n := 5) rfl rfl dX8_wireBend_31 ?_
  refine v_ifne C (t := 39) dX8_wireBend_32 (by decide) ?_ ?_
  · refine v_iload C (n := 1) rfl dX8_wireBend_39 ?_
    refine v_aload_n C (n := 2) rfl rfl dX8_wireBend_41 ?_
    refine v_getr C (t := 6) fl_X8_10 rfl rfl ht dX8_wireBend_42 (fun h6 => ?_)
    refine v_iload_n C (n := 3) rfl rfl dX8_wireBend_45 ?_
    refine v_iload_n C (n := 4) rfl rfl dX8_wireBend_46 ?_
    refine v_iload_n C (n := 5) rfl rfl dX8_wireBend_47 ?_
    refine v_iadd C dX8_wireBend_48 ?_
    refine v_iconst C (v := 1) (by decide) dX8_wireBend_49 ?_
    refine v_isub C dX8_wireBend_50 ?_
    refine v_cvRi C (d := 2) (hR.le (by omega)) (c := 6) rfl cv_X8_217 (by decide) h6 (by decide) [.int a0, .int ((a1 + a2) - 1)] rfl (fun _ hc => s_X6_itemAt G Z hG hZ   h6 hc) (Nat.le_of_ble_eq_true rfl) dX8_wireBend_51 rfl (fun r7 => ?_)
    refine v_isub C dX8_wireBend_54 ?_
    refine v_istore C (lv' := [(6, .int (r2 - r7)), (5, .int x5), (4, .int r2), (0, .ref (ga G this)), (1, .int a0), (2, .int a1), (3, .int a2)]) (by decide) rfl dX8_wireBend_55 ?_
    refine v_let (y := (r2 - r7)) (fun x8 => [(6, .int x8), (5, .int x5), (4, .int r2), (0, .ref (ga G this)), (1, .int a0), (2, .int a1), (3, .int a2)]) (fun x8 => []) (fun x8 => ?_)
    refine v_iload C (n := 1) rfl dX8_wireBend_57 ?_
    refine v_iload C (n := 0) rfl dX8_wireBend_59 ?_
    refine v_isub C dX8_wireBend_61 ?_
    exact v_iret C hr dX8_wireBend_62 (fun a h => by have h := Option.some.inj h; subst h; rfl)
  · refine v_iconst C (v := 0) (by decide) dX8_wireBend_35 ?_
    refine v_goto C (t := 55) (by decide) dX8_wireBend_36 ?_
    refine v_istore C (lv' := [(6, .int 0), (5, .int x5), (4, .int r2), (0, .ref (ga G this)), (1, .int a0), (2, .int a1), (3, .int a2)]) (by decide) rfl dX8_wireBend_55 ?_
    refine v_iload C (n := 1) rfl dX8_wireBend_57 ?_
    refine v_iload C (n := 0) rfl dX8_wireBend_59 ?_
    refine v_isub C dX8_wireBend_61 ?_
    exact v_iret C hr dX8_wireBend_62 (fun a h => by have h := Option.some.inj h; subst h; rfl)
