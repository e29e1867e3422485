set_option maxRecDepth 20000 in
set_option maxHeartbeats 4000000 in
theorem s_X1_look {l : Launch} (G : GT) (Z : ZT) (hG : DA G) (hZ : WT G Z) {this : Nat} {a0 : Nat} {a1 : Nat} {μ : MT} {q : MT} (ht : Ob G Z this 1) (ha0 : Ob G Z a0 3) (ha1 : Ob G Z a1 2) (hq : m_X1_look Z this a0 a1 μ = some q) : MZ l G Z yX1_look cX1_look 5 none 5 [.ref (ga G this), .ref (ga G a0), .ref (ga G a1)] μ none q := by
  refine v_met (J := (fun ν : MT => ((none : Option Value), ν))) hG hZ (by decide) (Nat.le_of_ble_eq_true rfl) hq ?_
  intro x C hR _ hr
  show VK x G Z (0, 0) 5 (QM x G Z) (fun ν : MT => ((none : Option Value), ν)) 0 [(0, .ref (ga G this)), (1, .ref (ga G a0)), (2, .ref (ga G a1))] [] μ _ some
  unfold m_X1_look
  refine v_aload_n C (n := 0) rfl rfl dX1_look_0 ?_
  refine v_geti C fl_X1_18 rfl ht dX1_look_1 ?_
  refine v_ifeq C (t := 8) dX1_look_4 (by decide) ?_ ?_
  · refine v_aload_n C (n := 0) rfl rfl dX1_look_8 ?_
    refine v_iconst C (v := 1) (by decide) dX1_look_9 ?_
    refine v_putz C (Or.inr rfl) fp_X1_18 rfl rfl ht dX1_look_10 (fun ν1 => ?_)
    refine v_aload_n C (n := 0) rfl rfl dX1_look_13 ?_
    refine v_getr C (t := 20) fl_X1_9 rfl rfl ht dX1_look_14 (fun h2 => ?_)
    refine v_ldc C (v := (-1000000)) (w10 49 rfl) dX1_look_17 ?_
    refine v_csIv C (d := 0) (hR.le (by omega)) cs_X1_23 (by decide) [.ref (ga G (zr Z this 0)), .int (-1000000)] rfl (fun _ hc => s_J7_fill_53178 G Z hG hZ   h2 hc) (Nat.le_of_ble_eq_true rfl) dX1_look_19 rfl (fun ν3 => ?_)
    refine v_iconst C (v := 0) (by decide) dX1_look_22 ?_
    refine v_istore_n C (lv' := [(3, .int 0), (0, .ref (ga G this)), (1, .ref (ga G a0)), (2, .ref (ga G a1))]) rfl (by decide) rfl dX1_look_23 ?_
    refine v_sub (lv' := [(0, .ref (ga G this)), (1, .ref (ga G a0)), (2, .ref (ga G a1)), (3, .int 0)]) [1, 2, 3, 0] rfl ?_
    refine v_lp 24 86 (fun t : Int32 × MT => [(0, .ref (ga G this)), (1, .ref (ga G a0)), (2, .ref (ga G a1)), (3, .int (t.1))]) (fun t : Int32 × MT => t.2) (fun t : MT => [(0, .ref (ga G this))]) (fun t : MT => t) ?_ ?_ LN (0, ν3)
    · intro ν6
      refine v_iconst C (v := 1) (by decide) dX1_look_86 ?_
      refine v_istore_n C (lv' := [(3, .int 1), (0, .ref (ga G this))]) rfl (by decide) rfl dX1_look_87 ?_
      refine v_sub (lv' := [(0, .ref (ga G this)), (3, .int 1)]) [1, 0] rfl ?_
      refine v_lp 88 121 (fun t : Int32 × MT => [(0, .ref (ga G this)), (3, .int (t.1))]) (fun t : Int32 × MT => t.2) (fun t : MT => []) (fun t : MT => t) ?_ ?_ LN (1, ν6)
      · intro ν13
        exact v_vret C hr dX1_look_121 (fun a h => by have h := Option.some.inj h; subst h; rfl)
      · intro X14 F16 hX15 hF17
        rintro ⟨y11, ν12⟩
        refine v_iload_n C (n := 1) rfl rfl dX1_look_88 ?_
        refine v_bipush C (v := 12) (by decide) dX1_look_89 ?_
        refine v_icge C (t := 121) dX1_look_91 (by decide) ?_ ?_
        · refine v_sub (lv' := []) [] rfl ?_
          exact v_leaf (hF17 ν12)
        · refine v_aload_n C (n := 0) rfl rfl dX1_look_94 ?_
          refine v_getr C (t := 20) fl_X1_9 rfl rfl ht dX1_look_95 (fun h18 => ?_)
          refine v_iload_n C (n := 1) rfl rfl dX1_look_98 ?_
          refine v_iconst C (v := 1) (by decide) dX1_look_99 ?_
          refine v_isub C dX1_look_100 ?_
          refine v_iald C h18.oa dX1_look_101 (fun x19 => ?_)
          refine v_ldc C (v := (-1000000)) (w10 49 rfl) dX1_look_102 ?_
          refine v_join 115 (fun t : MT => [(0, .ref (ga G this)), (3, .int y11)]) (fun t : MT => []) (fun t : MT => t) ?_ ?_
          · intro ν20
            refine v_iinc C (n := 1) (v := y11 + 1) (lv' := [(3, .int (y11 + 1)), (0, .ref (ga G this))]) rfl (congrArg (y11 + ·) (by decide : Int32.ofInt (1) = (1 : Int32))) (by decide) rfl dX1_look_115 ?_
            refine v_let (y := y11 + 1) (fun x23 => [(3, .int x23), (0, .ref (ga G this))]) (fun x23 => []) (fun x23 => ?_)
            refine v_goto C (t := 88) (by decide) dX1_look_118 ?_
            refine v_sub (lv' := [(0, .ref (ga G this)), (3, .int x23)]) [1, 0] rfl ?_
            exact v_leaf (hX15 (x23, ν20))
          intro F22 hF21
          refine v_icne C (t := 115) dX1_look_104 (by decide) ?_ ?_
          · exact v_leaf (hF21 ν12)
          · refine v_aload_n C (n := 0) rfl rfl dX1_look_107 ?_
            refine v_getr C (t := 20) fl_X1_9 rfl rfl ht dX1_look_108 (fun h24 => ?_)
            refine v_iload_n C (n := 1) rfl rfl dX1_look_111 ?_
            refine v_ldc C (v := (-1000000)) (w10 49 rfl) dX1_look_112 ?_
            refine v_iast C h24 dX1_look_114 (fun ν25 => ?_)
            exact v_leaf (hF21 ν25)
    · intro X7 F9 hX8 hF10
      rintro ⟨y4, ν5⟩
      refine v_iload_n C (n := 3) rfl rfl dX1_look_24 ?_
      refine v_bipush C (v := 80) (by decide) dX1_look_25 ?_
      refine v_icgt C (t := 86) dX1_look_27 (by decide) ?_ ?_
      · refine v_sub (lv' := [(0, .ref (ga G this))]) [0] rfl ?_
        exact v_leaf (hF10 ν5)
      · refine v_iload_n C (n := 3) rfl rfl dX1_look_30 ?_
        refine v_iconst C (v := 2) (by decide) dX1_look_31 ?_
        refine v_irem C dX1_look_32 (fun x26 => ?_)
        refine v_iconst C (v := 1) (by decide) dX1_look_33 ?_
        refine v_join 49 (fun t : Int32 => [(0, .ref (ga G this)), (1, .ref (ga G a0)), (2, .ref (ga G a1)), (3, .int y4)]) (fun t : Int32 => [.int t]) (fun t : Int32 => ν5) ?_ ?_
        · intro z27
          refine v_istore C (lv' := [(4, .int z27), (0, .ref (ga G this)), (1, .ref (ga G a0)), (2, .ref (ga G a1)), (3, .int y4)]) (by decide) rfl dX1_look_49 ?_
          refine v_aload_n C (n := 1) rfl rfl dX1_look_51 ?_
          refine v_getr C (t := 20) fl_X1_15 rfl rfl ht dX1_look_52 (fun h30 => ?_)
          refine v_iload C (n := 0) rfl dX1_look_55 ?_
          refine v_csIv C (d := 0) (hR.le (by omega)) cs_X1_23 (by decide) [.ref (ga G (zr Z this 1)), .int z27] rfl (fun _ hc => s_J7_fill_53178 G Z hG hZ   h30 hc) (Nat.le_of_ble_eq_true rfl) dX1_look_57 rfl (fun ν31 => ?_)
          refine v_aload_n C (n := 3) rfl rfl dX1_look_60 ?_
          refine v_aload_n C (n := 2) rfl rfl dX1_look_61 ?_
          refine v_aload_n C (n := 1) rfl rfl dX1_look_62 ?_
          refine v_getr C (t := 20) fl_X1_15 rfl rfl ht dX1_look_63 (fun h32 => ?_)
          refine v_getsN C (k := 1000) C.2.2.2.2.2.2.1.1 (List.mem_of_getElem? (i := 36) rfl) dX1_look_66 ?_
          refine v_iconst C (v := (-1)) (by decide) dX1_look_69 ?_
          refine v_cvIv C (d := 4) (hR.le (by omega)) (c := 2) rfl cv_X1_32 (by decide) ha1 (by decide) [.ref (ga G a0), .ref (ga G (zr Z this 1)), .ref (ga G 1000), .int (-1)] rfl (fun _ hc => s_X2_go G Z hG hZ   ha1 ha0 h32.oa (C.2.2.2.2.2.2.2.2.1.2.2.2.2 0 (by decide)) hc) (Nat.le_of_ble_eq_true rfl) dX1_look_70 rfl (fun ν33 => ?_)
          refine v_aload_n C (n := 1) rfl rfl dX1_look_73 ?_
          refine v_aload_n C (n := 3) rfl rfl dX1_look_74 ?_
          refine v_iload C (n := 0) rfl dX1_look_75 ?_
          refine v_cvIv C (d := 0) (hR.le (by omega)) (c := 1) rfl cv_X1_38 (by decide) ht (by decide) [.ref (ga G a1), .int z27] rfl (fun _ hc => s_X1_keepWhereFlat G Z hG hZ   ht ha1 hc) (Nat.le_of_ble_eq_true rfl) dX1_look_77 rfl (fun ν34 => ?_)
          refine v_iinc C (n := 4) (v := y4 + 1) (lv' := [(3, .int (y4 + 1)), (4, .int z27), (0, .ref (ga G this)), (1, .ref (ga G a0)), (2, .ref (ga G a1))]) rfl (congrArg (y4 + ·) (by decide : Int32.ofInt (1) = (1 : Int32))) (by decide) rfl dX1_look_80 ?_
          refine v_let (y := y4 + 1) (fun x35 => [(3, .int x35), (4, .int z27), (0, .ref (ga G this)), (1, .ref (ga G a0)), (2, .ref (ga G a1))]) (fun x35 => []) (fun x35 => ?_)
          refine v_goto C (t := 24) (by decide) dX1_look_83 ?_
          refine v_sub (lv' := [(0, .ref (ga G this)), (1, .ref (ga G a0)), (2, .ref (ga G a1)), (3, .int x35)]) [2, 3, 4, 0] rfl ?_
          exact v_leaf (hX8 (x35, ν34))
        intro F29 hF28
        refine v_icne C (t := 46) dX1_look_34 (by decide) ?_ ?_
        · refine v_iload_n C (n := 3) rfl rfl dX1_look_46 ?_
          refine v_iconst C (v := 2) (by decide) dX1_look_47 ?_
          refine v_idiv C dX1_look_48 (fun x36 => ?_)
          exact v_leaf (hF28 x36)
        · refine v_iload_n C (n := 3) rfl rfl dX1_look_37 ?_
          refine v_iconst C (v := 2) (by decide) dX1_look_38 ?_
          refine v_idiv C dX1_look_39 (fun x37 => ?_)
          refine v_ineg C dX1_look_40 ?_
          refine v_iconst C (v := 1) (by decide) dX1_look_41 ?_
          refine v_isub C dX1_look_42 ?_
          refine v_goto C (t := 49) (by decide) dX1_look_43 ?_
          exact v_leaf (hF28 ((-x37) - 1))
  · exact v_vret C hr dX1_look_7 (fun a h => by have h := Option.some.inj h; subst h; rfl)
set_option maxRecDepth 20000 in
set_option maxHeartbeats 4000000 in
theorem s_X4_takeSeam {l : Launch} (G : GT) (Z : ZT) (hG : DA G) (hZ : WT G Z) {this : Nat} {a0 : Nat} {μ : MT} {q : Int32 × MT} (ht : Ob G Z this 4) (ha0 : Ob G Z a0 3) (hq : m_X4_takeSeam Z this a0 μ = some q) : MZ l G Z yX4_takeSeam cX4_takeSeam 5 (some .int) 7 [.ref (ga G this), .ref (ga G a0)] μ (some (.int q.1)) q.2 := by
  refine v_met (J := (fun q : Int32 × MT => (some (.int q.1), q.2))) hG hZ (by decide) (Nat.le_of_ble_eq_true rfl) hq ?_
  intro x C hR _ hr
  show VK x G Z (0, 0) 5 (QM x G Z) (fun q : Int32 × MT => (some (.int q.1), q.2)) 0 [(0, .ref (ga G this)), (1, .ref (ga G a0))] [] μ _ some
  unfold m_X4_takeSeam
  refine v_aload_n C (n := 1) rfl rfl dX4_takeSeam_0 ?_
  refine v_getiN C fn_X4_61 rfl ha0 dX4_takeSeam_1 ?_
  refine v_bipush C (v := 6) (by decide) dX4_takeSeam_4 ?_
  refine v_iclt C (t := 11) dX4_takeSeam_6 (by decide) ?_ ?_
  · refine v_aload_n C (n := 0) rfl rfl dX4_takeSeam_11 ?_
    refine v_getr C (t := 7) fl_X4_15 rfl rfl ht dX4_takeSeam_12 (fun h1 => ?_)
    refine v_cvIv C (d := 1) (hR.le (by omega)) (c := 7) rfl cv_X4_47 (by decide) h1 (by decide) [] rfl (fun _ hc => s_X7_toNext G Z hG hZ   h1 hc) (Nat.le_of_ble_eq_true rfl) dX4_takeSeam_15 rfl (fun ν2 => ?_)
    refine v_iconst C (v := 0) (by decide) dX4_takeSeam_18 ?_
    refine v_istore_n C (lv' := [(2, .int 0), (0, .ref (ga G this)), (1, .ref (ga G a0))]) rfl (by decide) rfl dX4_takeSeam_19 ?_
    refine v_aload_n C (n := 1) rfl rfl dX4_takeSeam_20 ?_
    refine v_getr C (t := 7) fl_X4_15 rfl rfl ht dX4_takeSeam_21 (fun h3 => ?_)
    refine v_cvRi C (d := 6) (hR.le (by omega)) (c := 7) rfl cv_X4_64 (by decide) h3 (by decide) [] rfl (fun _ hc => s_X7_actHere G Z hG hZ   h3 hc) (Nat.le_of_ble_eq_true rfl) dX4_takeSeam_24 rfl (fun r4 => ?_)
    refine v_istore_n C (lv' := [(3, .int r4), (2, .int 0), (0, .ref (ga G this)), (1, .ref (ga G a0))]) rfl (by decide) rfl dX4_takeSeam_27 ?_
    refine v_iconst C (v := 0) (by decide) dX4_takeSeam_28 ?_
    refine v_istore C (lv' := [(4, .int 0), (3, .int r4), (2, .int 0), (0, .ref (ga G this)), (1, .ref (ga G a0))]) (by decide) rfl dX4_takeSeam_29 ?_
    refine v_sub (lv' := [(0, .ref (ga G this)), (1, .ref (ga G a0)), (2, .int 0), (3, .int r4), (4, .int 0)]) [3, 4, 2, 1, 0] rfl ?_
    refine v_lp 31 68 (fun t : Int32 × Int32 × Int32 × MT => [(0, .ref (ga G this)), (1, .ref (ga G a0)), (2, .int (t.1)), (3, .int (t.2.1)), (4, .int (t.2.2.1))]) (fun t : Int32 × Int32 × Int32 × MT => t.2.2.2) (fun t : Int32 × MT => [(0, .ref (ga G this)), (1, .ref (ga G a0)), (2, .int (t.1))]) (fun t : Int32 × MT => t.2) ?_ ?_ LN (0, r4, 0, ν2)
    · rintro ⟨y9, ν10⟩
      refine v_aload_n C (n := 1) rfl rfl dX4_takeSeam_68 ?_
      refine v_cvIv C (d := 0) (hR.le (by omega)) (c := 3) rfl cv_X4_71 (by decide) ha0 (by decide) [] rfl (fun _ hc => s_X3_endSeam G Z hG hZ   ha0 hc) (Nat.le_of_ble_eq_true rfl) dX4_takeSeam_69 rfl (fun ν15 => ?_)
      refine v_iload_n C (n := 2) rfl rfl dX4_takeSeam_72 ?_
      refine v_ifne C (t := 83) dX4_takeSeam_73 (by decide) ?_ ?_
      · refine v_iload_n C (n := 2) rfl rfl dX4_takeSeam_83 ?_
        exact v_iret C hr dX4_takeSeam_84 (fun a h => by have h := Option.some.inj h; subst h; rfl)
      · refine v_aload_n C (n := 0) rfl rfl dX4_takeSeam_76 ?_
        refine v_cvIi C (d := 2) (hR.le (by omega)) (c := 4) rfl cv_X4_57 (by decide) ht (by decide) [] rfl (fun _ hc => s_X4_takeSign G Z hG hZ   ht hc) (Nat.le_of_ble_eq_true rfl) dX4_takeSeam_77 rfl (fun r16 ν17 => ?_)
        refine v_goto C (t := 84) (by decide) dX4_takeSeam_80 ?_
        exact v_iret C hr dX4_takeSeam_84 (fun a h => by have h := Option.some.inj h; subst h; rfl)
    · intro X11 F13 hX12 hF14
      rintro ⟨y5, y6, y7, ν8⟩
      refine v_iload C (n := 4) rfl dX4_takeSeam_31 ?_
      refine v_bipush C (v := 40) (by decide) dX4_takeSeam_33 ?_
      refine v_icgt C (t := 68) dX4_takeSeam_35 (by decide) ?_ ?_
      · refine v_sub (lv' := [(0, .ref (ga G this)), (1, .ref (ga G a0)), (2, .int y5)]) [0, 1, 2] rfl ?_
        exact v_leaf (hF14 (y5, ν8))
      · refine v_iload_n C (n := 2) rfl rfl dX4_takeSeam_38 ?_
        refine v_ifne C (t := 68) dX4_takeSeam_39 (by decide) ?_ ?_
        · refine v_sub (lv' := [(0, .ref (ga G this)), (1, .ref (ga G a0)), (2, .int y5)]) [0, 1, 2] rfl ?_
          exact v_leaf (hF14 (y5, ν8))
        · refine v_iload_n C (n := 3) rfl rfl dX4_takeSeam_42 ?_
          refine v_iconst C (v := (-1)) (by decide) dX4_takeSeam_43 ?_
          refine v_iceq C (t := 68) dX4_takeSeam_44 (by decide) ?_ ?_
          · refine v_sub (lv' := [(0, .ref (ga G this)), (1, .ref (ga G a0)), (2, .int y5)]) [0, 1, 2] rfl ?_
            exact v_leaf (hF14 (y5, ν8))
          · refine v_aload_n C (n := 0) rfl rfl dX4_takeSeam_47 ?_
            refine v_aload_n C (n := 1) rfl rfl dX4_takeSeam_48 ?_
            refine v_iload_n C (n := 3) rfl rfl dX4_takeSeam_49 ?_
            refine v_cvIi C (d := 3) (hR.le (by omega)) (c := 4) rfl cv_X4_67 (by decide) ht (by decide) [.ref (ga G a0), .int y6] rfl (fun _ hc => s_X4_takeAct G Z hG hZ   ht ha0 hc) (Nat.le_of_ble_eq_true rfl) dX4_takeSeam_50 rfl (fun r18 ν19 => ?_)
            refine v_istore_n C (lv' := [(2, .int r18), (0, .ref (ga G this)), (1, .ref (ga G a0)), (3, .int y6), (4, .int y7)]) rfl (by decide) rfl dX4_takeSeam_53 ?_
            refine v_aload_n C (n := 1) rfl rfl dX4_takeSeam_54 ?_
            refine v_getr C (t := 7) fl_X4_15 rfl rfl ht dX4_takeSeam_55 (fun h20 => ?_)
            refine v_cvRi C (d := 6) (hR.le (by omega)) (c := 7) rfl cv_X4_64 (by decide) h20 (by decide) [] rfl (fun _ hc => s_X7_actHere G Z hG hZ   h20 hc) (Nat.le_of_ble_eq_true rfl) dX4_takeSeam_58 rfl (fun r21 => ?_)
            refine v_istore_n C (lv' := [(3, .int r21), (2, .int r18), (0, .ref (ga G this)), (1, .ref (ga G a0)), (4, .int y7)]) rfl (by decide) rfl dX4_takeSeam_61 ?_
            refine v_iinc C (n := 4) (v := y7 + 1) (lv' := [(4, .int (y7 + 1)), (3, .int r21), (2, .int r18), (0, .ref (ga G this)), (1, .ref (ga G a0))]) rfl (congrArg (y7 + ·) (by decide : Int32.ofInt (1) = (1 : Int32))) (by decide) rfl dX4_takeSeam_62 ?_
            refine v_let (y := y7 + 1) (fun x22 => [(4, .int x22), (3, .int r21), (2, .int r18), (0, .ref (ga G this)), (1, .ref (ga G a0))]) (fun x22 => []) (fun x22 => ?_)
            refine v_goto C (t := 31) (by decide) dX4_takeSeam_65 ?_
            refine v_sub (lv' := [(0, .ref (ga G this)), (1, .ref (ga G a0)), (2, .int r18), (3, .int r21), (4, .int x22)]) [3, 4, 2, 1, 0] rfl ?_
            exact v_leaf (hX12 (r18, r21, x22, ν19))
  · refine v_iconst C (v := 3) (by decide) dX4_takeSeam_9 ?_
    exact v_iret C hr dX4_takeSeam_10 (fun a h => by have h := Option.some.inj h; subst h; rfl)
set_option maxRecDepth 20000 in
set_option maxHeartbeats 4000000 in
theorem s_X5_look {l : Launch} (G : GT) (Z : ZT) (hG : DA G) (hZ : WT G Z) {this : Nat} {a0 : Nat} {a1 : Nat} {μ : MT} {q : MT} (ht : Ob G Z this 5) (ha0 : Ob G Z a0 3) (ha1 : Oa G Z a1) (hq : m_X5_look Z this a0 a1 μ = some q) : MZ l G Z yX5_look cX5_look 3 none 13 [.ref (ga G this), .ref (ga G a0), .ref (ga G a1)] μ none q := by
  refine v_met (J := (fun ν : MT => ((none : Option Value), ν))) hG hZ (by decide) (Nat.le_of_ble_eq_true rfl) hq ?_
  intro x C hR _ hr
  show VK x G Z (0, 0) 3 (QM x G Z) (fun ν : MT => ((none : Option Value), ν)) 0 [(0, .ref (ga G this)), (1, .ref (ga G a0)), (2, .ref (ga G a1))] [] μ _ some
  unfold m_X5_look
  refine v_aload_n C (n := 0) rfl rfl dX5_look_0 ?_
  refine v_geti C fl_X5_27 rfl ht dX5_look_1 ?_
  refine v_ifeq C (t := 8) dX5_look_4 (by decide) ?_ ?_
  · refine v_aload_n C (n := 0) rfl rfl dX5_look_8 ?_
    refine v_iconst C (v := 1) (by decide) dX5_look_9 ?_
    refine v_putz C (Or.inr rfl) fp_X5_27 rfl rfl ht dX5_look_10 (fun ν1 => ?_)
    refine v_aload_n C (n := 0) rfl rfl dX5_look_13 ?_
    refine v_iconst C (v := 0) (by decide) dX5_look_14 ?_
    refine v_putz C (Or.inl rfl) fp_X5_31 rfl rfl ht dX5_look_15 (fun ν2 => ?_)
    refine v_aload_n C (n := 0) rfl rfl dX5_look_18 ?_
    refine v_getr C (t := 24) fl_X5_11 rfl rfl ht dX5_look_19 (fun h3 => ?_)
    refine v_iconst C (v := 0) (by decide) dX5_look_22 ?_
    refine v_aald C h3 dX5_look_23 (fun q4 h5 => ?_)
    refine v_aload_n C (n := 1) rfl rfl dX5_look_24 ?_
    refine v_getiN C fn_X5_39 rfl ha0 dX5_look_25 ?_
    refine v_aload_n C (n := 2) rfl rfl dX5_look_28 ?_
    refine v_cvIv C (d := 1) (hR.le (by omega)) (c := 2) rfl cv_X5_44 (by decide) h5 (by decide) [.int (ν2 a0 0), .ref (ga G a1)] rfl (fun _ hc => s_X2_begin G Z hG hZ   h5 ha1 hc) (Nat.le_of_ble_eq_true rfl) dX5_look_29 rfl (fun ν6 => ?_)
    refine v_aload_n C (n := 0) rfl rfl dX5_look_32 ?_
    refine v_aload_n C (n := 1) rfl rfl dX5_look_33 ?_
    refine v_iconst C (v := 0) (by decide) dX5_look_34 ?_
    refine v_iconst C (v := 0) (by decide) dX5_look_35 ?_
    refine v_cvIv C (d := (8 + 4)) (hR.le (by omega)) (c := 5) rfl cv_X5_48 (by decide) ht (by decide) [.ref (ga G a0), .int 0, .int 0] rfl (fun _ hc => s_X5_tryFrom G Z hG hZ 8   ht ha0 hc) (Nat.le_of_ble_eq_true rfl) dX5_look_36 rfl (fun ν7 => ?_)
    exact v_vret C hr dX5_look_39 (fun a h => by have h := Option.some.inj h; subst h; rfl)
  · exact v_vret C hr dX5_look_7 (fun a h => by have h := Option.some.inj h; subst h; rfl)
set_option maxRecDepth 20000 in
set_option maxHeartbeats 4000000 in
theorem s_X8_standByOrder {l : Launch} (G : GT) (Z : ZT) (hG : DA G) (hZ : WT G Z) {this : Nat} {μ : MT} {q : Int32 × MT} (ht : Ob G Z this 8) (hq : m_X8_standByOrder Z (gn G) this μ = some q) : MZ l G Z yX8_standByOrder cX8_standByOrder 1 (some .int) 5 [.ref (ga G this)] μ (some (.int q.1)) q.2 := by
  refine v_met (J := (fun q : Int32 × MT => (some (.int q.1), q.2))) hG hZ (by decide) (Nat.le_of_ble_eq_true rfl) hq ?_
  intro x C hR _ hr
  show VK x G Z (0, 0) 1 (QM x G Z) (fun q : Int32 × MT => (some (.int q.1), q.2)) 0 [(0, .ref (ga G this))] [] μ _ some
  unfold m_X8_standByOrder
  refine v_aload_n C (n := 0) rfl rfl dX8_standByOrder_0 ?_
  refine v_iconst C (v := 1) (by decide) dX8_standByOrder_1 ?_
  refine v_putz C (Or.inr rfl) fp_X8_83 rfl rfl ht dX8_standByOrder_2 (fun ν1 => ?_)
  refine v_aload_n C (n := 0) rfl rfl dX8_standByOrder_5 ?_
  refine v_getr C (t := 2) fl_X8_45 rfl rfl ht dX8_standByOrder_6 (fun h2 => ?_)
  refine v_aload_n C (n := 0) rfl rfl dX8_standByOrder_9 ?_
  refine v_getm C fl_X8_76 rfl ht dX8_standByOrder_10 (fun q3 h4 => ?_)
  refine v_aload_n C (n := 0) rfl rfl dX8_standByOrder_13 ?_
  refine v_getr C (t := 20) fl_X8_32 rfl rfl ht dX8_standByOrder_14 (fun h5 => ?_)
  refine v_aload_n C (n := 0) rfl rfl dX8_standByOrder_17 ?_
  refine v_getr C (t := 20) fl_X8_36 rfl rfl ht dX8_standByOrder_18 (fun h6 => ?_)
  refine v_iconst C (v := (-1)) (by decide) dX8_standByOrder_21 ?_
  refine v_cvIv C (d := 4) (hR.le (by omega)) (c := 2) rfl cv_X8_223 (by decide) h2 (by decide) [.ref (ga G q3), .ref (ga G (zr Z this 3)), .ref (ga G (zr Z this 4)), .int (-1)] rfl (fun _ hc => s_X2_go G Z hG hZ   h2 h4 h5.oa h6.oa hc) (Nat.le_of_ble_eq_true rfl) dX8_standByOrder_22 rfl (fun ν7 => ?_)
  refine v_aload_n C (n := 0) rfl rfl dX8_standByOrder_25 ?_
  refine v_getr C (t := 2) fl_X8_45 rfl rfl ht dX8_standByOrder_26 (fun h8 => ?_)
  refine v_cvRi C (d := 1) (hR.le (by omega)) (c := 2) rfl cv_X8_227 (by decide) h8 (by decide) [] rfl (fun _ hc => s_X2_off G Z hG hZ   h8 hc) (Nat.le_of_ble_eq_true rfl) dX8_standByOrder_29 rfl (fun r9 => ?_)
  exact v_iret C hr dX8_standByOrder_32 (fun a h => by have h := Option.some.inj h; subst h; rfl)
set_option maxRecDepth 20000 in
set_option maxHeartbeats 4000000 in
theorem s_X8_gives {l : Launch} (G : GT) (Z : ZT) (hG : DA G) (hZ : WT G Z) {this : Nat} {a0 : Int32} {μ : MT} {q : Int32 × MT} (ht : Ob G Z this 8) (hq : m_X8_gives Z (gn G) this a0 μ = some q) : MZ l G Z yX8_gives cX8_gives 3 (some .int) 5 [.ref (ga G this), .int a0] μ (some (.int q.1)) q.2 := by
  refine v_met (J := (fun q : Int32 × MT => (some (.int q.1), q.2))) hG hZ (by decide) (Nat.le_of_ble_eq_true rfl) hq ?_
  intro x C hR _ hr
  show VK x G Z (0, 0) 3 (QM x G Z) (fun q : Int32 × MT => (some (.int q.1), q.2)) 0 [(0, .ref (ga G this)), (1, .int a0)] [] μ _ some
  unfold m_X8_gives
  refine v_aload_n C (n := 0) rfl rfl dX8_gives_0 ?_
  refine v_getm C fl_X8_76 rfl ht dX8_gives_1 (fun q1 h2 => ?_)
  refine v_iload_n C (n := 1) rfl rfl dX8_gives_4 ?_
  refine v_cvRi C (d := 0) (hR.le (by omega)) (c := 3) rfl cv_X8_248 (by decide) h2 (by decide) [.int a0] rfl (fun _ hc => s_X3_hasSeam G Z hG hZ   h2 hc) (Nat.le_of_ble_eq_true rfl) dX8_gives_5 rfl (fun r3 => ?_)
  refine v_ifne C (t := 14) dX8_gives_8 (by decide) ?_ ?_
  · refine v_aload_n C (n := 0) rfl rfl dX8_gives_14 ?_
    refine v_getr C (t := 2) fl_X8_49 rfl rfl ht dX8_gives_15 (fun h4 => ?_)
    refine v_aload_n C (n := 0) rfl rfl dX8_gives_18 ?_
    refine v_getm C fl_X8_76 rfl ht dX8_gives_19 (fun q5 h6 => ?_)
    refine v_aload_n C (n := 0) rfl rfl dX8_gives_22 ?_
    refine v_getr C (t := 20) fl_X8_32 rfl rfl ht dX8_gives_23 (fun h7 => ?_)
    refine v_aload_n C (n := 0) rfl rfl dX8_gives_26 ?_
    refine v_getr C (t := 20) fl_X8_36 rfl rfl ht dX8_gives_27 (fun h8 => ?_)
    refine v_iconst C (v := (-1)) (by decide) dX8_gives_30 ?_
    refine v_cvIv C (d := 4) (hR.le (by omega)) (c := 2) rfl cv_X8_223 (by decide) h4 (by decide) [.ref (ga G q5), .ref (ga G (zr Z this 3)), .ref (ga G (zr Z this 4)), .int (-1)] rfl (fun _ hc => s_X2_go G Z hG hZ   h4 h6 h7.oa h8.oa hc) (Nat.le_of_ble_eq_true rfl) dX8_gives_31 rfl (fun ν9 => ?_)
    refine v_aload_n C (n := 0) rfl rfl dX8_gives_34 ?_
    refine v_getr C (t := 2) fl_X8_49 rfl rfl ht dX8_gives_35 (fun h10 => ?_)
    refine v_cvRi C (d := 1) (hR.le (by omega)) (c := 2) rfl cv_X8_227 (by decide) h10 (by decide) [] rfl (fun _ hc => s_X2_off G Z hG hZ   h10 hc) (Nat.le_of_ble_eq_true rfl) dX8_gives_38 rfl (fun r11 => ?_)
    refine v_istore_n C (lv' := [(2, .int r11), (0, .ref (ga G this)), (1, .int a0)]) rfl (by decide) rfl dX8_gives_41 ?_
    refine v_aload_n C (n := 1) rfl rfl dX8_gives_42 ?_
    refine v_getr C (t := 2) fl_X8_49 rfl rfl ht dX8_gives_43 (fun h12 => ?_)
    refine v_aload_n C (n := 1) rfl rfl dX8_gives_46 ?_
    refine v_getm C fl_X8_76 rfl ht dX8_gives_47 (fun q13 h14 => ?_)
    refine v_aload_n C (n := 1) rfl rfl dX8_gives_50 ?_
    refine v_getr C (t := 20) fl_X8_32 rfl rfl ht dX8_gives_51 (fun h15 => ?_)
    refine v_aload_n C (n := 1) rfl rfl dX8_gives_54 ?_
    refine v_getr C (t := 20) fl_X8_36 rfl rfl ht dX8_gives_55 (fun h16 => ?_)
    refine v_iload_n C (n := 2) rfl rfl dX8_gives_58 ?_
    refine v_cvIv C (d := 4) (hR.le (by omega)) (c := 2) rfl cv_X8_223 (by decide) h12 (by decide) [.ref (ga G q13), .ref (ga G (zr Z this 3)), .ref (ga G (zr Z this 4)), .int a0] rfl (fun _ hc => s_X2_go G Z hG hZ   h12 h14 h15.oa h16.oa hc) (Nat.le_of_ble_eq_true rfl) dX8_gives_59 rfl (fun ν17 => ?_)
    refine v_iload_n C (n := 0) rfl rfl dX8_gives_62 ?_
    refine v_aload_n C (n := 1) rfl rfl dX8_gives_63 ?_
    refine v_getr C (t := 2) fl_X8_49 rfl rfl ht dX8_gives_64 (fun h18 => ?_)
    refine v_cvRi C (d := 1) (hR.le (by omega)) (c := 2) rfl cv_X8_227 (by decide) h18 (by decide) [] rfl (fun _ hc => s_X2_off G Z hG hZ   h18 hc) (Nat.le_of_ble_eq_true rfl) dX8_gives_67 rfl (fun r19 => ?_)
    refine v_isub C dX8_gives_70 ?_
    exact v_iret C hr dX8_gives_71 (fun a h => by have h := Option.some.inj h; subst h; rfl)
  · refine v_ldc C (v := (-1000001)) (w4 13 rfl) dX8_gives_11 ?_
    exact v_iret C hr dX8_gives_13 (fun a h => by have h := Option.some.inj h; subst h; rfl)
set_option maxRecDepth 20000 in
set_option maxHeartbeats 4000000 in
theorem s_X8_steelOf {l : Launch} (G : GT) (Z : ZT) (hG : DA G) (hZ : WT G Z) {this : Nat} {a0 : Int32} {a1 : Int32} {μ : MT} {q : Int32} (ht : Ob G Z this 8) (hq : m_X8_steelOf Z (gn G) this a0 a1 μ = some q) : MZ l G Z yX8_steelOf cX8_steelOf 4 (some .int) 5 [.ref (ga G this), .int a0, .int a1] μ (some (.int q)) μ := by
  refine v_met (J := (fun r : Int32 => (some (.int r), μ))) hG hZ (by decide) (Nat.le_of_ble_eq_true rfl) hq ?_
  intro x C hR _ hr
  show VK x G Z (0, 0) 4 (QM x G Z) (fun r : Int32 => (some (.int r), μ)) 0 [(0, .ref (ga G this)), (1, .int a0), (2, .int a1)] [] μ _ some
  unfold m_X8_steelOf
  refine v_iconst C (v := 1) (by decide) dX8_steelOf_0 ?_
  refine v_istore_n C (lv' := [(3, .int 1), (0, .ref (ga G this)), (1, .int a0), (2, .int a1)]) rfl (by decide) rfl dX8_steelOf_1 ?_
  refine v_sub (lv' := [(0, .ref (ga G this)), (1, .int a0), (2, .int a1), (3, .int 1)]) [1, 2, 3, 0] rfl ?_
  refine v_lpm 2 26 (fun t : Int32 => [(0, .ref (ga G this)), (1, .int a0), (2, .int a1), (3, .int t)]) (fun t : Int32 => μ) (fun t : Unit => []) (fun t : Unit => μ) ?_ ?_ LN 1
  · rintro ⟨⟩
    refine v_ldc C (v := (-1000000)) (w8 7 rfl) dX8_steelOf_26 ?_
    exact v_iret C hr dX8_steelOf_28 (fun a h => by have h := Option.some.inj h; subst h; rfl)
  · intro X2 F4 e6 hX3 hF5
    intro y1
    refine v_iload_n C (n := 3) rfl rfl dX8_steelOf_2 ?_
    refine v_bipush C (v := 9) (by decide) dX8_steelOf_3 ?_
    refine v_icgt C (t := 26) dX8_steelOf_5 (by decide) ?_ ?_
    · refine v_sub (lv' := []) [] rfl ?_
      exact v_leaf (hF5 ())
    · refine v_aload_n C (n := 0) rfl rfl dX8_steelOf_8 ?_
      refine v_iload_n C (n := 1) rfl rfl dX8_steelOf_9 ?_
      refine v_iload_n C (n := 2) rfl rfl dX8_steelOf_10 ?_
      refine v_iload_n C (n := 3) rfl rfl dX8_steelOf_11 ?_
      refine v_cvRi C (d := 4) (hR.le (by omega)) (c := 8) rfl cv_X8_309 (by decide) ht (by decide) [.int a0, .int a1, .int y1] rfl (fun _ hc => s_X8_isSteel G Z hG hZ   ht hc) (Nat.le_of_ble_eq_true rfl) dX8_steelOf_12 rfl (fun r7 => ?_)
      refine v_ifeq C (t := 20) dX8_steelOf_15 (by decide) ?_ ?_
      · refine v_iinc C (n := 3) (v := y1 + 1) (lv' := [(3, .int (y1 + 1)), (0, .ref (ga G this)), (1, .int a0), (2, .int a1)]) rfl (congrArg (y1 + ·) (by decide : Int32.ofInt (1) = (1 : Int32))) (by decide) rfl dX8_steelOf_20 ?_
        refine v_let (y := y1 + 1) (fun x8 => [(3, .int x8), (0, .ref (ga G this)), (1, .int a0), (2, .int a1)]) (fun x8 => []) (fun x8 => ?_)
        refine v_goto C (t := 2) (by decide) dX8_steelOf_23 ?_
        refine v_sub (lv' := [(0, .ref (ga G this)), (1, .int a0), (2, .int a1), (3, .int x8)]) [1, 2, 3, 0] rfl ?_
        exact v_leaf (hX3 x8)
      · refine v_iload_n C (n := 3) rfl rfl dX8_steelOf_18 ?_
        exact v_iret C hr dX8_steelOf_19 (fun a h => by simp only [ob_s, lq, e6] at h; have h := Option.some.inj h; subst h; rfl)
set_option maxRecDepth 20000 in
set_option maxHeartbeats 4000000 in
theorem s_X9_readSeam {l : Launch} (G : GT) (Z : ZT) (hG : DA G) (hZ : WT G Z) {this : Nat} {μ : MT} {q : MT} (ht : Ob G Z this 9) (hq : m_X9_readSeam Z this μ = some q) : MZ l G Z yX9_readSeam cX9_readSeam 2 none 5 [.ref (ga G this)] μ none q := by
  refine v_met (J := (fun ν : MT => ((none : Option Value), ν))) hG hZ (by decide) (Nat.le_of_ble_eq_true rfl) hq ?_
  intro x C hR _ hr
  show VK x G Z (0, 0) 2 (QM x G Z) (fun ν : MT => ((none : Option Value), ν)) 0 [(0, .ref (ga G this))] [] μ _ some
  unfold m_X9_readSeam
  refine v_aload_n C (n := 0) rfl rfl dX9_readSeam_0 ?_
  refine v_geti C fl_X9_180 rfl ht dX9_readSeam_1 ?_
  refine v_bipush C (v := 6) (by decide) dX9_readSeam_4 ?_
  refine v_join 14 (fun t : MT => [(0, .ref (ga G this))]) (fun t : MT => []) (fun t : MT => t) ?_ ?_
  · intro ν1
    refine v_aload_n C (n := 0) rfl rfl dX9_readSeam_14 ?_
    refine v_iconst C (v := 1) (by decide) dX9_readSeam_15 ?_
    refine v_cvIv C (d := 2) (hR.le (by omega)) (c := 9) rfl cv_X9_142 (by decide) ht (by decide) [.int 1] rfl (fun _ hc => s_X9_must G Z hG hZ   ht hc) (Nat.le_of_ble_eq_true rfl) dX9_readSeam_16 rfl (fun ν4 => ?_)
    refine v_aload_n C (n := 0) rfl rfl dX9_readSeam_19 ?_
    refine v_cvRi C (d := 1) (hR.le (by omega)) (c := 9) rfl cv_X9_183 (by decide) ht (by decide) [] rfl (fun _ hc => s_X9_kindOfWord G Z hG hZ   ht hc) (Nat.le_of_ble_eq_true rfl) dX9_readSeam_20 rfl (fun r5 => ?_)
    refine v_istore_n C (lv' := [(1, .int r5), (0, .ref (ga G this))]) rfl (by decide) rfl dX9_readSeam_23 ?_
    refine v_sub (lv' := [(0, .ref (ga G this)), (1, .int r5)]) [1, 0] rfl ?_
    refine v_lp 24 50 (fun t : Int32 × MT => [(0, .ref (ga G this)), (1, .int (t.1))]) (fun t : Int32 × MT => t.2) (fun t : MT => [(0, .ref (ga G this))]) (fun t : MT => t) ?_ ?_ LN (r5, ν4)
    · intro ν8
      refine v_aload_n C (n := 0) rfl rfl dX9_readSeam_50 ?_
      refine v_cvIv C (d := 3) (hR.le (by omega)) (c := 9) rfl cv_X9_190 (by decide) ht (by decide) [] rfl (fun _ hc => s_X9_mustEnd G Z hG hZ   ht hc) (Nat.le_of_ble_eq_true rfl) dX9_readSeam_51 rfl (fun ν13 => ?_)
      refine v_aload_n C (n := 0) rfl rfl dX9_readSeam_54 ?_
      refine v_dup C rfl dX9_readSeam_55 ?_
      refine v_geti C fl_X9_180 rfl ht dX9_readSeam_56 ?_
      refine v_iconst C (v := 1) (by decide) dX9_readSeam_59 ?_
      refine v_iadd C dX9_readSeam_60 ?_
      refine v_puti C fp_X9_180 rfl rfl ht dX9_readSeam_61 (fun ν14 => ?_)
      exact v_vret C hr dX9_readSeam_64 (fun a h => by have h := Option.some.inj h; subst h; rfl)
    · intro X9 F11 hX10 hF12
      rintro ⟨y6, ν7⟩
      refine v_aload_n C (n := 0) rfl rfl dX9_readSeam_24 ?_
      refine v_geti C fl_X9_129 rfl ht dX9_readSeam_25 ?_
      refine v_ifne C (t := 50) dX9_readSeam_28 (by decide) ?_ ?_
      · refine v_sub (lv' := [(0, .ref (ga G this))]) [0] rfl ?_
        exact v_leaf (hF12 ν7)
      · refine v_iload_n C (n := 1) rfl rfl dX9_readSeam_31 ?_
        refine v_ldc C (v := (-1000000)) (w14 52 rfl) dX9_readSeam_32 ?_
        refine v_iceq C (t := 50) dX9_readSeam_34 (by decide) ?_ ?_
        · refine v_sub (lv' := [(0, .ref (ga G this))]) [0] rfl ?_
          exact v_leaf (hF12 ν7)
        · refine v_aload_n C (n := 0) rfl rfl dX9_readSeam_37 ?_
          refine v_iload_n C (n := 1) rfl rfl dX9_readSeam_38 ?_
          refine v_cvIv C (d := 4) (hR.le (by omega)) (c := 9) rfl cv_X9_187 (by decide) ht (by decide) [.int y6] rfl (fun _ hc => s_X9_readAct G Z hG hZ   ht hc) (Nat.le_of_ble_eq_true rfl) dX9_readSeam_39 rfl (fun ν15 => ?_)
          refine v_aload_n C (n := 0) rfl rfl dX9_readSeam_42 ?_
          refine v_cvRi C (d := 1) (hR.le (by omega)) (c := 9) rfl cv_X9_183 (by decide) ht (by decide) [] rfl (fun _ hc => s_X9_kindOfWord G Z hG hZ   ht hc) (Nat.le_of_ble_eq_true rfl) dX9_readSeam_43 rfl (fun r16 => ?_)
          refine v_istore_n C (lv' := [(1, .int r16), (0, .ref (ga G this))]) rfl (by decide) rfl dX9_readSeam_46 ?_
          refine v_goto C (t := 24) (by decide) dX9_readSeam_47 ?_
          refine v_sub (lv' := [(0, .ref (ga G this)), (1, .int r16)]) [1, 0] rfl ?_
          exact v_leaf (hX10 (r16, ν15))
  intro F3 hF2
  refine v_icne C (t := 14) dX9_readSeam_6 (by decide) ?_ ?_
  · exact v_leaf (hF2 μ)
  · refine v_aload_n C (n := 0) rfl rfl dX9_readSeam_9 ?_
    refine v_iconst C (v := 3) (by decide) dX9_readSeam_10 ?_
    refine v_cvIv C (d := 0) (hR.le (by omega)) (c := 9) rfl cv_X9_135 (by decide) ht (by decide) [.int 3] rfl (fun _ hc => s_X9_bad G Z hG hZ   ht hc) (Nat.le_of_ble_eq_true rfl) dX9_readSeam_11 rfl (fun ν17 => ?_)
    exact v_leaf (hF2 ν17)
set_option maxRecDepth 20000 in
set_option maxHeartbeats 4000000 in
theorem s_X9_doAct {l : Launch} (G : GT) (Z : ZT) (hG : DA G) (hZ : WT G Z) {this : Nat} {a0 : Int32} {μ : MT} {q : MT} (ht : Ob G Z this 9) (hq : m_X9_doAct Z this a0 μ = some q) : MZ l G Z yX9_doAct cX9_doAct 5 none 5 [.ref (ga G this), .int a0] μ none q := by
  refine v_met (J := (fun ν : MT => ((none : Option Value), ν))) hG hZ (by decide) (Nat.le_of_ble_eq_true rfl) hq ?_
  intro x C hR _ hr
  show VK x G Z (0, 0) 5 (QM x G Z) (fun ν : MT => ((none : Option Value), ν)) 0 [(0, .ref (ga G this)), (1, .int a0)] [] μ _ some
  unfold m_X9_doAct
  refine v_aload_n C (n := 0) rfl rfl dX9_doAct_0 ?_
  refine v_getr C (t := 20) fl_X9_19 rfl rfl ht dX9_doAct_1 (fun h1 => ?_)
  refine v_iconst C (v := 4) (by decide) dX9_doAct_4 ?_
  refine v_iload_n C (n := 1) rfl rfl dX9_doAct_5 ?_
  refine v_imul C dX9_doAct_6 ?_
  refine v_iald C h1.oa dX9_doAct_7 (fun x2 => ?_)
  refine v_istore_n C (lv' := [(2, .int x2), (0, .ref (ga G this)), (1, .int a0)]) rfl (by decide) rfl dX9_doAct_8 ?_
  refine v_aload_n C (n := 1) rfl rfl dX9_doAct_9 ?_
  refine v_getr C (t := 20) fl_X9_19 rfl rfl ht dX9_doAct_10 (fun h3 => ?_)
  refine v_iconst C (v := 4) (by decide) dX9_doAct_13 ?_
  refine v_iload_n C (n := 2) rfl rfl dX9_doAct_14 ?_
  refine v_imul C dX9_doAct_15 ?_
  refine v_iconst C (v := 1) (by decide) dX9_doAct_16 ?_
  refine v_iadd C dX9_doAct_17 ?_
  refine v_iald C h3.oa dX9_doAct_18 (fun x4 => ?_)
  refine v_istore_n C (lv' := [(3, .int x4), (2, .int x2), (0, .ref (ga G this)), (1, .int a0)]) rfl (by decide) rfl dX9_doAct_19 ?_
  refine v_iload_n C (n := 1) rfl rfl dX9_doAct_20 ?_
  refine v_bipush C (v := 8) (by decide) dX9_doAct_21 ?_
  refine v_icne C (t := 48) dX9_doAct_23 (by decide) ?_ ?_
  · refine v_iload_n C (n := 1) rfl rfl dX9_doAct_48 ?_
    refine v_bipush C (v := 9) (by decide) dX9_doAct_49 ?_
    refine v_icne C (t := 64) dX9_doAct_51 (by decide) ?_ ?_
    · refine v_iload_n C (n := 1) rfl rfl dX9_doAct_64 ?_
      refine v_bipush C (v := 10) (by decide) dX9_doAct_65 ?_
      refine v_icne C (t := 78) dX9_doAct_67 (by decide) ?_ ?_
      · refine v_aload_n C (n := 2) rfl rfl dX9_doAct_78 ?_
        refine v_iload_n C (n := 1) rfl rfl dX9_doAct_79 ?_
        refine v_iload_n C (n := 0) rfl rfl dX9_doAct_80 ?_
        refine v_aload_n C (n := 2) rfl rfl dX9_doAct_81 ?_
        refine v_getr C (t := 20) fl_X9_19 rfl rfl ht dX9_doAct_82 (fun h5 => ?_)
        refine v_iconst C (v := 4) (by decide) dX9_doAct_85 ?_
        refine v_iload_n C (n := 3) rfl rfl dX9_doAct_86 ?_
        refine v_imul C dX9_doAct_87 ?_
        refine v_iconst C (v := 2) (by decide) dX9_doAct_88 ?_
        refine v_iadd C dX9_doAct_89 ?_
        refine v_iald C h5.oa dX9_doAct_90 (fun x6 => ?_)
        refine v_cvIv C (d := 4) (hR.le (by omega)) (c := 9) rfl cv_X9_255 (by decide) ht (by decide) [.int x2, .int x4, .int x6] rfl (fun _ hc => s_X9_step G Z hG hZ   ht hc) (Nat.le_of_ble_eq_true rfl) dX9_doAct_91 rfl (fun ν7 => ?_)
        exact v_vret C hr dX9_doAct_94 (fun a h => by have h := Option.some.inj h; subst h; rfl)
      · refine v_aload_n C (n := 2) rfl rfl dX9_doAct_70 ?_
        refine v_iload_n C (n := 0) rfl rfl dX9_doAct_71 ?_
        refine v_cvIv C (d := 0) (hR.le (by omega)) (c := 9) rfl cv_X9_252 (by decide) ht (by decide) [.int x4] rfl (fun _ hc => s_X9_free G Z hG hZ   ht hc) (Nat.le_of_ble_eq_true rfl) dX9_doAct_72 rfl (fun ν8 => ?_)
        refine v_goto C (t := 94) (by decide) dX9_doAct_75 ?_
        exact v_vret C hr dX9_doAct_94 (fun a h => by have h := Option.some.inj h; subst h; rfl)
    · refine v_aload_n C (n := 2) rfl rfl dX9_doAct_54 ?_
      refine v_getr C (t := 22) fl_X9_52 rfl rfl ht dX9_doAct_55 (fun h9 => ?_)
      refine v_iload_n C (n := 0) rfl rfl dX9_doAct_58 ?_
      refine v_iconst C (v := 1) (by decide) dX9_doAct_59 ?_
      refine v_zast C h9 dX9_doAct_60 (fun ν10 => ?_)
      refine v_goto C (t := 94) (by decide) dX9_doAct_61 ?_
      exact v_vret C hr dX9_doAct_94 (fun a h => by have h := Option.some.inj h; subst h; rfl)
  · refine v_iconst C (v := 0) (by decide) dX9_doAct_26 ?_
    refine v_istore C (lv' := [(4, .int 0), (3, .int x4), (2, .int x2), (0, .ref (ga G this)), (1, .int a0)]) (by decide) rfl dX9_doAct_27 ?_
    refine v_sub (lv' := [(0, .ref (ga G this)), (3, .int x4), (4, .int 0)]) [3, 1, 0] rfl ?_
    refine v_lp 29 45 (fun t : Int32 × MT => [(0, .ref (ga G this)), (3, .int x4), (4, .int (t.1))]) (fun t : Int32 × MT => t.2) (fun t : MT => []) (fun t : MT => t) ?_ ?_ LN (0, μ)
    · intro ν13
      refine v_goto C (t := 94) (by decide) dX9_doAct_45 ?_
      exact v_vret C hr dX9_doAct_94 (fun a h => by have h := Option.some.inj h; subst h; rfl)
    · intro X14 F16 hX15 hF17
      rintro ⟨y11, ν12⟩
      refine v_iload C (n := 2) rfl dX9_doAct_29 ?_
      refine v_iload_n C (n := 1) rfl rfl dX9_doAct_31 ?_
      refine v_icge C (t := 45) dX9_doAct_32 (by decide) ?_ ?_
      · refine v_sub (lv' := []) [] rfl ?_
        exact v_leaf (hF17 ν12)
      · refine v_aload_n C (n := 0) rfl rfl dX9_doAct_35 ?_
        refine v_cvIv C (d := 0) (hR.le (by omega)) (c := 9) rfl cv_X9_249 (by decide) ht (by decide) [] rfl (fun _ hc => s_X9_minute G Z hG hZ   ht hc) (Nat.le_of_ble_eq_true rfl) dX9_doAct_36 rfl (fun ν18 => ?_)
        refine v_iinc C (n := 2) (v := y11 + 1) (lv' := [(4, .int (y11 + 1)), (0, .ref (ga G this)), (3, .int x4)]) rfl (congrArg (y11 + ·) (by decide : Int32.ofInt (1) = (1 : Int32))) (by decide) rfl dX9_doAct_39 ?_
        refine v_let (y := y11 + 1) (fun x19 => [(4, .int x19), (0, .ref (ga G this)), (3, .int x4)]) (fun x19 => []) (fun x19 => ?_)
        refine v_goto C (t := 29) (by decide) dX9_doAct_42 ?_
        refine v_sub (lv' := [(0, .ref (ga G this)), (3, .int x4), (4, .int x19)]) [1, 2, 0] rfl ?_
        exact v_leaf (hX15 (x19, ν18))
set_option maxRecDepth 20000 in
set_option maxHeartbeats 4000000 in
theorem s_X4_readInto {l : Launch} (G : GT) (Z : ZT) (hG : DA G) (hZ : WT G Z) {this : Nat} {a0 : Nat} {μ : MT} {q : Int32 × MT} (ht : Ob G Z this 4) (ha0 : Ob G Z a0 3) (hq : m_X4_readInto Z this a0 μ = some q) : MZ l G Z yX4_readInto cX4_readInto 4 (some .int) 8 [.ref (ga G this), .ref (ga G a0)] μ (some (.int q.1)) q.2 := by
  refine v_met (J := (fun q : Int32 × MT => (some (.int q.1), q.2))) hG hZ (by decide) (Nat.le_of_ble_eq_true rfl) hq ?_
  intro x C hR _ hr
  show VK x G Z (0, 0) 4 (QM x G Z) (fun q : Int32 × MT => (some (.int q.1), q.2)) 0 [(0, .ref (ga G this)), (1, .ref (ga G a0))] [] μ _ some
  unfold m_X4_readInto
  refine v_aload_n C (n := 1) rfl rfl dX4_readInto_0 ?_
  refine v_cvIv C (d := 1) (hR.le (by omega)) (c := 3) rfl cv_X4_19 (by decide) ha0 (by decide) [] rfl (fun _ hc => s_X3_clear G Z hG hZ   ha0 hc) (Nat.le_of_ble_eq_true rfl) dX4_readInto_1 rfl (fun ν1 => ?_)
  refine v_aload_n C (n := 0) rfl rfl dX4_readInto_4 ?_
  refine v_getr C (t := 7) fl_X4_15 rfl rfl ht dX4_readInto_5 (fun h2 => ?_)
  refine v_cvIv C (d := 2) (hR.le (by omega)) (c := 7) rfl cv_X4_24 (by decide) h2 (by decide) [] rfl (fun _ hc => s_X7_toFirst G Z hG hZ   h2 hc) (Nat.le_of_ble_eq_true rfl) dX4_readInto_8 rfl (fun ν3 => ?_)
  refine v_aload_n C (n := 0) rfl rfl dX4_readInto_11 ?_
  refine v_aload_n C (n := 1) rfl rfl dX4_readInto_12 ?_
  refine v_cvIi C (d := 6) (hR.le (by omega)) (c := 4) rfl cv_X4_29 (by decide) ht (by decide) [.ref (ga G a0)] rfl (fun _ hc => s_X4_takePanel G Z hG hZ   ht ha0 hc) (Nat.le_of_ble_eq_true rfl) dX4_readInto_13 rfl (fun r4 ν5 => ?_)
  refine v_istore_n C (lv' := [(2, .int r4), (0, .ref (ga G this)), (1, .ref (ga G a0))]) rfl (by decide) rfl dX4_readInto_16 ?_
  refine v_iconst C (v := 0) (by decide) dX4_readInto_17 ?_
  refine v_istore_n C (lv' := [(3, .int 0), (2, .int r4), (0, .ref (ga G this)), (1, .ref (ga G a0))]) rfl (by decide) rfl dX4_readInto_18 ?_
  refine v_sub (lv' := [(0, .ref (ga G this)), (1, .ref (ga G a0)), (2, .int r4), (3, .int 0)]) [2, 3, 1, 0] rfl ?_
  refine v_lp 19 53 (fun t : Int32 × Int32 × MT => [(0, .ref (ga G this)), (1, .ref (ga G a0)), (2, .int (t.1)), (3, .int (t.2.1))]) (fun t : Int32 × Int32 × MT => t.2.2) (fun t : Int32 × MT => [(0, .ref (ga G this)), (1, .ref (ga G a0)), (2, .int (t.1))]) (fun t : Int32 × MT => t.2) ?_ ?_ LN (r4, 0, ν5)
  · rintro ⟨y9, ν10⟩
    refine v_iconst C (v := 0) (by decide) dX4_readInto_53 ?_
    refine v_istore_n C (lv' := [(3, .int 0), (0, .ref (ga G this)), (1, .ref (ga G a0)), (2, .int y9)]) rfl (by decide) rfl dX4_readInto_54 ?_
    refine v_sub (lv' := [(0, .ref (ga G this)), (1, .ref (ga G a0)), (2, .int y9), (3, .int 0)]) [1, 2, 3, 0] rfl ?_
    refine v_lp 55 89 (fun t : Int32 × Int32 × MT => [(0, .ref (ga G this)), (1, .ref (ga G a0)), (2, .int (t.1)), (3, .int (t.2.1))]) (fun t : Int32 × Int32 × MT => t.2.2) (fun t : Int32 × MT => [(0, .ref (ga G this)), (2, .int (t.1))]) (fun t : Int32 × MT => t.2) ?_ ?_ LN (y9, 0, ν10)
    · rintro ⟨y18, ν19⟩
      refine v_iload_n C (n := 1) rfl rfl dX4_readInto_89 ?_
      refine v_ifne C (t := 107) dX4_readInto_90 (by decide) ?_ ?_
      · refine v_iload_n C (n := 1) rfl rfl dX4_readInto_107 ?_
        exact v_iret C hr dX4_readInto_108 (fun a h => by have h := Option.some.inj h; subst h; rfl)
      · refine v_aload_n C (n := 0) rfl rfl dX4_readInto_93 ?_
        refine v_getr C (t := 7) fl_X4_15 rfl rfl ht dX4_readInto_94 (fun h24 => ?_)
        refine v_cvRi C (d := 0) (hR.le (by omega)) (c := 7) rfl cv_X4_43 (by decide) h24 (by decide) [] rfl (fun _ hc => s_X7_atEnd G Z hG hZ   h24 hc) (Nat.le_of_ble_eq_true rfl) dX4_readInto_97 rfl (fun r25 => ?_)
        refine v_ifne C (t := 107) dX4_readInto_100 (by decide) ?_ ?_
        · refine v_iload_n C (n := 1) rfl rfl dX4_readInto_107 ?_
          exact v_iret C hr dX4_readInto_108 (fun a h => by have h := Option.some.inj h; subst h; rfl)
        · refine v_iconst C (v := 1) (by decide) dX4_readInto_103 ?_
          refine v_goto C (t := 108) (by decide) dX4_readInto_104 ?_
          exact v_iret C hr dX4_readInto_108 (fun a h => by have h := Option.some.inj h; subst h; rfl)
    · intro X20 F22 hX21 hF23
      rintro ⟨y15, y16, ν17⟩
      refine v_iload_n C (n := 3) rfl rfl dX4_readInto_55 ?_
      refine v_bipush C (v := 10) (by decide) dX4_readInto_56 ?_
      refine v_icgt C (t := 89) dX4_readInto_58 (by decide) ?_ ?_
      · refine v_sub (lv' := [(0, .ref (ga G this)), (2, .int y15)]) [0, 2] rfl ?_
        exact v_leaf (hF23 (y15, ν17))
      · refine v_iload_n C (n := 2) rfl rfl dX4_readInto_61 ?_
        refine v_ifne C (t := 89) dX4_readInto_62 (by decide) ?_ ?_
        · refine v_sub (lv' := [(0, .ref (ga G this)), (2, .int y15)]) [0, 2] rfl ?_
          exact v_leaf (hF23 (y15, ν17))
        · refine v_aload_n C (n := 0) rfl rfl dX4_readInto_65 ?_
          refine v_getr C (t := 7) fl_X4_15 rfl rfl ht dX4_readInto_66 (fun h26 => ?_)
          refine v_bipush C (v := 12) (by decide) dX4_readInto_69 ?_
          refine v_cvRi C (d := 5) (hR.le (by omega)) (c := 7) rfl cv_X4_33 (by decide) h26 (by decide) [.int 12] rfl (fun _ hc => s_X7_atWord G Z hG hZ   h26 hc) (Nat.le_of_ble_eq_true rfl) dX4_readInto_71 rfl (fun r27 => ?_)
          refine v_ifeq C (t := 89) dX4_readInto_74 (by decide) ?_ ?_
          · refine v_sub (lv' := [(0, .ref (ga G this)), (2, .int y15)]) [0, 2] rfl ?_
            exact v_leaf (hF23 (y15, ν17))
          · refine v_aload_n C (n := 0) rfl rfl dX4_readInto_77 ?_
            refine v_aload_n C (n := 1) rfl rfl dX4_readInto_78 ?_
            refine v_cvIi C (d := 3) (hR.le (by omega)) (c := 4) rfl cv_X4_40 (by decide) ht (by decide) [.ref (ga G a0)] rfl (fun _ hc => s_X4_takeBefore G Z hG hZ   ht ha0 hc) (Nat.le_of_ble_eq_true rfl) dX4_readInto_79 rfl (fun r28 ν29 => ?_)
            refine v_istore_n C (lv' := [(2, .int r28), (0, .ref (ga G this)), (1, .ref (ga G a0)), (3, .int y16)]) rfl (by decide) rfl dX4_readInto_82 ?_
            refine v_iinc C (n := 3) (v := y16 + 1) (lv' := [(3, .int (y16 + 1)), (2, .int r28), (0, .ref (ga G this)), (1, .ref (ga G a0))]) rfl (congrArg (y16 + ·) (by decide : Int32.ofInt (1) = (1 : Int32))) (by decide) rfl dX4_readInto_83 ?_
            refine v_let (y := y16 + 1) (fun x30 => [(3, .int x30), (2, .int r28), (0, .ref (ga G this)), (1, .ref (ga G a0))]) (fun x30 => []) (fun x30 => ?_)
            refine v_goto C (t := 55) (by decide) dX4_readInto_86 ?_
            refine v_sub (lv' := [(0, .ref (ga G this)), (1, .ref (ga G a0)), (2, .int r28), (3, .int x30)]) [2, 3, 1, 0] rfl ?_
            exact v_leaf (hX21 (r28, x30, ν29))
  · intro X11 F13 hX12 hF14
    rintro ⟨y6, y7, ν8⟩
    refine v_iload_n C (n := 3) rfl rfl dX4_readInto_19 ?_
    refine v_bipush C (v := 6) (by decide) dX4_readInto_20 ?_
    refine v_icgt C (t := 53) dX4_readInto_22 (by decide) ?_ ?_
    · refine v_sub (lv' := [(0, .ref (ga G this)), (1, .ref (ga G a0)), (2, .int y6)]) [0, 1, 2] rfl ?_
      exact v_leaf (hF14 (y6, ν8))
    · refine v_iload_n C (n := 2) rfl rfl dX4_readInto_25 ?_
      refine v_ifne C (t := 53) dX4_readInto_26 (by decide) ?_ ?_
      · refine v_sub (lv' := [(0, .ref (ga G this)), (1, .ref (ga G a0)), (2, .int y6)]) [0, 1, 2] rfl ?_
        exact v_leaf (hF14 (y6, ν8))
      · refine v_aload_n C (n := 0) rfl rfl dX4_readInto_29 ?_
        refine v_getr C (t := 7) fl_X4_15 rfl rfl ht dX4_readInto_30 (fun h31 => ?_)
        refine v_bipush C (v := 11) (by decide) dX4_readInto_33 ?_
        refine v_cvRi C (d := 5) (hR.le (by omega)) (c := 7) rfl cv_X4_33 (by decide) h31 (by decide) [.int 11] rfl (fun _ hc => s_X7_atWord G Z hG hZ   h31 hc) (Nat.le_of_ble_eq_true rfl) dX4_readInto_35 rfl (fun r32 => ?_)
        refine v_ifeq C (t := 53) dX4_readInto_38 (by decide) ?_ ?_
        · refine v_sub (lv' := [(0, .ref (ga G this)), (1, .ref (ga G a0)), (2, .int y6)]) [0, 1, 2] rfl ?_
          exact v_leaf (hF14 (y6, ν8))
        · refine v_aload_n C (n := 0) rfl rfl dX4_readInto_41 ?_
          refine v_aload_n C (n := 1) rfl rfl dX4_readInto_42 ?_
          refine v_cvIi C (d := 7) (hR.le (by omega)) (c := 4) rfl cv_X4_37 (by decide) ht (by decide) [.ref (ga G a0)] rfl (fun _ hc => s_X4_takeSeam G Z hG hZ   ht ha0 hc) (Nat.le_of_ble_eq_true rfl) dX4_readInto_43 rfl (fun r33 ν34 => ?_)
          refine v_istore_n C (lv' := [(2, .int r33), (0, .ref (ga G this)), (1, .ref (ga G a0)), (3, .int y7)]) rfl (by decide) rfl dX4_readInto_46 ?_
          refine v_iinc C (n := 3) (v := y7 + 1) (lv' := [(3, .int (y7 + 1)), (2, .int r33), (0, .ref (ga G this)), (1, .ref (ga G a0))]) rfl (congrArg (y7 + ·) (by decide : Int32.ofInt (1) = (1 : Int32))) (by decide) rfl dX4_readInto_47 ?_
          refine v_let (y := y7 + 1) (fun x35 => [(3, .int x35), (2, .int r33), (0, .ref (ga G this)), (1, .ref (ga G a0))]) (fun x35 => []) (fun x35 => ?_)
          refine v_goto C (t := 19) (by decide) dX4_readInto_50 ?_
          refine v_sub (lv' := [(0, .ref (ga G this)), (1, .ref (ga G a0)), (2, .int r33), (3, .int x35)]) [2, 3, 1, 0] rfl ?_
          exact v_leaf (hX12 (r33, x35, ν34))
