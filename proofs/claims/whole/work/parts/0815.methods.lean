set_option maxRecDepth 20000 in
set_option maxHeartbeats 4000000 in
theorem s_X9_go {l : Launch} (G : GT) (Z : ZT) (hG : DA G) (hZ : WT G Z) {this : Nat} {a0 : Int32} {μ : MT} {q : MT} (ht : Ob G Z this 9) (hq : m_X9_go Z this a0 μ = some q) : MZ l G Z yX9_go cX9_go 4 none 6 [.ref (ga G this), .int a0] μ none q := by
  refine v_met (J := (fun ν : MT => ((none : Option Value), ν))) hG hZ (by decide) (Nat.le_of_ble_eq_true rfl) hq ?_
  intro x C hR _ hr
  show VK x G Z (0, 0) 4 (QM x G Z) (fun ν : MT => ((none : Option Value), ν)) 0 [(0, .ref (ga G this)), (1, .int a0)] [] μ _ some
  unfold m_X9_go
  refine v_iconst C (v := 0) (by decide) dX9_go_0 ?_
  refine v_istore_n C (lv' := [(2, .int 0), (0, .ref (ga G this)), (1, .int a0)]) rfl (by decide) rfl dX9_go_1 ?_
  refine v_sub (lv' := [(0, .ref (ga G this)), (1, .int a0), (2, .int 0)]) [1, 2, 0] rfl ?_
  refine v_lp 2 67 (fun t : Int32 × MT => [(0, .ref (ga G this)), (1, .int a0), (2, .int (t.1))]) (fun t : Int32 × MT => t.2) (fun t : MT => [(0, .ref (ga G this)), (1, .int a0)]) (fun t : MT => t) ?_ ?_ LN (0, μ)
  · intro ν3
    refine v_aload_n C (n := 0) rfl rfl dX9_go_67 ?_
    refine v_iconst C (v := 0) (by decide) dX9_go_68 ?_
    refine v_puti C fp_X9_240 rfl rfl ht dX9_go_69 (fun ν8 => ?_)
    refine v_iconst C (v := 0) (by decide) dX9_go_72 ?_
    refine v_istore_n C (lv' := [(2, .int 0), (0, .ref (ga G this)), (1, .int a0)]) rfl (by decide) rfl dX9_go_73 ?_
    refine v_sub (lv' := [(0, .ref (ga G this)), (1, .int a0), (2, .int 0)]) [1, 2, 0] rfl ?_
    refine v_lp 74 138 (fun t : Int32 × MT => [(0, .ref (ga G this)), (1, .int a0), (2, .int (t.1))]) (fun t : Int32 × MT => t.2) (fun t : MT => [(0, .ref (ga G this))]) (fun t : MT => t) ?_ ?_ LN (0, ν8)
    · intro ν11
      refine v_iconst C (v := 0) (by decide) dX9_go_138 ?_
      refine v_istore_n C (lv' := [(2, .int 0), (0, .ref (ga G this))]) rfl (by decide) rfl dX9_go_139 ?_
      refine v_sub (lv' := [(0, .ref (ga G this)), (2, .int 0)]) [1, 0] rfl ?_
      refine v_lp 140 159 (fun t : Int32 × MT => [(0, .ref (ga G this)), (2, .int (t.1))]) (fun t : Int32 × MT => t.2) (fun t : MT => []) (fun t : MT => t) ?_ ?_ LN (0, ν11)
      · intro ν18
        exact v_vret C hr dX9_go_159 (fun a h => by have h := Option.some.inj h; subst h; rfl)
      · intro X19 F21 hX20 hF22
        rintro ⟨y16, ν17⟩
        refine v_iload_n C (n := 1) rfl rfl dX9_go_140 ?_
        refine v_aload_n C (n := 0) rfl rfl dX9_go_141 ?_
        refine v_geti C fl_X9_212 rfl ht dX9_go_142 ?_
        refine v_icge C (t := 159) dX9_go_145 (by decide) ?_ ?_
        · refine v_sub (lv' := []) [] rfl ?_
          exact v_leaf (hF22 ν17)
        · refine v_aload_n C (n := 0) rfl rfl dX9_go_148 ?_
          refine v_iload_n C (n := 1) rfl rfl dX9_go_149 ?_
          refine v_cvIv C (d := 0) (hR.le (by omega)) (c := 9) rfl cv_X9_252 (by decide) ht (by decide) [.int y16] rfl (fun _ hc => s_X9_free G Z hG hZ   ht hc) (Nat.le_of_ble_eq_true rfl) dX9_go_150 rfl (fun ν23 => ?_)
          refine v_iinc C (n := 1) (v := y16 + 1) (lv' := [(2, .int (y16 + 1)), (0, .ref (ga G this))]) rfl (congrArg (y16 + ·) (by decide : Int32.ofInt (1) = (1 : Int32))) (by decide) rfl dX9_go_153 ?_
          refine v_let (y := y16 + 1) (fun x24 => [(2, .int x24), (0, .ref (ga G this))]) (fun x24 => []) (fun x24 => ?_)
          refine v_goto C (t := 140) (by decide) dX9_go_156 ?_
          refine v_sub (lv' := [(0, .ref (ga G this)), (2, .int x24)]) [1, 0] rfl ?_
          exact v_leaf (hX20 (x24, ν23))
    · intro X12 F14 hX13 hF15
      rintro ⟨y9, ν10⟩
      refine v_iload_n C (n := 2) rfl rfl dX9_go_74 ?_
      refine v_aload_n C (n := 0) rfl rfl dX9_go_75 ?_
      refine v_geti C fl_X9_215 rfl ht dX9_go_76 ?_
      refine v_icge C (t := 138) dX9_go_79 (by decide) ?_ ?_
      · refine v_sub (lv' := [(0, .ref (ga G this))]) [0] rfl ?_
        exact v_leaf (hF15 ν10)
      · refine v_iconst C (v := 0) (by decide) dX9_go_82 ?_
        refine v_istore_n C (lv' := [(3, .int 0), (0, .ref (ga G this)), (1, .int a0), (2, .int y9)]) rfl (by decide) rfl dX9_go_83 ?_
        refine v_sub (lv' := [(0, .ref (ga G this)), (1, .int a0), (2, .int y9), (3, .int 0)]) [1, 2, 3, 0] rfl ?_
        refine v_lp 84 132 (fun t : Int32 × MT => [(0, .ref (ga G this)), (1, .int a0), (2, .int y9), (3, .int (t.1))]) (fun t : Int32 × MT => t.2) (fun t : MT => [(0, .ref (ga G this)), (1, .int a0), (2, .int y9)]) (fun t : MT => t) ?_ ?_ LN (0, ν10)
        · intro ν27
          refine v_iinc C (n := 2) (v := y9 + 1) (lv' := [(2, .int (y9 + 1)), (0, .ref (ga G this)), (1, .int a0)]) rfl (congrArg (y9 + ·) (by decide : Int32.ofInt (1) = (1 : Int32))) (by decide) rfl dX9_go_132 ?_
          refine v_let (y := y9 + 1) (fun x32 => [(2, .int x32), (0, .ref (ga G this)), (1, .int a0)]) (fun x32 => []) (fun x32 => ?_)
          refine v_goto C (t := 74) (by decide) dX9_go_135 ?_
          refine v_sub (lv' := [(0, .ref (ga G this)), (1, .int a0), (2, .int x32)]) [1, 2, 0] rfl ?_
          exact v_leaf (hX13 (x32, ν27))
        · intro X28 F30 hX29 hF31
          rintro ⟨y25, ν26⟩
          refine v_iload_n C (n := 3) rfl rfl dX9_go_84 ?_
          refine v_aload_n C (n := 0) rfl rfl dX9_go_85 ?_
          refine v_geti C fl_X9_218 rfl ht dX9_go_86 ?_
          refine v_icge C (t := 132) dX9_go_89 (by decide) ?_ ?_
          · refine v_sub (lv' := [(0, .ref (ga G this)), (1, .int a0), (2, .int y9)]) [0, 1, 2] rfl ?_
            exact v_leaf (hF31 ν26)
          · refine v_aload_n C (n := 0) rfl rfl dX9_go_92 ?_
            refine v_getr C (t := 20) fl_X9_19 rfl rfl ht dX9_go_93 (fun h33 => ?_)
            refine v_iconst C (v := 4) (by decide) dX9_go_96 ?_
            refine v_iload_n C (n := 3) rfl rfl dX9_go_97 ?_
            refine v_imul C dX9_go_98 ?_
            refine v_iconst C (v := 3) (by decide) dX9_go_99 ?_
            refine v_iadd C dX9_go_100 ?_
            refine v_iald C h33.oa dX9_go_101 (fun x34 => ?_)
            refine v_aload_n C (n := 0) rfl rfl dX9_go_102 ?_
            refine v_getr C (t := 20) fl_X9_62 rfl rfl ht dX9_go_103 (fun h35 => ?_)
            refine v_iload_n C (n := 2) rfl rfl dX9_go_106 ?_
            refine v_iald C h35.oa dX9_go_107 (fun x36 => ?_)
            refine v_join 126 (fun t : MT => [(0, .ref (ga G this)), (1, .int a0), (2, .int y9), (3, .int y25)]) (fun t : MT => []) (fun t : MT => t) ?_ ?_
            · intro ν37
              refine v_iinc C (n := 3) (v := y25 + 1) (lv' := [(3, .int (y25 + 1)), (0, .ref (ga G this)), (1, .int a0), (2, .int y9)]) rfl (congrArg (y25 + ·) (by decide : Int32.ofInt (1) = (1 : Int32))) (by decide) rfl dX9_go_126 ?_
              refine v_let (y := y25 + 1) (fun x40 => [(3, .int x40), (0, .ref (ga G this)), (1, .int a0), (2, .int y9)]) (fun x40 => []) (fun x40 => ?_)
              refine v_goto C (t := 84) (by decide) dX9_go_129 ?_
              refine v_sub (lv' := [(0, .ref (ga G this)), (1, .int a0), (2, .int y9), (3, .int x40)]) [1, 2, 3, 0] rfl ?_
              exact v_leaf (hX29 (x40, ν37))
            intro F39 hF38
            refine v_icne C (t := 126) dX9_go_108 (by decide) ?_ ?_
            · exact v_leaf (hF38 ν26)
            · refine v_aload_n C (n := 0) rfl rfl dX9_go_111 ?_
              refine v_getr C (t := 20) fl_X9_62 rfl rfl ht dX9_go_112 (fun h41 => ?_)
              refine v_iload_n C (n := 2) rfl rfl dX9_go_115 ?_
              refine v_iald C h41.oa dX9_go_116 (fun x42 => ?_)
              refine v_iload_n C (n := 1) rfl rfl dX9_go_117 ?_
              refine v_iceq C (t := 126) dX9_go_118 (by decide) ?_ ?_
              · exact v_leaf (hF38 ν26)
              · refine v_aload_n C (n := 0) rfl rfl dX9_go_121 ?_
                refine v_iload_n C (n := 3) rfl rfl dX9_go_122 ?_
                refine v_cvIv C (d := 5) (hR.le (by omega)) (c := 9) rfl cv_X9_263 (by decide) ht (by decide) [.int y25] rfl (fun _ hc => s_X9_doAct G Z hG hZ   ht hc) (Nat.le_of_ble_eq_true rfl) dX9_go_123 rfl (fun ν43 => ?_)
                exact v_leaf (hF38 ν43)
  · intro X4 F6 hX5 hF7
    rintro ⟨y1, ν2⟩
    refine v_iload_n C (n := 2) rfl rfl dX9_go_2 ?_
    refine v_bipush C (v := 48) (by decide) dX9_go_3 ?_
    refine v_icge C (t := 67) dX9_go_5 (by decide) ?_ ?_
    · refine v_sub (lv' := [(0, .ref (ga G this)), (1, .int a0)]) [0, 1] rfl ?_
      exact v_leaf (hF7 ν2)
    · refine v_aload_n C (n := 0) rfl rfl dX9_go_8 ?_
      refine v_getr C (t := 20) fl_X9_46 rfl rfl ht dX9_go_9 (fun h44 => ?_)
      refine v_iload_n C (n := 2) rfl rfl dX9_go_12 ?_
      refine v_iload_n C (n := 2) rfl rfl dX9_go_13 ?_
      refine v_i2l C (v := (y1 : Int32).toInt64) rfl dX9_go_14 ?_
      refine v_ldc2 C (v := 24) (w16 4 rfl) dX9_go_15 ?_
      refine v_ldc2 C (v := 35) (w16 5 rfl) dX9_go_18 ?_
      refine v_csRi C (d := 0) (hR.le (by omega)) cs_X9_81 (by decide) [.long ((y1 : Int32).toInt64), .long 24, .long 35] rfl (fun _ hc => s_X9_in G Z hG hZ   hc) (Nat.le_of_ble_eq_true rfl) dX9_go_21 rfl (fun r45 => ?_)
      refine v_join 40 (fun t : Int32 => [(0, .ref (ga G this)), (1, .int a0), (2, .int y1)]) (fun t : Int32 => [.int t, .int y1, .ref (ga G (zr Z this 32))]) (fun t : Int32 => ν2) ?_ ?_
      · intro z46
        refine v_iast C h44 dX9_go_40 (fun ν49 => ?_)
        refine v_aload_n C (n := 0) rfl rfl dX9_go_41 ?_
        refine v_getr C (t := 20) fl_X9_49 rfl rfl ht dX9_go_42 (fun h50 => ?_)
        refine v_iload_n C (n := 2) rfl rfl dX9_go_45 ?_
        refine v_bipush C (v := 12) (by decide) dX9_go_46 ?_
        refine v_irem C dX9_go_48 (fun x51 => ?_)
        refine v_iconst C (v := 0) (by decide) dX9_go_49 ?_
        refine v_iast C h50 dX9_go_50 (fun ν52 => ?_)
        refine v_aload_n C (n := 0) rfl rfl dX9_go_51 ?_
        refine v_getr C (t := 22) fl_X9_52 rfl rfl ht dX9_go_52 (fun h53 => ?_)
        refine v_iload_n C (n := 2) rfl rfl dX9_go_55 ?_
        refine v_bipush C (v := 12) (by decide) dX9_go_56 ?_
        refine v_irem C dX9_go_58 (fun x54 => ?_)
        refine v_iconst C (v := 0) (by decide) dX9_go_59 ?_
        refine v_zast C h53 dX9_go_60 (fun ν55 => ?_)
        refine v_iinc C (n := 2) (v := y1 + 1) (lv' := [(2, .int (y1 + 1)), (0, .ref (ga G this)), (1, .int a0)]) rfl (congrArg (y1 + ·) (by decide : Int32.ofInt (1) = (1 : Int32))) (by decide) rfl dX9_go_61 ?_
        refine v_let (y := y1 + 1) (fun x56 => [(2, .int x56), (0, .ref (ga G this)), (1, .int a0)]) (fun x56 => []) (fun x56 => ?_)
        refine v_goto C (t := 2) (by decide) dX9_go_64 ?_
        refine v_sub (lv' := [(0, .ref (ga G this)), (1, .int a0), (2, .int x56)]) [1, 2, 0] rfl ?_
        exact v_leaf (hX5 (x56, ν55))
      intro F48 hF47
      refine v_ifeq C (t := 39) dX9_go_24 (by decide) ?_ ?_
      · refine v_iconst C (v := 0) (by decide) dX9_go_39 ?_
        exact v_leaf (hF47 0)
      · refine v_aload_n C (n := 0) rfl rfl dX9_go_27 ?_
        refine v_getr C (t := 20) fl_X9_59 rfl rfl ht dX9_go_28 (fun h57 => ?_)
        refine v_iload_n C (n := 2) rfl rfl dX9_go_31 ?_
        refine v_bipush C (v := 24) (by decide) dX9_go_32 ?_
        refine v_isub C dX9_go_34 ?_
        refine v_iald C h57.oa dX9_go_35 (fun x58 => ?_)
        refine v_goto C (t := 40) (by decide) dX9_go_36 ?_
        exact v_leaf (hF47 x58)
set_option maxRecDepth 20000 in
set_option maxHeartbeats 4000000 in
theorem s_X8_plan {l : Launch} (G : GT) (Z : ZT) (hG : DA G) (hZ : WT G Z) {this : Nat} {μ : MT} {q : Int32 × MT} (ht : Ob G Z this 8) (hq : m_X8_plan Z (gn G) this μ = some q) : MZ l G Z yX8_plan cX8_plan 4 (some .int) 9 [.ref (ga G this)] μ (some (.int q.1)) q.2 := by
  refine v_met (J := (fun q : Int32 × MT => (some (.int q.1), q.2))) hG hZ (by decide) (Nat.le_of_ble_eq_true rfl) hq ?_
  intro x C hR _ hr
  show VK x G Z (0, 0) 4 (QM x G Z) (fun q : Int32 × MT => (some (.int q.1), q.2)) 0 [(0, .ref (ga G this))] [] μ _ some
  unfold m_X8_plan
  refine v_aload_n C (n := 0) rfl rfl dX8_plan_0 ?_
  refine v_getr C (t := 4) fl_X8_28 rfl rfl ht dX8_plan_1 (fun h1 => ?_)
  refine v_aload_n C (n := 0) rfl rfl dX8_plan_4 ?_
  refine v_getm C fl_X8_80 rfl ht dX8_plan_5 (fun q2 h3 => ?_)
  refine v_cvIi C (d := 8) (hR.le (by omega)) (c := 4) rfl cv_X8_139 (by decide) h1 (by decide) [.ref (ga G q2)] rfl (fun _ hc => s_X4_readInto G Z hG hZ   h1 h3 hc) (Nat.le_of_ble_eq_true rfl) dX8_plan_8 rfl (fun r4 ν5 => ?_)
  refine v_istore_n C (lv' := [(1, .int r4), (0, .ref (ga G this))]) rfl (by decide) rfl dX8_plan_11 ?_
  refine v_aload_n C (n := 1) rfl rfl dX8_plan_12 ?_
  refine v_getr C (t := 7) fl_X8_19 rfl rfl ht dX8_plan_13 (fun h6 => ?_)
  refine v_cvRi C (d := 0) (hR.le (by omega)) (c := 7) rfl cv_X8_143 (by decide) h6 (by decide) [] rfl (fun _ hc => s_X7_tokenPlace G Z hG hZ   h6 hc) (Nat.le_of_ble_eq_true rfl) dX8_plan_16 rfl (fun r7 => ?_)
  refine v_istore_n C (lv' := [(2, .int r7), (1, .int r4), (0, .ref (ga G this))]) rfl (by decide) rfl dX8_plan_19 ?_
  refine v_aload_n C (n := 2) rfl rfl dX8_plan_20 ?_
  refine v_getr C (t := 7) fl_X8_19 rfl rfl ht dX8_plan_21 (fun h8 => ?_)
  refine v_cvIv C (d := 0) (hR.le (by omega)) (c := 7) rfl cv_X8_147 (by decide) h8 (by decide) [] rfl (fun _ hc => s_X7_empty G Z hG hZ   h8 hc) (Nat.le_of_ble_eq_true rfl) dX8_plan_24 rfl (fun ν9 => ?_)
  refine v_iload_n C (n := 1) rfl rfl dX8_plan_27 ?_
  refine v_ifeq C (t := 41) dX8_plan_28 (by decide) ?_ ?_
  · refine v_aload_n C (n := 2) rfl rfl dX8_plan_41 ?_
    refine v_getm C fl_X8_76 rfl ht dX8_plan_42 (fun q10 h11 => ?_)
    refine v_astore_n C (lv' := [(3, .ref (ga G q10)), (2, .int r7), (1, .int r4), (0, .ref (ga G this))]) rfl (by decide) rfl dX8_plan_45 ?_
    refine v_aload_n C (n := 3) rfl rfl dX8_plan_46 ?_
    refine v_aload_n C (n := 3) rfl rfl dX8_plan_47 ?_
    refine v_getm C fl_X8_80 rfl ht dX8_plan_48 (fun q12 h13 => ?_)
    refine v_putm C (N := "SeamPull$Plan") fp_X8_76 rfl rfl (by have := h13.2; have := C.2.2.2.2.2.2.2.1.2.2; omega) ht dX8_plan_51 (fun ν14 => ?_)
    refine v_aload_n C (n := 3) rfl rfl dX8_plan_54 ?_
    refine v_aload_n C (n := 0) rfl rfl dX8_plan_55 ?_
    refine v_putm C (N := "SeamPull$Plan") fp_X8_80 rfl rfl (by have := h11.2; have := C.2.2.2.2.2.2.2.1.2.2; omega) ht dX8_plan_56 (fun ν15 => ?_)
    refine v_aload_n C (n := 3) rfl rfl dX8_plan_59 ?_
    refine v_cvIv C (d := 2) (hR.le (by omega)) (c := 8) rfl cv_X8_151 (by decide) ht (by decide) [] rfl (fun _ hc => s_X8_beginPlan G Z hG hZ   ht hc) (Nat.le_of_ble_eq_true rfl) dX8_plan_60 rfl (fun ν16 => ?_)
    refine v_aload_n C (n := 3) rfl rfl dX8_plan_63 ?_
    refine v_getm C fl_X8_76 rfl ht dX8_plan_64 (fun q17 h18 => ?_)
    refine v_getiN C fn_X8_154 rfl h18 dX8_plan_67 ?_
    exact v_iret C hr dX8_plan_70 (fun a h => by have h := Option.some.inj h; subst h; rfl)
  · refine v_aload_n C (n := 2) rfl rfl dX8_plan_31 ?_
    refine v_iload_n C (n := 1) rfl rfl dX8_plan_32 ?_
    refine v_puti C fp_X8_87 rfl rfl ht dX8_plan_33 (fun ν19 => ?_)
    refine v_ldc C (v := (-1000100)) (w7 30 rfl) dX8_plan_36 ?_
    refine v_iload_n C (n := 0) rfl rfl dX8_plan_38 ?_
    refine v_isub C dX8_plan_39 ?_
    exact v_iret C hr dX8_plan_40 (fun a h => by have h := Option.some.inj h; subst h; rfl)
set_option maxRecDepth 20000 in
set_option maxHeartbeats 4000000 in
theorem s_X9_run {l : Launch} (G : GT) (Z : ZT) (hG : DA G) (hZ : WT G Z) {this : Nat} {a0 : Int32} {a1 : Int32} {μ : MT} {q : Int32 × MT} (ht : Ob G Z this 9) (hq : m_X9_run Z this a0 a1 μ = some q) : MZ l G Z yX9_run cX9_run 6 (some .int) 7 [.ref (ga G this), .int a0, .int a1] μ (some (.int q.1)) q.2 := by
  refine v_met (J := (fun q : Int32 × MT => (some (.int q.1), q.2))) hG hZ (by decide) (Nat.le_of_ble_eq_true rfl) hq ?_
  intro x C hR _ hr
  show VK x G Z (0, 0) 6 (QM x G Z) (fun q : Int32 × MT => (some (.int q.1), q.2)) 0 [(0, .ref (ga G this)), (1, .int a0), (2, .int a1)] [] μ _ some
  unfold m_X9_run
  refine v_aload_n C (n := 0) rfl rfl dX9_run_0 ?_
  refine v_iconst C (v := 0) (by decide) dX9_run_1 ?_
  refine v_puti C fp_X9_71 rfl rfl ht dX9_run_2 (fun ν1 => ?_)
  refine v_iload_n C (n := 1) rfl rfl dX9_run_5 ?_
  refine v_csRi C (d := 1) (hR.le (by omega)) cs_X9_85 (by decide) [.int a0] rfl (fun _ hc => s_X9_isSheet G Z hG hZ   hc) (Nat.le_of_ble_eq_true rfl) dX9_run_6 rfl (fun r2 => ?_)
  refine v_ifne C (t := 15) dX9_run_9 (by decide) ?_ ?_
  · refine v_aload_n C (n := 0) rfl rfl dX9_run_15 ?_
    refine v_geti C fl_X9_212 rfl ht dX9_run_16 ?_
    refine v_ifne C (t := 26) dX9_run_19 (by decide) ?_ ?_
    · refine v_aload_n C (n := 0) rfl rfl dX9_run_26 ?_
      refine v_getr C (t := 20) fl_X9_7 rfl rfl ht dX9_run_27 (fun h3 => ?_)
      refine v_iload_n C (n := 1) rfl rfl dX9_run_30 ?_
      refine v_iald C h3.oa dX9_run_31 (fun x4 => ?_)
      refine v_ifge C (t := 41) dX9_run_32 (by decide) ?_ ?_
      · refine v_iload_n C (n := 2) rfl rfl dX9_run_41 ?_
        refine v_joinm 64 (fun t : MT => [(0, .ref (ga G this))]) (fun t : MT => []) (fun t : MT => t) ?_ ?_
        · intro ν5
          refine v_aload_n C (n := 0) rfl rfl dX9_run_64 ?_
          refine v_iconst C (v := 2) (by decide) dX9_run_65 ?_
          refine v_cvIi C (d := 0) (hR.le (by omega)) (c := 9) rfl cv_X9_92 (by decide) ht (by decide) [.int 2] rfl (fun _ hc => s_X9_finding G Z hG hZ   ht hc) (Nat.le_of_ble_eq_true rfl) dX9_run_66 rfl (fun r9 ν10 => ?_)
          exact v_iret C hr dX9_run_69 (fun a h => by have h := Option.some.inj h; subst h; rfl)
        intro F7 e8 hF6
        refine v_iflt C (t := 64) dX9_run_42 (by decide) ?_ ?_
        · refine v_sub (lv' := [(0, .ref (ga G this))]) [0] rfl ?_
          exact v_leaf (hF6 ν1)
        · refine v_iload_n C (n := 2) rfl rfl dX9_run_45 ?_
          refine v_i2l C (v := (a1 : Int32).toInt64) rfl dX9_run_46 ?_
          refine v_aload_n C (n := 0) rfl rfl dX9_run_47 ?_
          refine v_geti C fl_X9_215 rfl ht dX9_run_48 ?_
          refine v_i2l C (v := (ν1 this 6 : Int32).toInt64) rfl dX9_run_51 ?_
          refine v_ladd C dX9_run_52 ?_
          refine v_aload_n C (n := 0) rfl rfl dX9_run_53 ?_
          refine v_getr C (t := 20) fl_X9_13 rfl rfl ht dX9_run_54 (fun h11 => ?_)
          refine v_iload_n C (n := 1) rfl rfl dX9_run_57 ?_
          refine v_iald C h11.oa dX9_run_58 (fun x12 => ?_)
          refine v_i2l C (v := (x12 : Int32).toInt64) rfl dX9_run_59 ?_
          refine v_lcmp C dX9_run_60 ?_
          refine v_ifle C (t := 70) dX9_run_61 (by decide) ?_ ?_
          · refine v_iconst C (v := 0) (by decide) dX9_run_70 ?_
            refine v_istore_n C (lv' := [(3, .int 0), (0, .ref (ga G this)), (1, .int a0), (2, .int a1)]) rfl (by decide) rfl dX9_run_71 ?_
            refine v_iconst C (v := 0) (by decide) dX9_run_72 ?_
            refine v_istore C (lv' := [(4, .int 0), (3, .int 0), (0, .ref (ga G this)), (1, .int a0), (2, .int a1)]) (by decide) rfl dX9_run_73 ?_
            refine v_sub (lv' := [(0, .ref (ga G this)), (1, .int a0), (2, .int a1), (3, .int 0), (4, .int 0)]) [2, 3, 4, 1, 0] rfl ?_
            refine v_lpm 75 143 (fun t : Int32 × Int32 => [(0, .ref (ga G this)), (1, .int a0), (2, .int a1), (3, .int (t.1)), (4, .int (t.2))]) (fun t : Int32 × Int32 => ν1) (fun t : Unit => [(0, .ref (ga G this)), (1, .int a0), (2, .int a1)]) (fun t : Unit => ν1) ?_ ?_ LN (0, 0)
            · rintro ⟨⟩
              refine v_aload_n C (n := 0) rfl rfl dX9_run_143 ?_
              refine v_iconst C (v := 0) (by decide) dX9_run_144 ?_
              refine v_puti C fp_X9_75 rfl rfl ht dX9_run_145 (fun ν20 => ?_)
              refine v_iconst C (v := 0) (by decide) dX9_run_148 ?_
              refine v_istore C (lv' := [(4, .int 0), (0, .ref (ga G this)), (1, .int a0), (2, .int a1)]) (by decide) rfl dX9_run_149 ?_
              refine v_sub (lv' := [(0, .ref (ga G this)), (1, .int a0), (2, .int a1), (4, .int 0)]) [1, 2, 3, 0] rfl ?_
              refine v_lp 151 199 (fun t : Int32 × MT => [(0, .ref (ga G this)), (1, .int a0), (2, .int a1), (4, .int (t.1))]) (fun t : Int32 × MT => t.2) (fun t : MT => [(0, .ref (ga G this))]) (fun t : MT => t) ?_ ?_ LN (0, ν20)
              · intro ν23
                refine v_aload_n C (n := 0) rfl rfl dX9_run_199 ?_
                refine v_cvIv C (d := 0) (hR.le (by omega)) (c := 9) rfl cv_X9_274 (by decide) ht (by decide) [] rfl (fun _ hc => s_X9_layOpened G Z hG hZ   ht hc) (Nat.le_of_ble_eq_true rfl) dX9_run_200 rfl (fun ν28 => ?_)
                refine v_aload_n C (n := 0) rfl rfl dX9_run_203 ?_
                refine v_ldc C (v := (-1000000)) (w14 52 rfl) dX9_run_204 ?_
                refine v_cvIv C (d := 6) (hR.le (by omega)) (c := 9) rfl cv_X9_277 (by decide) ht (by decide) [.int (-1000000)] rfl (fun _ hc => s_X9_go G Z hG hZ   ht hc) (Nat.le_of_ble_eq_true rfl) dX9_run_206 rfl (fun ν29 => ?_)
                refine v_aload_n C (n := 0) rfl rfl dX9_run_209 ?_
                refine v_cvIv C (d := 0) (hR.le (by omega)) (c := 9) rfl cv_X9_280 (by decide) ht (by decide) [] rfl (fun _ hc => s_X9_stand G Z hG hZ   ht hc) (Nat.le_of_ble_eq_true rfl) dX9_run_210 rfl (fun ν30 => ?_)
                refine v_aload_n C (n := 0) rfl rfl dX9_run_213 ?_
                refine v_cvRi C (d := 1) (hR.le (by omega)) (c := 9) rfl cv_X9_283 (by decide) ht (by decide) [] rfl (fun _ hc => s_X9_offBy G Z hG hZ   ht hc) (Nat.le_of_ble_eq_true rfl) dX9_run_214 rfl (fun r31 => ?_)
                exact v_iret C hr dX9_run_217 (fun a h => by simp only [ob_s, lq, e8] at h; have h := Option.some.inj h; subst h; rfl)
              · intro X24 F26 hX25 hF27
                rintro ⟨y21, ν22⟩
                refine v_iload C (n := 3) rfl dX9_run_151 ?_
                refine v_bipush C (v := 6) (by decide) dX9_run_153 ?_
                refine v_icge C (t := 199) dX9_run_155 (by decide) ?_ ?_
                · refine v_sub (lv' := [(0, .ref (ga G this))]) [0] rfl ?_
                  exact v_leaf (hF27 ν22)
                · refine v_aload_n C (n := 0) rfl rfl dX9_run_158 ?_
                  refine v_getr C (t := 20) fl_X9_62 rfl rfl ht dX9_run_159 (fun h32 => ?_)
                  refine v_iload C (n := 3) rfl dX9_run_162 ?_
                  refine v_iload C (n := 3) rfl dX9_run_164 ?_
                  refine v_aload_n C (n := 0) rfl rfl dX9_run_166 ?_
                  refine v_geti C fl_X9_215 rfl ht dX9_run_167 ?_
                  refine v_join 192 (fun t : Int32 => [(0, .ref (ga G this)), (1, .int a0), (2, .int a1), (4, .int y21)]) (fun t : Int32 => [.int t, .int y21, .ref (ga G (zr Z this 39))]) (fun t : Int32 => ν22) ?_ ?_
                  · intro z33
                    refine v_iast C h32 dX9_run_192 (fun ν36 => ?_)
                    refine v_iinc C (n := 3) (v := y21 + 1) (lv' := [(4, .int (y21 + 1)), (0, .ref (ga G this)), (1, .int a0), (2, .int a1)]) rfl (congrArg (y21 + ·) (by decide : Int32.ofInt (1) = (1 : Int32))) (by decide) rfl dX9_run_193 ?_
                    refine v_let (y := y21 + 1) (fun x37 => [(4, .int x37), (0, .ref (ga G this)), (1, .int a0), (2, .int a1)]) (fun x37 => []) (fun x37 => ?_)
                    refine v_goto C (t := 151) (by decide) dX9_run_196 ?_
                    refine v_sub (lv' := [(0, .ref (ga G this)), (1, .int a0), (2, .int a1), (4, .int x37)]) [1, 2, 3, 0] rfl ?_
                    exact v_leaf (hX25 (x37, ν36))
                  intro F35 hF34
                  refine v_icge C (t := 190) dX9_run_170 (by decide) ?_ ?_
                  · refine v_iload C (n := 3) rfl dX9_run_190 ?_
                    exact v_leaf (hF34 y21)
                  · refine v_aload_n C (n := 0) rfl rfl dX9_run_173 ?_
                    refine v_getr C (t := 20) fl_X9_16 rfl rfl ht dX9_run_174 (fun h38 => ?_)
                    refine v_bipush C (v := 40) (by decide) dX9_run_177 ?_
                    refine v_iload_n C (n := 1) rfl rfl dX9_run_179 ?_
                    refine v_imul C dX9_run_180 ?_
                    refine v_iload_n C (n := 2) rfl rfl dX9_run_181 ?_
                    refine v_iadd C dX9_run_182 ?_
                    refine v_iload C (n := 3) rfl dX9_run_183 ?_
                    refine v_iadd C dX9_run_185 ?_
                    refine v_iald C h38.oa dX9_run_186 (fun x39 => ?_)
                    refine v_goto C (t := 192) (by decide) dX9_run_187 ?_
                    exact v_leaf (hF34 x39)
            · intro X15 F17 e19 hX16 hF18
              rintro ⟨y13, y14⟩
              refine v_iload C (n := 4) rfl dX9_run_75 ?_
              refine v_aload_n C (n := 0) rfl rfl dX9_run_77 ?_
              refine v_geti C fl_X9_215 rfl ht dX9_run_78 ?_
              refine v_icge C (t := 143) dX9_run_81 (by decide) ?_ ?_
              · refine v_sub (lv' := [(0, .ref (ga G this)), (1, .int a0), (2, .int a1)]) [0, 1, 2] rfl ?_
                exact v_leaf (hF18 ())
              · refine v_aload_n C (n := 0) rfl rfl dX9_run_84 ?_
                refine v_getr C (t := 20) fl_X9_16 rfl rfl ht dX9_run_85 (fun h40 => ?_)
                refine v_bipush C (v := 40) (by decide) dX9_run_88 ?_
                refine v_iload_n C (n := 1) rfl rfl dX9_run_90 ?_
                refine v_imul C dX9_run_91 ?_
                refine v_iload_n C (n := 2) rfl rfl dX9_run_92 ?_
                refine v_iadd C dX9_run_93 ?_
                refine v_iload C (n := 4) rfl dX9_run_94 ?_
                refine v_iadd C dX9_run_96 ?_
                refine v_iald C h40.oa dX9_run_97 (fun x41 => ?_)
                refine v_istore C (lv' := [(5, .int x41), (0, .ref (ga G this)), (1, .int a0), (2, .int a1), (3, .int y13), (4, .int y14)]) (by decide) rfl dX9_run_98 ?_
                refine v_iload C (n := 0) rfl dX9_run_100 ?_
                refine v_i2l C (v := (x41 : Int32).toInt64) rfl dX9_run_102 ?_
                refine v_lconst C (v := 0) (by decide) dX9_run_103 ?_
                refine v_aload_n C (n := 1) rfl rfl dX9_run_104 ?_
                refine v_geti C fl_X9_215 rfl ht dX9_run_105 ?_
                refine v_iconst C (v := 1) (by decide) dX9_run_108 ?_
                refine v_isub C dX9_run_109 ?_
                refine v_i2l C (v := ((ν1 this 6) - 1 : Int32).toInt64) rfl dX9_run_110 ?_
                refine v_csRi C (d := 0) (hR.le (by omega)) cs_X9_81 (by decide) [.long ((x41 : Int32).toInt64), .long 0, .long (((ν1 this 6) - 1 : Int32).toInt64)] rfl (fun _ hc => s_X9_in G Z hG hZ   hc) (Nat.le_of_ble_eq_true rfl) dX9_run_111 rfl (fun r42 => ?_)
                refine v_ifeq C (t := 127) dX9_run_114 (by decide) ?_ ?_
                · refine v_ldc C (v := (-1000001)) (w14 18 rfl) dX9_run_127 ?_
                  exact v_iret C hr dX9_run_129 (fun a h => by simp only [ob_s, lq, e19, e8] at h; have h := Option.some.inj h; subst h; rfl)
                · refine v_iload_n C (n := 4) rfl rfl dX9_run_117 ?_
                  refine v_iload C (n := 0) rfl dX9_run_118 ?_
                  refine v_ishr C dX9_run_120 ?_
                  refine v_iconst C (v := 1) (by decide) dX9_run_121 ?_
                  refine v_iand C dX9_run_122 ?_
                  refine v_iconst C (v := 1) (by decide) dX9_run_123 ?_
                  refine v_icne C (t := 130) dX9_run_124 (by decide) ?_ ?_
                  · refine v_iload_n C (n := 4) rfl rfl dX9_run_130 ?_
                    refine v_iconst C (v := 1) (by decide) dX9_run_131 ?_
                    refine v_iload C (n := 0) rfl dX9_run_132 ?_
                    refine v_ishl C dX9_run_134 ?_
                    refine v_ior C dX9_run_135 ?_
                    refine v_istore_n C (lv' := [(3, .int (y13 ||| (1 <<< (x41 &&& 31)))), (5, .int x41), (0, .ref (ga G this)), (1, .int a0), (2, .int a1), (4, .int y14)]) rfl (by decide) rfl dX9_run_136 ?_
                    refine v_let (y := (y13 ||| (1 <<< (x41 &&& 31)))) (fun x43 => [(3, .int x43), (5, .int x41), (0, .ref (ga G this)), (1, .int a0), (2, .int a1), (4, .int y14)]) (fun x43 => []) (fun x43 => ?_)
                    refine v_iinc C (n := 5) (v := y14 + 1) (lv' := [(4, .int (y14 + 1)), (3, .int x43), (5, .int x41), (0, .ref (ga G this)), (1, .int a0), (2, .int a1)]) rfl (congrArg (y14 + ·) (by decide : Int32.ofInt (1) = (1 : Int32))) (by decide) rfl dX9_run_137 ?_
                    refine v_let (y := y14 + 1) (fun x44 => [(4, .int x44), (3, .int x43), (5, .int x41), (0, .ref (ga G this)), (1, .int a0), (2, .int a1)]) (fun x44 => []) (fun x44 => ?_)
                    refine v_goto C (t := 75) (by decide) dX9_run_140 ?_
                    refine v_sub (lv' := [(0, .ref (ga G this)), (1, .int a0), (2, .int a1), (3, .int x43), (4, .int x44)]) [3, 4, 5, 1, 0] rfl ?_
                    exact v_leaf (hX16 (x43, x44))
                  · refine v_ldc C (v := (-1000001)) (w14 18 rfl) dX9_run_127 ?_
                    exact v_iret C hr dX9_run_129 (fun a h => by simp only [ob_s, lq, e19, e8] at h; have h := Option.some.inj h; subst h; rfl)
          · refine v_sub (lv' := [(0, .ref (ga G this))]) [0] rfl ?_
            exact v_leaf (hF6 ν1)
      · refine v_aload_n C (n := 0) rfl rfl dX9_run_35 ?_
        refine v_iconst C (v := 1) (by decide) dX9_run_36 ?_
        refine v_cvIi C (d := 0) (hR.le (by omega)) (c := 9) rfl cv_X9_92 (by decide) ht (by decide) [.int 1] rfl (fun _ hc => s_X9_finding G Z hG hZ   ht hc) (Nat.le_of_ble_eq_true rfl) dX9_run_37 rfl (fun r45 ν46 => ?_)
        exact v_iret C hr dX9_run_40 (fun a h => by have h := Option.some.inj h; subst h; rfl)
    · refine v_ldcw C (v := (-1000002)) (w15 61 rfl) dX9_run_22 ?_
      exact v_iret C hr dX9_run_25 (fun a h => by have h := Option.some.inj h; subst h; rfl)
  · refine v_ldc C (v := (-1000001)) (w14 18 rfl) dX9_run_12 ?_
    exact v_iret C hr dX9_run_14 (fun a h => by have h := Option.some.inj h; subst h; rfl)
set_option maxRecDepth 20000 in
set_option maxHeartbeats 4000000 in
theorem s_X9_runs {l : Launch} (G : GT) (Z : ZT) (hG : DA G) (hZ : WT G Z) {this : Nat} {μ : MT} {q : Int32 × MT} (ht : Ob G Z this 9) (hq : m_X9_runs Z this μ = some q) : MZ l G Z yX9_runs cX9_runs 1 (some .int) 7 [.ref (ga G this)] μ (some (.int q.1)) q.2 := by
  refine v_met (J := (fun q : Int32 × MT => (some (.int q.1), q.2))) hG hZ (by decide) (Nat.le_of_ble_eq_true rfl) hq ?_
  intro x C hR _ hr
  show VK x G Z (0, 0) 1 (QM x G Z) (fun q : Int32 × MT => (some (.int q.1), q.2)) 0 [(0, .ref (ga G this))] [] μ _ some
  unfold m_X9_runs
  refine v_aload_n C (n := 0) rfl rfl dX9_runs_0 ?_
  refine v_iconst C (v := 0) (by decide) dX9_runs_1 ?_
  refine v_puti C fp_X9_71 rfl rfl ht dX9_runs_2 (fun ν1 => ?_)
  refine v_aload_n C (n := 0) rfl rfl dX9_runs_5 ?_
  refine v_geti C fl_X9_212 rfl ht dX9_runs_6 ?_
  refine v_ifne C (t := 16) dX9_runs_9 (by decide) ?_ ?_
  · refine v_aload_n C (n := 0) rfl rfl dX9_runs_16 ?_
    refine v_cvIv C (d := 0) (hR.le (by omega)) (c := 9) rfl cv_X9_286 (by decide) ht (by decide) [] rfl (fun _ hc => s_X9_layNumbers G Z hG hZ   ht hc) (Nat.le_of_ble_eq_true rfl) dX9_runs_17 rfl (fun ν2 => ?_)
    refine v_aload_n C (n := 0) rfl rfl dX9_runs_20 ?_
    refine v_cvIv C (d := 0) (hR.le (by omega)) (c := 9) rfl cv_X9_274 (by decide) ht (by decide) [] rfl (fun _ hc => s_X9_layOpened G Z hG hZ   ht hc) (Nat.le_of_ble_eq_true rfl) dX9_runs_21 rfl (fun ν3 => ?_)
    refine v_aload_n C (n := 0) rfl rfl dX9_runs_24 ?_
    refine v_ldc C (v := (-1000000)) (w14 52 rfl) dX9_runs_25 ?_
    refine v_cvIv C (d := 6) (hR.le (by omega)) (c := 9) rfl cv_X9_277 (by decide) ht (by decide) [.int (-1000000)] rfl (fun _ hc => s_X9_go G Z hG hZ   ht hc) (Nat.le_of_ble_eq_true rfl) dX9_runs_27 rfl (fun ν4 => ?_)
    refine v_aload_n C (n := 0) rfl rfl dX9_runs_30 ?_
    refine v_cvIv C (d := 0) (hR.le (by omega)) (c := 9) rfl cv_X9_280 (by decide) ht (by decide) [] rfl (fun _ hc => s_X9_stand G Z hG hZ   ht hc) (Nat.le_of_ble_eq_true rfl) dX9_runs_31 rfl (fun ν5 => ?_)
    refine v_aload_n C (n := 0) rfl rfl dX9_runs_34 ?_
    refine v_cvRi C (d := 1) (hR.le (by omega)) (c := 9) rfl cv_X9_283 (by decide) ht (by decide) [] rfl (fun _ hc => s_X9_offBy G Z hG hZ   ht hc) (Nat.le_of_ble_eq_true rfl) dX9_runs_35 rfl (fun r6 => ?_)
    exact v_iret C hr dX9_runs_38 (fun a h => by have h := Option.some.inj h; subst h; rfl)
  · refine v_ldcw C (v := (-1000002)) (w15 61 rfl) dX9_runs_12 ?_
    exact v_iret C hr dX9_runs_15 (fun a h => by have h := Option.some.inj h; subst h; rfl)
set_option maxRecDepth 20000 in
set_option maxHeartbeats 4000000 in
theorem s_X9_gives {l : Launch} (G : GT) (Z : ZT) (hG : DA G) (hZ : WT G Z) {this : Nat} {a0 : Int32} {μ : MT} {q : Int32 × MT} (ht : Ob G Z this 9) (hq : m_X9_gives Z this a0 μ = some q) : MZ l G Z yX9_gives cX9_gives 3 (some .int) 7 [.ref (ga G this), .int a0] μ (some (.int q.1)) q.2 := by
  refine v_met (J := (fun q : Int32 × MT => (some (.int q.1), q.2))) hG hZ (by decide) (Nat.le_of_ble_eq_true rfl) hq ?_
  intro x C hR _ hr
  show VK x G Z (0, 0) 3 (QM x G Z) (fun q : Int32 × MT => (some (.int q.1), q.2)) 0 [(0, .ref (ga G this)), (1, .int a0)] [] μ _ some
  unfold m_X9_gives
  refine v_aload_n C (n := 0) rfl rfl dX9_gives_0 ?_
  refine v_iconst C (v := 0) (by decide) dX9_gives_1 ?_
  refine v_puti C fp_X9_71 rfl rfl ht dX9_gives_2 (fun ν1 => ?_)
  refine v_iload_n C (n := 1) rfl rfl dX9_gives_5 ?_
  refine v_i2l C (v := (a0 : Int32).toInt64) rfl dX9_gives_6 ?_
  refine v_lconst C (v := 0) (by decide) dX9_gives_7 ?_
  refine v_aload_n C (n := 0) rfl rfl dX9_gives_8 ?_
  refine v_geti C fl_X9_215 rfl ht dX9_gives_9 ?_
  refine v_iconst C (v := 1) (by decide) dX9_gives_12 ?_
  refine v_isub C dX9_gives_13 ?_
  refine v_i2l C (v := ((ν1 this 6) - 1 : Int32).toInt64) rfl dX9_gives_14 ?_
  refine v_csRi C (d := 0) (hR.le (by omega)) cs_X9_81 (by decide) [.long ((a0 : Int32).toInt64), .long 0, .long (((ν1 this 6) - 1 : Int32).toInt64)] rfl (fun _ hc => s_X9_in G Z hG hZ   hc) (Nat.le_of_ble_eq_true rfl) dX9_gives_15 rfl (fun r2 => ?_)
  refine v_ifne C (t := 24) dX9_gives_18 (by decide) ?_ ?_
  · refine v_iconst C (v := 0) (by decide) dX9_gives_24 ?_
    refine v_istore_n C (lv' := [(2, .int 0), (0, .ref (ga G this)), (1, .int a0)]) rfl (by decide) rfl dX9_gives_25 ?_
    refine v_sub (lv' := [(0, .ref (ga G this)), (1, .int a0), (2, .int 0)]) [1, 2, 0] rfl ?_
    refine v_lp 26 50 (fun t : Int32 × MT => [(0, .ref (ga G this)), (1, .int a0), (2, .int (t.1))]) (fun t : Int32 × MT => t.2) (fun t : MT => [(0, .ref (ga G this)), (1, .int a0)]) (fun t : MT => t) ?_ ?_ LN (0, ν1)
    · intro ν5
      refine v_aload_n C (n := 0) rfl rfl dX9_gives_50 ?_
      refine v_cvIv C (d := 0) (hR.le (by omega)) (c := 9) rfl cv_X9_274 (by decide) ht (by decide) [] rfl (fun _ hc => s_X9_layOpened G Z hG hZ   ht hc) (Nat.le_of_ble_eq_true rfl) dX9_gives_51 rfl (fun ν10 => ?_)
      refine v_aload_n C (n := 0) rfl rfl dX9_gives_54 ?_
      refine v_ldc C (v := (-1000000)) (w14 52 rfl) dX9_gives_55 ?_
      refine v_cvIv C (d := 6) (hR.le (by omega)) (c := 9) rfl cv_X9_277 (by decide) ht (by decide) [.int (-1000000)] rfl (fun _ hc => s_X9_go G Z hG hZ   ht hc) (Nat.le_of_ble_eq_true rfl) dX9_gives_57 rfl (fun ν11 => ?_)
      refine v_aload_n C (n := 0) rfl rfl dX9_gives_60 ?_
      refine v_cvRi C (d := 1) (hR.le (by omega)) (c := 9) rfl cv_X9_283 (by decide) ht (by decide) [] rfl (fun _ hc => s_X9_offBy G Z hG hZ   ht hc) (Nat.le_of_ble_eq_true rfl) dX9_gives_61 rfl (fun r12 => ?_)
      refine v_istore_n C (lv' := [(2, .int r12), (0, .ref (ga G this)), (1, .int a0)]) rfl (by decide) rfl dX9_gives_64 ?_
      refine v_aload_n C (n := 1) rfl rfl dX9_gives_65 ?_
      refine v_iload_n C (n := 2) rfl rfl dX9_gives_66 ?_
      refine v_cvIv C (d := 6) (hR.le (by omega)) (c := 9) rfl cv_X9_277 (by decide) ht (by decide) [.int a0] rfl (fun _ hc => s_X9_go G Z hG hZ   ht hc) (Nat.le_of_ble_eq_true rfl) dX9_gives_67 rfl (fun ν13 => ?_)
      refine v_iload_n C (n := 0) rfl rfl dX9_gives_70 ?_
      refine v_aload_n C (n := 1) rfl rfl dX9_gives_71 ?_
      refine v_cvRi C (d := 1) (hR.le (by omega)) (c := 9) rfl cv_X9_283 (by decide) ht (by decide) [] rfl (fun _ hc => s_X9_offBy G Z hG hZ   ht hc) (Nat.le_of_ble_eq_true rfl) dX9_gives_72 rfl (fun r14 => ?_)
      refine v_isub C dX9_gives_75 ?_
      exact v_iret C hr dX9_gives_76 (fun a h => by have h := Option.some.inj h; subst h; rfl)
    · intro X6 F8 hX7 hF9
      rintro ⟨y3, ν4⟩
      refine v_iload_n C (n := 2) rfl rfl dX9_gives_26 ?_
      refine v_bipush C (v := 6) (by decide) dX9_gives_27 ?_
      refine v_icge C (t := 50) dX9_gives_29 (by decide) ?_ ?_
      · refine v_sub (lv' := [(0, .ref (ga G this)), (1, .int a0)]) [0, 1] rfl ?_
        exact v_leaf (hF9 ν4)
      · refine v_aload_n C (n := 0) rfl rfl dX9_gives_32 ?_
        refine v_getr C (t := 20) fl_X9_62 rfl rfl ht dX9_gives_33 (fun h15 => ?_)
        refine v_iload_n C (n := 2) rfl rfl dX9_gives_36 ?_
        refine v_aload_n C (n := 0) rfl rfl dX9_gives_37 ?_
        refine v_getr C (t := 20) fl_X9_43 rfl rfl ht dX9_gives_38 (fun h16 => ?_)
        refine v_iload_n C (n := 2) rfl rfl dX9_gives_41 ?_
        refine v_iald C h16.oa dX9_gives_42 (fun x17 => ?_)
        refine v_iast C h15 dX9_gives_43 (fun ν18 => ?_)
        refine v_iinc C (n := 2) (v := y3 + 1) (lv' := [(2, .int (y3 + 1)), (0, .ref (ga G this)), (1, .int a0)]) rfl (congrArg (y3 + ·) (by decide : Int32.ofInt (1) = (1 : Int32))) (by decide) rfl dX9_gives_44 ?_
        refine v_let (y := y3 + 1) (fun x19 => [(2, .int x19), (0, .ref (ga G this)), (1, .int a0)]) (fun x19 => []) (fun x19 => ?_)
        refine v_goto C (t := 26) (by decide) dX9_gives_47 ?_
        refine v_sub (lv' := [(0, .ref (ga G this)), (1, .int a0), (2, .int x19)]) [1, 2, 0] rfl ?_
        exact v_leaf (hX7 (x19, ν18))
  · refine v_ldc C (v := (-1000001)) (w14 18 rfl) dX9_gives_21 ?_
    exact v_iret C hr dX9_gives_23 (fun a h => by have h := Option.some.inj h; subst h; rfl)
set_option maxRecDepth 20000 in
set_option maxHeartbeats 4000000 in
theorem s_X9_best {l : Launch} (G : GT) (Z : ZT) (hG : DA G) (hZ : WT G Z) {this : Nat} {a0 : Int32} {μ : MT} {q : Int32 × MT} (ht : Ob G Z this 9) (hq : m_X9_best Z this a0 μ = some q) : MZ l G Z yX9_best cX9_best 6 (some .int) 7 [.ref (ga G this), .int a0] μ (some (.int q.1)) q.2 := by
  refine v_met (J := (fun q : Int32 × MT => (some (.int q.1), q.2))) hG hZ (by decide) (Nat.le_of_ble_eq_true rfl) hq ?_
  intro x C hR _ hr
  show VK x G Z (0, 0) 6 (QM x G Z) (fun q : Int32 × MT => (some (.int q.1), q.2)) 0 [(0, .ref (ga G this)), (1, .int a0)] [] μ _ some
  unfold m_X9_best
  refine v_aload_n C (n := 0) rfl rfl dX9_best_0 ?_
  refine v_iconst C (v := 0) (by decide) dX9_best_1 ?_
  refine v_puti C fp_X9_71 rfl rfl ht dX9_best_2 (fun ν1 => ?_)
  refine v_iload_n C (n := 1) rfl rfl dX9_best_5 ?_
  refine v_iconst C (v := (-1)) (by decide) dX9_best_6 ?_
  refine v_icge C (t := 13) dX9_best_7 (by decide) ?_ ?_
  · refine v_aload_n C (n := 0) rfl rfl dX9_best_13 ?_
    refine v_geti C fl_X9_212 rfl ht dX9_best_14 ?_
    refine v_ifne C (t := 24) dX9_best_17 (by decide) ?_ ?_
    · refine v_aload_n C (n := 0) rfl rfl dX9_best_24 ?_
      refine v_cvIv C (d := 0) (hR.le (by omega)) (c := 9) rfl cv_X9_286 (by decide) ht (by decide) [] rfl (fun _ hc => s_X9_layNumbers G Z hG hZ   ht hc) (Nat.le_of_ble_eq_true rfl) dX9_best_25 rfl (fun ν2 => ?_)
      refine v_aload_n C (n := 0) rfl rfl dX9_best_28 ?_
      refine v_cvIv C (d := 0) (hR.le (by omega)) (c := 9) rfl cv_X9_274 (by decide) ht (by decide) [] rfl (fun _ hc => s_X9_layOpened G Z hG hZ   ht hc) (Nat.le_of_ble_eq_true rfl) dX9_best_29 rfl (fun ν3 => ?_)
      refine v_ldc C (v := (-1000000)) (w14 52 rfl) dX9_best_32 ?_
      refine v_istore_n C (lv' := [(2, .int (-1000000)), (0, .ref (ga G this)), (1, .int a0)]) rfl (by decide) rfl dX9_best_34 ?_
      refine v_iconst C (v := 1) (by decide) dX9_best_35 ?_
      refine v_istore_n C (lv' := [(3, .int 1), (2, .int (-1000000)), (0, .ref (ga G this)), (1, .int a0)]) rfl (by decide) rfl dX9_best_36 ?_
      refine v_sub (lv' := [(0, .ref (ga G this)), (1, .int a0), (2, .int (-1000000)), (3, .int 1)]) [2, 3, 1, 0] rfl ?_
      refine v_lp 37 113 (fun t : Int32 × Int32 × MT => [(0, .ref (ga G this)), (1, .int a0), (2, .int (t.1)), (3, .int (t.2.1))]) (fun t : Int32 × Int32 × MT => t.2.2) (fun t : Int32 × MT => [(0, .ref (ga G this)), (1, .int a0), (2, .int (t.1))]) (fun t : Int32 × MT => t.2) ?_ ?_ LN ((-1000000), 1, ν3)
      · rintro ⟨y7, ν8⟩
        refine v_iload_n C (n := 1) rfl rfl dX9_best_113 ?_
        refine v_iconst C (v := (-1)) (by decide) dX9_best_114 ?_
        refine v_icne C (t := 122) dX9_best_115 (by decide) ?_ ?_
        · refine v_iload_n C (n := 2) rfl rfl dX9_best_122 ?_
          refine v_ldc C (v := (-1000000)) (w14 52 rfl) dX9_best_123 ?_
          refine v_joinm 136 (fun t : Unit => []) (fun t : Unit => []) (fun t : Unit => ν8) ?_ ?_
          · rintro ⟨⟩
            refine v_ldc C (v := (-1000000)) (w14 52 rfl) dX9_best_136 ?_
            refine v_goto C (t := 147) (by decide) dX9_best_138 ?_
            exact v_iret C hr dX9_best_147 (fun a h => by have h := Option.some.inj h; subst h; rfl)
          intro F14 e15 hF13
          refine v_iceq C (t := 136) dX9_best_125 (by decide) ?_ ?_
          · refine v_sub (lv' := []) [] rfl ?_
            exact v_leaf (hF13 ())
          · refine v_iload_n C (n := 1) rfl rfl dX9_best_128 ?_
            refine v_aload_n C (n := 0) rfl rfl dX9_best_129 ?_
            refine v_geti C fl_X9_215 rfl ht dX9_best_130 ?_
            refine v_iclt C (t := 141) dX9_best_133 (by decide) ?_ ?_
            · refine v_aload_n C (n := 0) rfl rfl dX9_best_141 ?_
              refine v_getr C (t := 20) fl_X9_65 rfl rfl ht dX9_best_142 (fun h16 => ?_)
              refine v_iload_n C (n := 1) rfl rfl dX9_best_145 ?_
              refine v_iald C h16.oa dX9_best_146 (fun x17 => ?_)
              exact v_iret C hr dX9_best_147 (fun a h => by simp only [ob_s, lq, e15] at h; have h := Option.some.inj h; subst h; rfl)
            · refine v_sub (lv' := []) [] rfl ?_
              exact v_leaf (hF13 ())
        · refine v_iload_n C (n := 2) rfl rfl dX9_best_118 ?_
          refine v_goto C (t := 147) (by decide) dX9_best_119 ?_
          exact v_iret C hr dX9_best_147 (fun a h => by have h := Option.some.inj h; subst h; rfl)
      · intro X9 F11 hX10 hF12
        rintro ⟨y4, y5, ν6⟩
        refine v_iload_n C (n := 3) rfl rfl dX9_best_37 ?_
        refine v_ifeq C (t := 113) dX9_best_38 (by decide) ?_ ?_
        · refine v_sub (lv' := [(0, .ref (ga G this)), (1, .int a0), (2, .int y4)]) [0, 1, 2] rfl ?_
          exact v_leaf (hF12 (y4, ν6))
        · refine v_aload_n C (n := 0) rfl rfl dX9_best_41 ?_
          refine v_cvRi C (d := 0) (hR.le (by omega)) (c := 9) rfl cv_X9_292 (by decide) ht (by decide) [] rfl (fun _ hc => s_X9_fits G Z hG hZ   ht hc) (Nat.le_of_ble_eq_true rfl) dX9_best_42 rfl (fun r18 => ?_)
          refine v_join 105 (fun t : Int32 × MT => [(0, .ref (ga G this)), (1, .int a0), (2, .int (t.1))]) (fun t : Int32 × MT => []) (fun t : Int32 × MT => t.2) ?_ ?_
          · rintro ⟨y19, ν20⟩
            refine v_aload_n C (n := 0) rfl rfl dX9_best_105 ?_
            refine v_cvIi C (d := 0) (hR.le (by omega)) (c := 9) rfl cv_X9_296 (by decide) ht (by decide) [] rfl (fun _ hc => s_X9_nextOrder G Z hG hZ   ht hc) (Nat.le_of_ble_eq_true rfl) dX9_best_106 rfl (fun r23 ν24 => ?_)
            refine v_istore_n C (lv' := [(3, .int r23), (0, .ref (ga G this)), (1, .int a0), (2, .int y19)]) rfl (by decide) rfl dX9_best_109 ?_
            refine v_goto C (t := 37) (by decide) dX9_best_110 ?_
            refine v_sub (lv' := [(0, .ref (ga G this)), (1, .int a0), (2, .int y19), (3, .int r23)]) [1, 2, 3, 0] rfl ?_
            exact v_leaf (hX10 (y19, r23, ν24))
          intro F22 hF21
          refine v_ifeq C (t := 105) dX9_best_45 (by decide) ?_ ?_
          · refine v_sub (lv' := [(0, .ref (ga G this)), (1, .int a0), (2, .int y4)]) [0, 1, 2] rfl ?_
            exact v_leaf (hF21 (y4, ν6))
          · refine v_aload_n C (n := 0) rfl rfl dX9_best_48 ?_
            refine v_ldc C (v := (-1000000)) (w14 52 rfl) dX9_best_49 ?_
            refine v_cvIv C (d := 6) (hR.le (by omega)) (c := 9) rfl cv_X9_277 (by decide) ht (by decide) [.int (-1000000)] rfl (fun _ hc => s_X9_go G Z hG hZ   ht hc) (Nat.le_of_ble_eq_true rfl) dX9_best_51 rfl (fun ν25 => ?_)
            refine v_aload_n C (n := 0) rfl rfl dX9_best_54 ?_
            refine v_cvRi C (d := 1) (hR.le (by omega)) (c := 9) rfl cv_X9_283 (by decide) ht (by decide) [] rfl (fun _ hc => s_X9_offBy G Z hG hZ   ht hc) (Nat.le_of_ble_eq_true rfl) dX9_best_55 rfl (fun r26 => ?_)
            refine v_istore C (lv' := [(4, .int r26), (0, .ref (ga G this)), (1, .int a0), (2, .int y4), (3, .int y5)]) (by decide) rfl dX9_best_58 ?_
            refine v_iload_n C (n := 3) rfl rfl dX9_best_60 ?_
            refine v_ldc C (v := (-1000000)) (w14 52 rfl) dX9_best_61 ?_
            refine v_joinm 72 (fun t : Unit => [(0, .ref (ga G this)), (1, .int a0), (4, .int r26)]) (fun t : Unit => []) (fun t : Unit => ν25) ?_ ?_
            · rintro ⟨⟩
              refine v_iload C (n := 2) rfl dX9_best_72 ?_
              refine v_istore_n C (lv' := [(2, .int r26), (0, .ref (ga G this)), (1, .int a0), (4, .int r26)]) rfl (by decide) rfl dX9_best_74 ?_
              refine v_iconst C (v := 0) (by decide) dX9_best_75 ?_
              refine v_istore C (lv' := [(5, .int 0), (2, .int r26), (0, .ref (ga G this)), (1, .int a0), (4, .int r26)]) (by decide) rfl dX9_best_76 ?_
              refine v_sub (lv' := [(0, .ref (ga G this)), (1, .int a0), (2, .int r26), (5, .int 0)]) [2, 3, 1, 0] rfl ?_
              refine v_lp 78 105 (fun t : Int32 × MT => [(0, .ref (ga G this)), (1, .int a0), (2, .int r26), (5, .int (t.1))]) (fun t : Int32 × MT => t.2) (fun t : MT => [(0, .ref (ga G this)), (1, .int a0), (2, .int r26)]) (fun t : MT => t) ?_ ?_ LN (0, ν25)
              · intro ν32
                exact v_leaf (hF21 (r26, ν32))
              · intro X33 F35 hX34 hF36
                rintro ⟨y30, ν31⟩
                refine v_iload C (n := 3) rfl dX9_best_78 ?_
                refine v_bipush C (v := 6) (by decide) dX9_best_80 ?_
                refine v_icge C (t := 105) dX9_best_82 (by decide) ?_ ?_
                · refine v_sub (lv' := [(0, .ref (ga G this)), (1, .int a0), (2, .int r26)]) [0, 1, 2] rfl ?_
                  exact v_leaf (hF36 ν31)
                · refine v_aload_n C (n := 0) rfl rfl dX9_best_85 ?_
                  refine v_getr C (t := 20) fl_X9_65 rfl rfl ht dX9_best_86 (fun h37 => ?_)
                  refine v_iload C (n := 3) rfl dX9_best_89 ?_
                  refine v_aload_n C (n := 0) rfl rfl dX9_best_91 ?_
                  refine v_getr C (t := 20) fl_X9_62 rfl rfl ht dX9_best_92 (fun h38 => ?_)
                  refine v_iload C (n := 3) rfl dX9_best_95 ?_
                  refine v_iald C h38.oa dX9_best_97 (fun x39 => ?_)
                  refine v_iast C h37 dX9_best_98 (fun ν40 => ?_)
                  refine v_iinc C (n := 3) (v := y30 + 1) (lv' := [(5, .int (y30 + 1)), (0, .ref (ga G this)), (1, .int a0), (2, .int r26)]) rfl (congrArg (y30 + ·) (by decide : Int32.ofInt (1) = (1 : Int32))) (by decide) rfl dX9_best_99 ?_
                  refine v_let (y := y30 + 1) (fun x41 => [(5, .int x41), (0, .ref (ga G this)), (1, .int a0), (2, .int r26)]) (fun x41 => []) (fun x41 => ?_)
                  refine v_goto C (t := 78) (by decide) dX9_best_102 ?_
                  refine v_sub (lv' := [(0, .ref (ga G this)), (1, .int a0), (2, .int r26), (5, .int x41)]) [1, 2, 3, 0] rfl ?_
                  exact v_leaf (hX34 (x41, ν40))
            intro F28 e29 hF27
            refine v_iceq C (t := 72) dX9_best_63 (by decide) ?_ ?_
            · refine v_sub (lv' := [(0, .ref (ga G this)), (1, .int a0), (4, .int r26)]) [1, 2, 0] rfl ?_
              exact v_leaf (hF27 ())
            · refine v_iload C (n := 0) rfl dX9_best_66 ?_
              refine v_iload_n C (n := 3) rfl rfl dX9_best_68 ?_
              refine v_icge C (t := 105) dX9_best_69 (by decide) ?_ ?_
              · refine v_sub (lv' := [(0, .ref (ga G this)), (1, .int a0), (2, .int y4)]) [1, 2, 3] rfl ?_
                exact v_leaf (by rw [e29]; exact hF21 (y4, ν25))
              · refine v_sub (lv' := [(0, .ref (ga G this)), (1, .int a0), (4, .int r26)]) [1, 2, 0] rfl ?_
                exact v_leaf (hF27 ())
    · refine v_ldcw C (v := (-1000002)) (w15 61 rfl) dX9_best_20 ?_
      exact v_iret C hr dX9_best_23 (fun a h => by have h := Option.some.inj h; subst h; rfl)
  · refine v_ldc C (v := (-1000001)) (w14 18 rfl) dX9_best_10 ?_
    exact v_iret C hr dX9_best_12 (fun a h => by have h := Option.some.inj h; subst h; rfl)
