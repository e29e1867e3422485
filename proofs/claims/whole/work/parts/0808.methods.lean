set_option maxRecDepth 20000 in
set_option maxHeartbeats 4000000 in
theorem s_X9_copy {l : Launch} (G : GT) (Z : ZT) (hG : DA G) (hZ : WT G Z) {this : Nat} {a0 : Int32} {a1 : Int32} {a2 : Int32} {a3 : Int32} {a4 : Int32} {μ : MT} {q : Int32 × MT} (ht : Ob G Z this 9) (hq : m_X9_copy Z this a0 a1 a2 a3 a4 μ = some q) : MZ l G Z yX9_copy cX9_copy 9 (some .int) 2 [.ref (ga G this), .int a0, .int a1, .int a2, .int a3, .int a4] μ (some (.int q.1)) q.2 := by
  refine v_met (J := (fun q : Int32 × MT => (some (.int q.1), q.2))) hG hZ (by decide) (Nat.le_of_ble_eq_true rfl) hq ?_
  intro x C hR _ hr
  show VK x G Z (0, 0) 9 (QM x G Z) (fun q : Int32 × MT => (some (.int q.1), q.2)) 0 [(0, .ref (ga G this)), (1, .int a0), (2, .int a1), (3, .int a2), (4, .int a3), (5, .int a4)] [] μ _ some
  unfold m_X9_copy
  refine v_aload_n C (n := 0) rfl rfl dX9_copy_0 ?_
  refine v_iconst C (v := 0) (by decide) dX9_copy_1 ?_
  refine v_puti C fp_X9_71 rfl rfl ht dX9_copy_2 (fun ν1 => ?_)
  refine v_iload_n C (n := 1) rfl rfl dX9_copy_5 ?_
  refine v_csRi C (d := 1) (hR.le (by omega)) cs_X9_85 (by decide) [.int a0] rfl (fun _ hc => s_X9_isSheet G Z hG hZ   hc) (Nat.le_of_ble_eq_true rfl) dX9_copy_6 rfl (fun r2 => ?_)
  refine v_ifeq C (t := 19) dX9_copy_9 (by decide) ?_ ?_
  · refine v_ldc C (v := (-1000001)) (w14 18 rfl) dX9_copy_19 ?_
    exact v_iret C hr dX9_copy_21 (fun a h => by have h := Option.some.inj h; subst h; rfl)
  · refine v_iload_n C (n := 3) rfl rfl dX9_copy_12 ?_
    refine v_csRi C (d := 1) (hR.le (by omega)) cs_X9_85 (by decide) [.int a2] rfl (fun _ hc => s_X9_isSheet G Z hG hZ   hc) (Nat.le_of_ble_eq_true rfl) dX9_copy_13 rfl (fun r3 => ?_)
    refine v_ifne C (t := 22) dX9_copy_16 (by decide) ?_ ?_
    · refine v_aload_n C (n := 0) rfl rfl dX9_copy_22 ?_
      refine v_iconst C (v := 0) (by decide) dX9_copy_23 ?_
      refine v_puti C fp_X9_75 rfl rfl ht dX9_copy_24 (fun ν4 => ?_)
      refine v_aload_n C (n := 0) rfl rfl dX9_copy_27 ?_
      refine v_getr C (t := 20) fl_X9_7 rfl rfl ht dX9_copy_28 (fun h5 => ?_)
      refine v_iload_n C (n := 1) rfl rfl dX9_copy_31 ?_
      refine v_iald C h5.oa dX9_copy_32 (fun x6 => ?_)
      refine v_joinm 45 (fun t : MT => [(0, .ref (ga G this))]) (fun t : MT => []) (fun t : MT => t) ?_ ?_
      · intro ν7
        refine v_aload_n C (n := 0) rfl rfl dX9_copy_45 ?_
        refine v_iconst C (v := 1) (by decide) dX9_copy_46 ?_
        refine v_cvIi C (d := 0) (hR.le (by omega)) (c := 9) rfl cv_X9_92 (by decide) ht (by decide) [.int 1] rfl (fun _ hc => s_X9_finding G Z hG hZ   ht hc) (Nat.le_of_ble_eq_true rfl) dX9_copy_47 rfl (fun r11 ν12 => ?_)
        exact v_iret C hr dX9_copy_50 (fun a h => by have h := Option.some.inj h; subst h; rfl)
      intro F9 e10 hF8
      refine v_iflt C (t := 45) dX9_copy_33 (by decide) ?_ ?_
      · refine v_sub (lv' := [(0, .ref (ga G this))]) [0] rfl ?_
        exact v_leaf (hF8 ν4)
      · refine v_aload_n C (n := 0) rfl rfl dX9_copy_36 ?_
        refine v_getr C (t := 20) fl_X9_7 rfl rfl ht dX9_copy_37 (fun h13 => ?_)
        refine v_iload_n C (n := 3) rfl rfl dX9_copy_40 ?_
        refine v_iald C h13.oa dX9_copy_41 (fun x14 => ?_)
        refine v_ifge C (t := 51) dX9_copy_42 (by decide) ?_ ?_
        · refine v_aload_n C (n := 0) rfl rfl dX9_copy_51 ?_
          refine v_getr C (t := 20) fl_X9_7 rfl rfl ht dX9_copy_52 (fun h15 => ?_)
          refine v_iload_n C (n := 1) rfl rfl dX9_copy_55 ?_
          refine v_iald C h15.oa dX9_copy_56 (fun x16 => ?_)
          refine v_aload_n C (n := 0) rfl rfl dX9_copy_57 ?_
          refine v_getr C (t := 20) fl_X9_7 rfl rfl ht dX9_copy_58 (fun h17 => ?_)
          refine v_iload_n C (n := 3) rfl rfl dX9_copy_61 ?_
          refine v_iald C h17.oa dX9_copy_62 (fun x18 => ?_)
          refine v_iceq C (t := 72) dX9_copy_63 (by decide) ?_ ?_
          · refine v_iload_n C (n := 2) rfl rfl dX9_copy_72 ?_
            refine v_joinm 121 (fun t : MT => [(0, .ref (ga G this))]) (fun t : MT => []) (fun t : MT => t) ?_ ?_
            · intro ν19
              refine v_aload_n C (n := 0) rfl rfl dX9_copy_121 ?_
              refine v_iconst C (v := 2) (by decide) dX9_copy_122 ?_
              refine v_cvIi C (d := 0) (hR.le (by omega)) (c := 9) rfl cv_X9_92 (by decide) ht (by decide) [.int 2] rfl (fun _ hc => s_X9_finding G Z hG hZ   ht hc) (Nat.le_of_ble_eq_true rfl) dX9_copy_123 rfl (fun r23 ν24 => ?_)
              exact v_iret C hr dX9_copy_126 (fun a h => by simp only [ob_s, lq, e10] at h; have h := Option.some.inj h; subst h; rfl)
            intro F21 e22 hF20
            refine v_iflt C (t := 121) dX9_copy_73 (by decide) ?_ ?_
            · refine v_sub (lv' := [(0, .ref (ga G this))]) [0] rfl ?_
              exact v_leaf (hF20 ν4)
            · refine v_iload C (n := 4) rfl dX9_copy_76 ?_
              refine v_iflt C (t := 121) dX9_copy_78 (by decide) ?_ ?_
              · refine v_sub (lv' := [(0, .ref (ga G this))]) [0] rfl ?_
                exact v_leaf (hF20 ν4)
              · refine v_iload C (n := 5) rfl dX9_copy_81 ?_
                refine v_iflt C (t := 121) dX9_copy_83 (by decide) ?_ ?_
                · refine v_sub (lv' := [(0, .ref (ga G this))]) [0] rfl ?_
                  exact v_leaf (hF20 ν4)
                · refine v_iload_n C (n := 2) rfl rfl dX9_copy_86 ?_
                  refine v_i2l C (v := (a1 : Int32).toInt64) rfl dX9_copy_87 ?_
                  refine v_iload C (n := 5) rfl dX9_copy_88 ?_
                  refine v_i2l C (v := (a4 : Int32).toInt64) rfl dX9_copy_90 ?_
                  refine v_ladd C dX9_copy_91 ?_
                  refine v_aload_n C (n := 0) rfl rfl dX9_copy_92 ?_
                  refine v_getr C (t := 20) fl_X9_13 rfl rfl ht dX9_copy_93 (fun h25 => ?_)
                  refine v_iload_n C (n := 1) rfl rfl dX9_copy_96 ?_
                  refine v_iald C h25.oa dX9_copy_97 (fun x26 => ?_)
                  refine v_i2l C (v := (x26 : Int32).toInt64) rfl dX9_copy_98 ?_
                  refine v_lcmp C dX9_copy_99 ?_
                  refine v_ifgt C (t := 121) dX9_copy_100 (by decide) ?_ ?_
                  · refine v_sub (lv' := [(0, .ref (ga G this))]) [0] rfl ?_
                    exact v_leaf (hF20 ν4)
                  · refine v_iload C (n := 4) rfl dX9_copy_103 ?_
                    refine v_i2l C (v := (a3 : Int32).toInt64) rfl dX9_copy_105 ?_
                    refine v_iload C (n := 5) rfl dX9_copy_106 ?_
                    refine v_i2l C (v := (a4 : Int32).toInt64) rfl dX9_copy_108 ?_
                    refine v_ladd C dX9_copy_109 ?_
                    refine v_aload_n C (n := 0) rfl rfl dX9_copy_110 ?_
                    refine v_getr C (t := 20) fl_X9_13 rfl rfl ht dX9_copy_111 (fun h27 => ?_)
                    refine v_iload_n C (n := 3) rfl rfl dX9_copy_114 ?_
                    refine v_iald C h27.oa dX9_copy_115 (fun x28 => ?_)
                    refine v_i2l C (v := (x28 : Int32).toInt64) rfl dX9_copy_116 ?_
                    refine v_lcmp C dX9_copy_117 ?_
                    refine v_ifle C (t := 127) dX9_copy_118 (by decide) ?_ ?_
                    · refine v_iload_n C (n := 2) rfl rfl dX9_copy_127 ?_
                      refine v_iload C (n := 4) rfl dX9_copy_128 ?_
                      refine v_join 138 (fun t : Int32 => [(0, .ref (ga G this)), (1, .int a0), (2, .int a1), (3, .int a2), (4, .int a3), (5, .int a4)]) (fun t : Int32 => [.int t]) (fun t : Int32 => ν4) ?_ ?_
                      · intro z29
                        refine v_istore C (lv' := [(6, .int z29), (0, .ref (ga G this)), (1, .int a0), (2, .int a1), (3, .int a2), (4, .int a3), (5, .int a4)]) (by decide) rfl dX9_copy_138 ?_
                        refine v_iconst C (v := 0) (by decide) dX9_copy_140 ?_
                        refine v_istore C (lv' := [(7, .int 0), (6, .int z29), (0, .ref (ga G this)), (1, .int a0), (2, .int a1), (3, .int a2), (4, .int a3), (5, .int a4)]) (by decide) rfl dX9_copy_141 ?_
                        refine v_sub (lv' := [(0, .ref (ga G this)), (1, .int a0), (2, .int a1), (3, .int a2), (4, .int a3), (5, .int a4), (6, .int z29), (7, .int 0)]) [2, 3, 4, 5, 6, 7, 1, 0] rfl ?_
                        refine v_lp 143 204 (fun t : Int32 × MT => [(0, .ref (ga G this)), (1, .int a0), (2, .int a1), (3, .int a2), (4, .int a3), (5, .int a4), (6, .int z29), (7, .int (t.1))]) (fun t : Int32 × MT => t.2) (fun t : MT => [(5, .int a4)]) (fun t : MT => t) ?_ ?_ LN (0, ν4)
                        · intro ν34
                          refine v_iload C (n := 0) rfl dX9_copy_204 ?_
                          exact v_iret C hr dX9_copy_206 (fun a h => by simp only [ob_s, lq, e22, e10] at h; have h := Option.some.inj h; subst h; rfl)
                        · intro X35 F37 hX36 hF38
                          rintro ⟨y32, ν33⟩
                          refine v_iload C (n := 7) rfl dX9_copy_143 ?_
                          refine v_iload C (n := 5) rfl dX9_copy_145 ?_
                          refine v_icge C (t := 204) dX9_copy_147 (by decide) ?_ ?_
                          · refine v_sub (lv' := [(5, .int a4)]) [5] rfl ?_
                            exact v_leaf (hF38 ν33)
                          · refine v_iload C (n := 6) rfl dX9_copy_150 ?_
                            refine v_join 167 (fun t : Int32 => [(0, .ref (ga G this)), (1, .int a0), (2, .int a1), (3, .int a2), (4, .int a3), (5, .int a4), (6, .int z29), (7, .int y32)]) (fun t : Int32 => [.int t]) (fun t : Int32 => ν33) ?_ ?_
                            · intro z39
                              refine v_istore C (lv' := [(8, .int z39), (0, .ref (ga G this)), (1, .int a0), (2, .int a1), (3, .int a2), (4, .int a3), (5, .int a4), (6, .int z29), (7, .int y32)]) (by decide) rfl dX9_copy_167 ?_
                              refine v_aload_n C (n := 1) rfl rfl dX9_copy_169 ?_
                              refine v_getr C (t := 20) fl_X9_16 rfl rfl ht dX9_copy_170 (fun h42 => ?_)
                              refine v_bipush C (v := 40) (by decide) dX9_copy_173 ?_
                              refine v_iload_n C (n := 4) rfl rfl dX9_copy_175 ?_
                              refine v_imul C dX9_copy_176 ?_
                              refine v_iload C (n := 5) rfl dX9_copy_177 ?_
                              refine v_iadd C dX9_copy_179 ?_
                              refine v_iload C (n := 0) rfl dX9_copy_180 ?_
                              refine v_iadd C dX9_copy_182 ?_
                              refine v_aload_n C (n := 1) rfl rfl dX9_copy_183 ?_
                              refine v_getr C (t := 20) fl_X9_16 rfl rfl ht dX9_copy_184 (fun h43 => ?_)
                              refine v_bipush C (v := 40) (by decide) dX9_copy_187 ?_
                              refine v_iload_n C (n := 2) rfl rfl dX9_copy_189 ?_
                              refine v_imul C dX9_copy_190 ?_
                              refine v_iload_n C (n := 3) rfl rfl dX9_copy_191 ?_
                              refine v_iadd C dX9_copy_192 ?_
                              refine v_iload C (n := 0) rfl dX9_copy_193 ?_
                              refine v_iadd C dX9_copy_195 ?_
                              refine v_iald C h43.oa dX9_copy_196 (fun x44 => ?_)
                              refine v_iast C h42 dX9_copy_197 (fun ν45 => ?_)
                              refine v_iinc C (n := 8) (v := y32 + 1) (lv' := [(7, .int (y32 + 1)), (8, .int z39), (0, .ref (ga G this)), (1, .int a0), (2, .int a1), (3, .int a2), (4, .int a3), (5, .int a4), (6, .int z29)]) rfl (congrArg (y32 + ·) (by decide : Int32.ofInt (1) = (1 : Int32))) (by decide) rfl dX9_copy_198 ?_
                              refine v_let (y := y32 + 1) (fun x46 => [(7, .int x46), (8, .int z39), (0, .ref (ga G this)), (1, .int a0), (2, .int a1), (3, .int a2), (4, .int a3), (5, .int a4), (6, .int z29)]) (fun x46 => []) (fun x46 => ?_)
                              refine v_goto C (t := 143) (by decide) dX9_copy_201 ?_
                              refine v_sub (lv' := [(0, .ref (ga G this)), (1, .int a0), (2, .int a1), (3, .int a2), (4, .int a3), (5, .int a4), (6, .int z29), (7, .int x46)]) [2, 3, 4, 5, 6, 7, 8, 0] rfl ?_
                              exact v_leaf (hX36 (x46, ν45))
                            intro F41 hF40
                            refine v_ifeq C (t := 160) dX9_copy_152 (by decide) ?_ ?_
                            · refine v_iload C (n := 5) rfl dX9_copy_160 ?_
                              refine v_iconst C (v := 1) (by decide) dX9_copy_162 ?_
                              refine v_isub C dX9_copy_163 ?_
                              refine v_iload C (n := 7) rfl dX9_copy_164 ?_
                              refine v_isub C dX9_copy_166 ?_
                              exact v_leaf (hF40 ((a4 - 1) - y32))
                            · refine v_iload C (n := 7) rfl dX9_copy_155 ?_
                              refine v_goto C (t := 167) (by decide) dX9_copy_157 ?_
                              exact v_leaf (hF40 y32)
                      intro F31 hF30
                      refine v_iclt C (t := 137) dX9_copy_130 (by decide) ?_ ?_
                      · refine v_iconst C (v := 0) (by decide) dX9_copy_137 ?_
                        exact v_leaf (hF30 0)
                      · refine v_iconst C (v := 1) (by decide) dX9_copy_133 ?_
                        refine v_goto C (t := 138) (by decide) dX9_copy_134 ?_
                        exact v_leaf (hF30 1)
                    · refine v_sub (lv' := [(0, .ref (ga G this))]) [0] rfl ?_
                      exact v_leaf (hF20 ν4)
          · refine v_aload_n C (n := 0) rfl rfl dX9_copy_66 ?_
            refine v_iconst C (v := 5) (by decide) dX9_copy_67 ?_
            refine v_cvIi C (d := 0) (hR.le (by omega)) (c := 9) rfl cv_X9_92 (by decide) ht (by decide) [.int 5] rfl (fun _ hc => s_X9_finding G Z hG hZ   ht hc) (Nat.le_of_ble_eq_true rfl) dX9_copy_68 rfl (fun r47 ν48 => ?_)
            exact v_iret C hr dX9_copy_71 (fun a h => by simp only [ob_s, lq, e10] at h; have h := Option.some.inj h; subst h; rfl)
        · refine v_sub (lv' := [(0, .ref (ga G this))]) [0] rfl ?_
          exact v_leaf (hF8 ν4)
    · refine v_ldc C (v := (-1000001)) (w14 18 rfl) dX9_copy_19 ?_
      exact v_iret C hr dX9_copy_21 (fun a h => by have h := Option.some.inj h; subst h; rfl)
set_option maxRecDepth 20000 in
set_option maxHeartbeats 4000000 in
theorem s_X9_drop {l : Launch} (G : GT) (Z : ZT) (hG : DA G) (hZ : WT G Z) {this : Nat} {a0 : Int32} {μ : MT} {q : Int32 × MT} (ht : Ob G Z this 9) (hq : m_X9_drop Z this a0 μ = some q) : MZ l G Z yX9_drop cX9_drop 2 (some .int) 2 [.ref (ga G this), .int a0] μ (some (.int q.1)) q.2 := by
  refine v_met (J := (fun q : Int32 × MT => (some (.int q.1), q.2))) hG hZ (by decide) (Nat.le_of_ble_eq_true rfl) hq ?_
  intro x C hR _ hr
  show VK x G Z (0, 0) 2 (QM x G Z) (fun q : Int32 × MT => (some (.int q.1), q.2)) 0 [(0, .ref (ga G this)), (1, .int a0)] [] μ _ some
  unfold m_X9_drop
  refine v_aload_n C (n := 0) rfl rfl dX9_drop_0 ?_
  refine v_iconst C (v := 0) (by decide) dX9_drop_1 ?_
  refine v_puti C fp_X9_71 rfl rfl ht dX9_drop_2 (fun ν1 => ?_)
  refine v_iload_n C (n := 1) rfl rfl dX9_drop_5 ?_
  refine v_csRi C (d := 1) (hR.le (by omega)) cs_X9_85 (by decide) [.int a0] rfl (fun _ hc => s_X9_isSheet G Z hG hZ   hc) (Nat.le_of_ble_eq_true rfl) dX9_drop_6 rfl (fun r2 => ?_)
  refine v_ifne C (t := 15) dX9_drop_9 (by decide) ?_ ?_
  · refine v_aload_n C (n := 0) rfl rfl dX9_drop_15 ?_
    refine v_iconst C (v := 0) (by decide) dX9_drop_16 ?_
    refine v_puti C fp_X9_75 rfl rfl ht dX9_drop_17 (fun ν3 => ?_)
    refine v_aload_n C (n := 0) rfl rfl dX9_drop_20 ?_
    refine v_getr C (t := 20) fl_X9_7 rfl rfl ht dX9_drop_21 (fun h4 => ?_)
    refine v_iload_n C (n := 1) rfl rfl dX9_drop_24 ?_
    refine v_iald C h4.oa dX9_drop_25 (fun x5 => ?_)
    refine v_ifge C (t := 35) dX9_drop_26 (by decide) ?_ ?_
    · refine v_aload_n C (n := 0) rfl rfl dX9_drop_35 ?_
      refine v_getr C (t := 20) fl_X9_7 rfl rfl ht dX9_drop_36 (fun h6 => ?_)
      refine v_iload_n C (n := 1) rfl rfl dX9_drop_39 ?_
      refine v_iconst C (v := (-1)) (by decide) dX9_drop_40 ?_
      refine v_iast C h6 dX9_drop_41 (fun ν7 => ?_)
      refine v_aload_n C (n := 0) rfl rfl dX9_drop_42 ?_
      refine v_getr C (t := 20) fl_X9_13 rfl rfl ht dX9_drop_43 (fun h8 => ?_)
      refine v_iload_n C (n := 1) rfl rfl dX9_drop_46 ?_
      refine v_iald C h8.oa dX9_drop_47 (fun x9 => ?_)
      exact v_iret C hr dX9_drop_48 (fun a h => by have h := Option.some.inj h; subst h; rfl)
    · refine v_aload_n C (n := 0) rfl rfl dX9_drop_29 ?_
      refine v_iconst C (v := 1) (by decide) dX9_drop_30 ?_
      refine v_cvIi C (d := 0) (hR.le (by omega)) (c := 9) rfl cv_X9_92 (by decide) ht (by decide) [.int 1] rfl (fun _ hc => s_X9_finding G Z hG hZ   ht hc) (Nat.le_of_ble_eq_true rfl) dX9_drop_31 rfl (fun r10 ν11 => ?_)
      exact v_iret C hr dX9_drop_34 (fun a h => by have h := Option.some.inj h; subst h; rfl)
  · refine v_ldc C (v := (-1000001)) (w14 18 rfl) dX9_drop_12 ?_
    exact v_iret C hr dX9_drop_14 (fun a h => by have h := Option.some.inj h; subst h; rfl)
set_option maxRecDepth 20000 in
set_option maxHeartbeats 4000000 in
theorem s_X9_must {l : Launch} (G : GT) (Z : ZT) (hG : DA G) (hZ : WT G Z) {this : Nat} {a0 : Int32} {μ : MT} {q : MT} (ht : Ob G Z this 9) (hq : m_X9_must Z this a0 μ = some q) : MZ l G Z yX9_must cX9_must 2 none 2 [.ref (ga G this), .int a0] μ none q := by
  refine v_met (J := (fun ν : MT => ((none : Option Value), ν))) hG hZ (by decide) (Nat.le_of_ble_eq_true rfl) hq ?_
  intro x C hR _ hr
  show VK x G Z (0, 0) 2 (QM x G Z) (fun ν : MT => ((none : Option Value), ν)) 0 [(0, .ref (ga G this)), (1, .int a0)] [] μ _ some
  unfold m_X9_must
  refine v_iload_n C (n := 1) rfl rfl dX9_must_0 ?_
  refine v_join 9 (fun t : MT => [(0, .ref (ga G this))]) (fun t : MT => []) (fun t : MT => t) ?_ ?_
  · intro ν1
    refine v_aload_n C (n := 0) rfl rfl dX9_must_9 ?_
    refine v_geti C fl_X9_129 rfl ht dX9_must_10 ?_
    refine v_ifne C (t := 20) dX9_must_13 (by decide) ?_ ?_
    · exact v_vret C hr dX9_must_20 (fun a h => by have h := Option.some.inj h; subst h; rfl)
    · refine v_aload_n C (n := 0) rfl rfl dX9_must_16 ?_
      refine v_cvIv C (d := 1) (hR.le (by omega)) (c := 9) rfl cv_X9_139 (by decide) ht (by decide) [] rfl (fun _ hc => s_X9_next G Z hG hZ   ht hc) (Nat.le_of_ble_eq_true rfl) dX9_must_17 rfl (fun ν4 => ?_)
      exact v_vret C hr dX9_must_20 (fun a h => by have h := Option.some.inj h; subst h; rfl)
  intro F3 hF2
  refine v_ifne C (t := 9) dX9_must_1 (by decide) ?_ ?_
  · refine v_sub (lv' := [(0, .ref (ga G this))]) [0] rfl ?_
    exact v_leaf (hF2 μ)
  · refine v_aload_n C (n := 0) rfl rfl dX9_must_4 ?_
    refine v_iconst C (v := 1) (by decide) dX9_must_5 ?_
    refine v_cvIv C (d := 0) (hR.le (by omega)) (c := 9) rfl cv_X9_135 (by decide) ht (by decide) [.int 1] rfl (fun _ hc => s_X9_bad G Z hG hZ   ht hc) (Nat.le_of_ble_eq_true rfl) dX9_must_6 rfl (fun ν5 => ?_)
    refine v_sub (lv' := [(0, .ref (ga G this))]) [0] rfl ?_
    exact v_leaf (hF2 ν5)
set_option maxRecDepth 20000 in
set_option maxHeartbeats 4000000 in
theorem s_X9_act {l : Launch} (G : GT) (Z : ZT) (hG : DA G) (hZ : WT G Z) {this : Nat} {a0 : Int32} {a1 : Int32} {μ : MT} {q : Int32 × MT} (ht : Ob G Z this 9) (hq : m_X9_act Z this a0 a1 μ = some q) : MZ l G Z yX9_act cX9_act 3 (some .int) 2 [.ref (ga G this), .int a0, .int a1] μ (some (.int q.1)) q.2 := by
  refine v_met (J := (fun q : Int32 × MT => (some (.int q.1), q.2))) hG hZ (by decide) (Nat.le_of_ble_eq_true rfl) hq ?_
  intro x C hR _ hr
  show VK x G Z (0, 0) 3 (QM x G Z) (fun q : Int32 × MT => (some (.int q.1), q.2)) 0 [(0, .ref (ga G this)), (1, .int a0), (2, .int a1)] [] μ _ some
  unfold m_X9_act
  refine v_aload_n C (n := 0) rfl rfl dX9_act_0 ?_
  refine v_iconst C (v := 0) (by decide) dX9_act_1 ?_
  refine v_puti C fp_X9_71 rfl rfl ht dX9_act_2 (fun ν1 => ?_)
  refine v_aload_n C (n := 0) rfl rfl dX9_act_5 ?_
  refine v_iload_n C (n := 1) rfl rfl dX9_act_6 ?_
  refine v_cvRi C (d := 1) (hR.le (by omega)) (c := 9) rfl cv_X9_228 (by decide) ht (by decide) [.int a0] rfl (fun _ hc => s_X9_isAct G Z hG hZ   ht hc) (Nat.le_of_ble_eq_true rfl) dX9_act_7 rfl (fun r2 => ?_)
  refine v_joinm 25 (fun t : Unit => []) (fun t : Unit => []) (fun t : Unit => ν1) ?_ ?_
  · rintro ⟨⟩
    refine v_ldc C (v := (-1000001)) (w14 18 rfl) dX9_act_25 ?_
    refine v_goto C (t := 50) (by decide) dX9_act_27 ?_
    exact v_iret C hr dX9_act_50 (fun a h => by have h := Option.some.inj h; subst h; rfl)
  intro F4 e5 hF3
  refine v_ifeq C (t := 25) dX9_act_10 (by decide) ?_ ?_
  · refine v_sub (lv' := []) [] rfl ?_
    exact v_leaf (hF3 ())
  · refine v_iload_n C (n := 2) rfl rfl dX9_act_13 ?_
    refine v_i2l C (v := (a1 : Int32).toInt64) rfl dX9_act_14 ?_
    refine v_lconst C (v := 0) (by decide) dX9_act_15 ?_
    refine v_ldc2 C (v := 3) (w15 47 rfl) dX9_act_16 ?_
    refine v_csRi C (d := 0) (hR.le (by omega)) cs_X9_81 (by decide) [.long ((a1 : Int32).toInt64), .long 0, .long 3] rfl (fun _ hc => s_X9_in G Z hG hZ   hc) (Nat.le_of_ble_eq_true rfl) dX9_act_19 rfl (fun r6 => ?_)
    refine v_ifne C (t := 30) dX9_act_22 (by decide) ?_ ?_
    · refine v_aload_n C (n := 0) rfl rfl dX9_act_30 ?_
      refine v_getr C (t := 20) fl_X9_19 rfl rfl ht dX9_act_31 (fun h7 => ?_)
      refine v_iconst C (v := 4) (by decide) dX9_act_34 ?_
      refine v_iload_n C (n := 1) rfl rfl dX9_act_35 ?_
      refine v_imul C dX9_act_36 ?_
      refine v_iload_n C (n := 2) rfl rfl dX9_act_37 ?_
      refine v_iadd C dX9_act_38 ?_
      refine v_iald C h7.oa dX9_act_39 (fun x8 => ?_)
      refine v_iload_n C (n := 2) rfl rfl dX9_act_40 ?_
      refine v_ifne C (t := 48) dX9_act_41 (by decide) ?_ ?_
      · refine v_iconst C (v := 0) (by decide) dX9_act_48 ?_
        refine v_isub C dX9_act_49 ?_
        exact v_iret C hr dX9_act_50 (fun a h => by simp only [ob_s, lq, e5] at h; have h := Option.some.inj h; subst h; rfl)
      · refine v_iconst C (v := 1) (by decide) dX9_act_44 ?_
        refine v_goto C (t := 49) (by decide) dX9_act_45 ?_
        refine v_isub C dX9_act_49 ?_
        exact v_iret C hr dX9_act_50 (fun a h => by simp only [ob_s, lq, e5] at h; have h := Option.some.inj h; subst h; rfl)
    · refine v_sub (lv' := []) [] rfl ?_
      exact v_leaf (hF3 ())
set_option maxRecDepth 20000 in
set_option maxHeartbeats 4000000 in
theorem s_X9_open {l : Launch} (G : GT) (Z : ZT) (hG : DA G) (hZ : WT G Z) {this : Nat} {a0 : Int32} {a1 : Int32} {μ : MT} {q : Int32 × MT} (ht : Ob G Z this 9) (hq : m_X9_open Z this a0 a1 μ = some q) : MZ l G Z yX9_open cX9_open 4 (some .int) 2 [.ref (ga G this), .int a0, .int a1] μ (some (.int q.1)) q.2 := by
  refine v_met (J := (fun q : Int32 × MT => (some (.int q.1), q.2))) hG hZ (by decide) (Nat.le_of_ble_eq_true rfl) hq ?_
  intro x C hR _ hr
  show VK x G Z (0, 0) 4 (QM x G Z) (fun q : Int32 × MT => (some (.int q.1), q.2)) 0 [(0, .ref (ga G this)), (1, .int a0), (2, .int a1)] [] μ _ some
  unfold m_X9_open
  refine v_aload_n C (n := 0) rfl rfl dX9_open_0 ?_
  refine v_iconst C (v := 0) (by decide) dX9_open_1 ?_
  refine v_puti C fp_X9_71 rfl rfl ht dX9_open_2 (fun ν1 => ?_)
  refine v_aload_n C (n := 0) rfl rfl dX9_open_5 ?_
  refine v_iload_n C (n := 1) rfl rfl dX9_open_6 ?_
  refine v_cvRi C (d := 1) (hR.le (by omega)) (c := 9) rfl cv_X9_233 (by decide) ht (by decide) [.int a0] rfl (fun _ hc => s_X9_isCell G Z hG hZ   ht hc) (Nat.le_of_ble_eq_true rfl) dX9_open_7 rfl (fun r2 => ?_)
  refine v_ifeq C (t := 27) dX9_open_10 (by decide) ?_ ?_
  · refine v_ldc C (v := (-1000001)) (w14 18 rfl) dX9_open_27 ?_
    exact v_iret C hr dX9_open_29 (fun a h => by have h := Option.some.inj h; subst h; rfl)
  · refine v_iload_n C (n := 2) rfl rfl dX9_open_13 ?_
    refine v_i2l C (v := (a1 : Int32).toInt64) rfl dX9_open_14 ?_
    refine v_ldc2 C (v := (-40)) (w15 55 rfl) dX9_open_15 ?_
    refine v_ldc2 C (v := 40) (w15 56 rfl) dX9_open_18 ?_
    refine v_csRi C (d := 0) (hR.le (by omega)) cs_X9_81 (by decide) [.long ((a1 : Int32).toInt64), .long (-40), .long 40] rfl (fun _ hc => s_X9_in G Z hG hZ   hc) (Nat.le_of_ble_eq_true rfl) dX9_open_21 rfl (fun r3 => ?_)
    refine v_ifne C (t := 30) dX9_open_24 (by decide) ?_ ?_
    · refine v_aload_n C (n := 0) rfl rfl dX9_open_30 ?_
      refine v_getr C (t := 20) fl_X9_40 rfl rfl ht dX9_open_31 (fun h4 => ?_)
      refine v_iload_n C (n := 1) rfl rfl dX9_open_34 ?_
      refine v_iald C h4.oa dX9_open_35 (fun x5 => ?_)
      refine v_istore_n C (lv' := [(3, .int x5), (0, .ref (ga G this)), (1, .int a0), (2, .int a1)]) rfl (by decide) rfl dX9_open_36 ?_
      refine v_aload_n C (n := 1) rfl rfl dX9_open_37 ?_
      refine v_getr C (t := 20) fl_X9_40 rfl rfl ht dX9_open_38 (fun h6 => ?_)
      refine v_iload_n C (n := 2) rfl rfl dX9_open_41 ?_
      refine v_iload_n C (n := 3) rfl rfl dX9_open_42 ?_
      refine v_iast C h6 dX9_open_43 (fun ν7 => ?_)
      refine v_iload_n C (n := 0) rfl rfl dX9_open_44 ?_
      exact v_iret C hr dX9_open_45 (fun a h => by have h := Option.some.inj h; subst h; rfl)
    · refine v_ldc C (v := (-1000001)) (w14 18 rfl) dX9_open_27 ?_
      exact v_iret C hr dX9_open_29 (fun a h => by have h := Option.some.inj h; subst h; rfl)
set_option maxRecDepth 20000 in
set_option maxHeartbeats 4000000 in
theorem s_X9_holds {l : Launch} (G : GT) (Z : ZT) (hG : DA G) (hZ : WT G Z) {this : Nat} {a0 : Int32} {μ : MT} {q : Int32} (ht : Ob G Z this 9) (hq : m_X9_holds Z this a0 μ = some q) : MZ l G Z yX9_holds cX9_holds 2 (some .boolean) 2 [.ref (ga G this), .int a0] μ (some (.int q)) μ := by
  refine v_met (J := (fun r : Int32 => (some (.int r), μ))) hG hZ (by decide) (Nat.le_of_ble_eq_true rfl) hq ?_
  intro x C hR _ hr
  show VK x G Z (0, 0) 2 (QM x G Z) (fun r : Int32 => (some (.int r), μ)) 0 [(0, .ref (ga G this)), (1, .int a0)] [] μ _ some
  unfold m_X9_holds
  refine v_aload_n C (n := 0) rfl rfl dX9_holds_0 ?_
  refine v_iload_n C (n := 1) rfl rfl dX9_holds_1 ?_
  refine v_cvRi C (d := 1) (hR.le (by omega)) (c := 9) rfl cv_X9_233 (by decide) ht (by decide) [.int a0] rfl (fun _ hc => s_X9_isCell G Z hG hZ   ht hc) (Nat.le_of_ble_eq_true rfl) dX9_holds_2 rfl (fun r1 => ?_)
  refine v_ifeq C (t := 24) dX9_holds_5 (by decide) ?_ ?_
  · refine v_iconst C (v := 0) (by decide) dX9_holds_24 ?_
    exact v_zret C (Or.inl rfl) hr dX9_holds_25 (fun a h => by have h := Option.some.inj h; subst h; rfl)
  · refine v_aload_n C (n := 0) rfl rfl dX9_holds_8 ?_
    refine v_getr C (t := 20) fl_X9_46 rfl rfl ht dX9_holds_9 (fun h2 => ?_)
    refine v_bipush C (v := 12) (by decide) dX9_holds_12 ?_
    refine v_iload_n C (n := 1) rfl rfl dX9_holds_14 ?_
    refine v_iadd C dX9_holds_15 ?_
    refine v_iald C h2.oa dX9_holds_16 (fun x3 => ?_)
    refine v_ifle C (t := 24) dX9_holds_17 (by decide) ?_ ?_
    · refine v_iconst C (v := 0) (by decide) dX9_holds_24 ?_
      exact v_zret C (Or.inl rfl) hr dX9_holds_25 (fun a h => by have h := Option.some.inj h; subst h; rfl)
    · refine v_iconst C (v := 1) (by decide) dX9_holds_20 ?_
      refine v_goto C (t := 25) (by decide) dX9_holds_21 ?_
      exact v_zret C (Or.inr rfl) hr dX9_holds_25 (fun a h => by have h := Option.some.inj h; subst h; rfl)
set_option maxRecDepth 20000 in
set_option maxHeartbeats 4000000 in
theorem s_X9_cell {l : Launch} (G : GT) (Z : ZT) (hG : DA G) (hZ : WT G Z) {this : Nat} {a0 : Int32} {a1 : Int32} {μ : MT} {q : Int32 × MT} (ht : Ob G Z this 9) (hq : m_X9_cell Z this a0 a1 μ = some q) : MZ l G Z yX9_cell cX9_cell 3 (some .int) 2 [.ref (ga G this), .int a0, .int a1] μ (some (.int q.1)) q.2 := by
  refine v_met (J := (fun q : Int32 × MT => (some (.int q.1), q.2))) hG hZ (by decide) (Nat.le_of_ble_eq_true rfl) hq ?_
  intro x C hR _ hr
  show VK x G Z (0, 0) 3 (QM x G Z) (fun q : Int32 × MT => (some (.int q.1), q.2)) 0 [(0, .ref (ga G this)), (1, .int a0), (2, .int a1)] [] μ _ some
  unfold m_X9_cell
  refine v_aload_n C (n := 0) rfl rfl dX9_cell_0 ?_
  refine v_iconst C (v := 0) (by decide) dX9_cell_1 ?_
  refine v_puti C fp_X9_71 rfl rfl ht dX9_cell_2 (fun ν1 => ?_)
  refine v_aload_n C (n := 0) rfl rfl dX9_cell_5 ?_
  refine v_iload_n C (n := 1) rfl rfl dX9_cell_6 ?_
  refine v_cvRi C (d := 1) (hR.le (by omega)) (c := 9) rfl cv_X9_233 (by decide) ht (by decide) [.int a0] rfl (fun _ hc => s_X9_isCell G Z hG hZ   ht hc) (Nat.le_of_ble_eq_true rfl) dX9_cell_7 rfl (fun r2 => ?_)
  refine v_ifeq C (t := 25) dX9_cell_10 (by decide) ?_ ?_
  · refine v_ldc C (v := (-1000001)) (w14 18 rfl) dX9_cell_25 ?_
    exact v_iret C hr dX9_cell_27 (fun a h => by have h := Option.some.inj h; subst h; rfl)
  · refine v_iload_n C (n := 2) rfl rfl dX9_cell_13 ?_
    refine v_i2l C (v := (a1 : Int32).toInt64) rfl dX9_cell_14 ?_
    refine v_lconst C (v := 0) (by decide) dX9_cell_15 ?_
    refine v_ldc2 C (v := 3) (w15 47 rfl) dX9_cell_16 ?_
    refine v_csRi C (d := 0) (hR.le (by omega)) cs_X9_81 (by decide) [.long ((a1 : Int32).toInt64), .long 0, .long 3] rfl (fun _ hc => s_X9_in G Z hG hZ   hc) (Nat.le_of_ble_eq_true rfl) dX9_cell_19 rfl (fun r3 => ?_)
    refine v_ifne C (t := 28) dX9_cell_22 (by decide) ?_ ?_
    · refine v_aload_n C (n := 0) rfl rfl dX9_cell_28 ?_
      refine v_cvIv C (d := 1) (hR.le (by omega)) (c := 9) rfl cv_X9_289 (by decide) ht (by decide) [] rfl (fun _ hc => s_X9_layStanding G Z hG hZ   ht hc) (Nat.le_of_ble_eq_true rfl) dX9_cell_29 rfl (fun ν4 => ?_)
      refine v_aload_n C (n := 0) rfl rfl dX9_cell_32 ?_
      refine v_getr C (t := 20) fl_X9_46 rfl rfl ht dX9_cell_33 (fun h5 => ?_)
      refine v_bipush C (v := 12) (by decide) dX9_cell_36 ?_
      refine v_iload_n C (n := 2) rfl rfl dX9_cell_38 ?_
      refine v_imul C dX9_cell_39 ?_
      refine v_iload_n C (n := 1) rfl rfl dX9_cell_40 ?_
      refine v_iadd C dX9_cell_41 ?_
      refine v_iald C h5.oa dX9_cell_42 (fun x6 => ?_)
      exact v_iret C hr dX9_cell_43 (fun a h => by have h := Option.some.inj h; subst h; rfl)
    · refine v_ldc C (v := (-1000001)) (w14 18 rfl) dX9_cell_25 ?_
      exact v_iret C hr dX9_cell_27 (fun a h => by have h := Option.some.inj h; subst h; rfl)
set_option maxRecDepth 20000 in
set_option maxHeartbeats 4000000 in
theorem s_X9_height {l : Launch} (G : GT) (Z : ZT) (hG : DA G) (hZ : WT G Z) {this : Nat} {a0 : Int32} {μ : MT} {q : Int32 × MT} (ht : Ob G Z this 9) (hq : m_X9_height Z this a0 μ = some q) : MZ l G Z yX9_height cX9_height 2 (some .int) 2 [.ref (ga G this), .int a0] μ (some (.int q.1)) q.2 := by
  refine v_met (J := (fun q : Int32 × MT => (some (.int q.1), q.2))) hG hZ (by decide) (Nat.le_of_ble_eq_true rfl) hq ?_
  intro x C hR _ hr
  show VK x G Z (0, 0) 2 (QM x G Z) (fun q : Int32 × MT => (some (.int q.1), q.2)) 0 [(0, .ref (ga G this)), (1, .int a0)] [] μ _ some
  unfold m_X9_height
  refine v_aload_n C (n := 0) rfl rfl dX9_height_0 ?_
  refine v_iconst C (v := 0) (by decide) dX9_height_1 ?_
  refine v_puti C fp_X9_71 rfl rfl ht dX9_height_2 (fun ν1 => ?_)
  refine v_aload_n C (n := 0) rfl rfl dX9_height_5 ?_
  refine v_geti C fl_X9_212 rfl ht dX9_height_6 ?_
  refine v_ifne C (t := 16) dX9_height_9 (by decide) ?_ ?_
  · refine v_iload_n C (n := 1) rfl rfl dX9_height_16 ?_
    refine v_i2l C (v := (a0 : Int32).toInt64) rfl dX9_height_17 ?_
    refine v_lconst C (v := 0) (by decide) dX9_height_18 ?_
    refine v_aload_n C (n := 0) rfl rfl dX9_height_19 ?_
    refine v_geti C fl_X9_212 rfl ht dX9_height_20 ?_
    refine v_i2l C (v := (ν1 this 5 : Int32).toInt64) rfl dX9_height_23 ?_
    refine v_csRi C (d := 0) (hR.le (by omega)) cs_X9_81 (by decide) [.long ((a0 : Int32).toInt64), .long 0, .long ((ν1 this 5 : Int32).toInt64)] rfl (fun _ hc => s_X9_in G Z hG hZ   hc) (Nat.le_of_ble_eq_true rfl) dX9_height_24 rfl (fun r2 => ?_)
    refine v_ifne C (t := 33) dX9_height_27 (by decide) ?_ ?_
    · refine v_aload_n C (n := 0) rfl rfl dX9_height_33 ?_
      refine v_cvIv C (d := 1) (hR.le (by omega)) (c := 9) rfl cv_X9_289 (by decide) ht (by decide) [] rfl (fun _ hc => s_X9_layStanding G Z hG hZ   ht hc) (Nat.le_of_ble_eq_true rfl) dX9_height_34 rfl (fun ν3 => ?_)
      refine v_aload_n C (n := 0) rfl rfl dX9_height_37 ?_
      refine v_aload_n C (n := 0) rfl rfl dX9_height_38 ?_
      refine v_getr C (t := 20) fl_X9_46 rfl rfl ht dX9_height_39 (fun h4 => ?_)
      refine v_iload_n C (n := 1) rfl rfl dX9_height_42 ?_
      refine v_cvRi C (d := 0) (hR.le (by omega)) (c := 9) rfl cv_X9_266 (by decide) ht (by decide) [.ref (ga G (zr Z this 32)), .int a0] rfl (fun _ hc => s_X9_heightBy G Z hG hZ   ht h4.oa hc) (Nat.le_of_ble_eq_true rfl) dX9_height_43 rfl (fun r5 => ?_)
      exact v_iret C hr dX9_height_46 (fun a h => by have h := Option.some.inj h; subst h; rfl)
    · refine v_ldc C (v := (-1000001)) (w14 18 rfl) dX9_height_30 ?_
      exact v_iret C hr dX9_height_32 (fun a h => by have h := Option.some.inj h; subst h; rfl)
  · refine v_ldcw C (v := (-1000002)) (w15 61 rfl) dX9_height_12 ?_
    exact v_iret C hr dX9_height_15 (fun a h => by have h := Option.some.inj h; subst h; rfl)
