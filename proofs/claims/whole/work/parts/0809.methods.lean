set_option maxRecDepth 20000 in
set_option maxHeartbeats 4000000 in
theorem s_X9_spots {l : Launch} (G : GT) (Z : ZT) (hG : DA G) (hZ : WT G Z) {this : Nat} {a0 : Int32} {a1 : Int32} {μ : MT} {q : Int32 × MT} (ht : Ob G Z this 9) (hq : m_X9_spots Z this a0 a1 μ = some q) : MZ l G Z yX9_spots cX9_spots 8 (some .int) 2 [.ref (ga G this), .int a0, .int a1] μ (some (.int q.1)) q.2 := by
  refine v_met (J := (fun q : Int32 × MT => (some (.int q.1), q.2))) hG hZ (by decide) (Nat.le_of_ble_eq_true rfl) hq ?_
  intro x C hR _ hr
  show VK x G Z (0, 0) 8 (QM x G Z) (fun q : Int32 × MT => (some (.int q.1), q.2)) 0 [(0, .ref (ga G this)), (1, .int a0), (2, .int a1)] [] μ _ some
  unfold m_X9_spots
  refine v_aload_n C (n := 0) rfl rfl dX9_spots_0 ?_
  refine v_iconst C (v := 0) (by decide) dX9_spots_1 ?_
  refine v_puti C fp_X9_71 rfl rfl ht dX9_spots_2 (fun ν1 => ?_)
  refine v_iload_n C (n := 1) rfl rfl dX9_spots_5 ?_
  refine v_i2l C (v := (a0 : Int32).toInt64) rfl dX9_spots_6 ?_
  refine v_lconst C (v := 1) (by decide) dX9_spots_7 ?_
  refine v_ldc2 C (v := 20) (w17 20 rfl) dX9_spots_8 ?_
  refine v_csRi C (d := 0) (hR.le (by omega)) cs_X9_81 (by decide) [.long ((a0 : Int32).toInt64), .long 1, .long 20] rfl (fun _ hc => s_X9_in G Z hG hZ   hc) (Nat.le_of_ble_eq_true rfl) dX9_spots_11 rfl (fun r2 => ?_)
  refine v_ifeq C (t := 29) dX9_spots_14 (by decide) ?_ ?_
  · refine v_ldc C (v := (-1000001)) (w14 18 rfl) dX9_spots_29 ?_
    exact v_iret C hr dX9_spots_31 (fun a h => by have h := Option.some.inj h; subst h; rfl)
  · refine v_iload_n C (n := 2) rfl rfl dX9_spots_17 ?_
    refine v_i2l C (v := (a1 : Int32).toInt64) rfl dX9_spots_18 ?_
    refine v_lconst C (v := 0) (by decide) dX9_spots_19 ?_
    refine v_ldc2 C (v := 40) (w15 56 rfl) dX9_spots_20 ?_
    refine v_csRi C (d := 0) (hR.le (by omega)) cs_X9_81 (by decide) [.long ((a1 : Int32).toInt64), .long 0, .long 40] rfl (fun _ hc => s_X9_in G Z hG hZ   hc) (Nat.le_of_ble_eq_true rfl) dX9_spots_23 rfl (fun r3 => ?_)
    refine v_ifne C (t := 32) dX9_spots_26 (by decide) ?_ ?_
    · refine v_aload_n C (n := 0) rfl rfl dX9_spots_32 ?_
      refine v_geti C fl_X9_212 rfl ht dX9_spots_33 ?_
      refine v_ifne C (t := 43) dX9_spots_36 (by decide) ?_ ?_
      · refine v_iconst C (v := 0) (by decide) dX9_spots_43 ?_
        refine v_istore_n C (lv' := [(3, .int 0), (0, .ref (ga G this)), (1, .int a0), (2, .int a1)]) rfl (by decide) rfl dX9_spots_44 ?_
        refine v_sub (lv' := [(0, .ref (ga G this)), (1, .int a0), (2, .int a1), (3, .int 0)]) [1, 2, 3, 0] rfl ?_
        refine v_lpm 45 218 (fun t : Int32 × MT => [(0, .ref (ga G this)), (1, .int a0), (2, .int a1), (3, .int (t.1))]) (fun t : Int32 × MT => t.2) (fun t : MT => []) (fun t : MT => t) ?_ ?_ LN (0, ν1)
        · intro ν6
          refine v_ldc C (v := (-1000000)) (w14 52 rfl) dX9_spots_218 ?_
          exact v_iret C hr dX9_spots_220 (fun a h => by have h := Option.some.inj h; subst h; rfl)
        · intro X7 F9 e11 hX8 hF10
          rintro ⟨y4, ν5⟩
          refine v_iload_n C (n := 3) rfl rfl dX9_spots_45 ?_
          refine v_iconst C (v := 4) (by decide) dX9_spots_46 ?_
          refine v_icge C (t := 218) dX9_spots_47 (by decide) ?_ ?_
          · refine v_sub (lv' := []) [] rfl ?_
            exact v_leaf (hF10 ν5)
          · refine v_iconst C (v := 0) (by decide) dX9_spots_50 ?_
            refine v_istore C (lv' := [(4, .int 0), (0, .ref (ga G this)), (1, .int a0), (2, .int a1), (3, .int y4)]) (by decide) rfl dX9_spots_51 ?_
            refine v_sub (lv' := [(0, .ref (ga G this)), (1, .int a0), (2, .int a1), (3, .int y4), (4, .int 0)]) [1, 2, 3, 4, 0] rfl ?_
            refine v_lpm 53 212 (fun t : Int32 × MT => [(0, .ref (ga G this)), (1, .int a0), (2, .int a1), (3, .int y4), (4, .int (t.1))]) (fun t : Int32 × MT => t.2) (fun t : MT => [(0, .ref (ga G this)), (1, .int a0), (2, .int a1), (3, .int y4)]) (fun t : MT => t) ?_ ?_ LN (0, ν5)
            · intro ν14
              refine v_iinc C (n := 3) (v := y4 + 1) (lv' := [(3, .int (y4 + 1)), (0, .ref (ga G this)), (1, .int a0), (2, .int a1)]) rfl (congrArg (y4 + ·) (by decide : Int32.ofInt (1) = (1 : Int32))) (by decide) rfl dX9_spots_212 ?_
              refine v_let (y := y4 + 1) (fun x20 => [(3, .int x20), (0, .ref (ga G this)), (1, .int a0), (2, .int a1)]) (fun x20 => []) (fun x20 => ?_)
              refine v_goto C (t := 45) (by decide) dX9_spots_215 ?_
              refine v_sub (lv' := [(0, .ref (ga G this)), (1, .int a0), (2, .int a1), (3, .int x20)]) [1, 2, 3, 0] rfl ?_
              exact v_leaf (hX8 (x20, ν14))
            · intro X15 F17 e19 hX16 hF18
              rintro ⟨y12, ν13⟩
              refine v_iload C (n := 4) rfl dX9_spots_53 ?_
              refine v_iconst C (v := 1) (by decide) dX9_spots_55 ?_
              refine v_aload_n C (n := 0) rfl rfl dX9_spots_56 ?_
              refine v_geti C fl_X9_212 rfl ht dX9_spots_57 ?_
              refine v_ishl C dX9_spots_60 ?_
              refine v_icge C (t := 212) dX9_spots_61 (by decide) ?_ ?_
              · refine v_sub (lv' := [(0, .ref (ga G this)), (1, .int a0), (2, .int a1), (3, .int y4)]) [0, 1, 2, 3] rfl ?_
                exact v_leaf (hF18 ν13)
              · refine v_iconst C (v := 0) (by decide) dX9_spots_64 ?_
                refine v_istore C (lv' := [(5, .int 0), (0, .ref (ga G this)), (1, .int a0), (2, .int a1), (3, .int y4), (4, .int y12)]) (by decide) rfl dX9_spots_65 ?_
                refine v_iconst C (v := 0) (by decide) dX9_spots_67 ?_
                refine v_istore C (lv' := [(6, .int 0), (5, .int 0), (0, .ref (ga G this)), (1, .int a0), (2, .int a1), (3, .int y4), (4, .int y12)]) (by decide) rfl dX9_spots_68 ?_
                refine v_sub (lv' := [(0, .ref (ga G this)), (1, .int a0), (2, .int a1), (3, .int y4), (4, .int y12), (5, .int 0), (6, .int 0)]) [2, 3, 4, 5, 6, 1, 0] rfl ?_
                refine v_lp 70 97 (fun t : Int32 × Int32 => [(0, .ref (ga G this)), (1, .int a0), (2, .int a1), (3, .int y4), (4, .int y12), (5, .int (t.1)), (6, .int (t.2))]) (fun t : Int32 × Int32 => ν13) (fun t : Int32 => [(0, .ref (ga G this)), (1, .int a0), (2, .int a1), (3, .int y4), (4, .int y12), (5, .int t)]) (fun t : Int32 => ν13) ?_ ?_ LN (0, 0)
                · intro y23
                  refine v_iload C (n := 5) rfl dX9_spots_97 ?_
                  refine v_iload_n C (n := 3) rfl rfl dX9_spots_99 ?_
                  refine v_joinm 206 (fun t : MT => [(0, .ref (ga G this)), (1, .int a0), (2, .int a1), (3, .int y4), (4, .int y12)]) (fun t : MT => []) (fun t : MT => t) ?_ ?_
                  · intro ν28
                    refine v_iinc C (n := 4) (v := y12 + 1) (lv' := [(4, .int (y12 + 1)), (0, .ref (ga G this)), (1, .int a0), (2, .int a1), (3, .int y4)]) rfl (congrArg (y12 + ·) (by decide : Int32.ofInt (1) = (1 : Int32))) (by decide) rfl dX9_spots_206 ?_
                    refine v_let (y := y12 + 1) (fun x32 => [(4, .int x32), (0, .ref (ga G this)), (1, .int a0), (2, .int a1), (3, .int y4)]) (fun x32 => []) (fun x32 => ?_)
                    refine v_goto C (t := 53) (by decide) dX9_spots_209 ?_
                    refine v_sub (lv' := [(0, .ref (ga G this)), (1, .int a0), (2, .int a1), (3, .int y4), (4, .int x32)]) [1, 2, 3, 4, 0] rfl ?_
                    exact v_leaf (hX16 (x32, ν28))
                  intro F30 e31 hF29
                  refine v_icne C (t := 206) dX9_spots_100 (by decide) ?_ ?_
                  · refine v_sub (lv' := [(0, .ref (ga G this)), (1, .int a0), (2, .int a1), (3, .int y4), (4, .int y12)]) [0, 1, 2, 3, 4] rfl ?_
                    exact v_leaf (hF29 ν13)
                  · refine v_aload_n C (n := 0) rfl rfl dX9_spots_103 ?_
                    refine v_cvIv C (d := 1) (hR.le (by omega)) (c := 9) rfl cv_X9_289 (by decide) ht (by decide) [] rfl (fun _ hc => s_X9_layStanding G Z hG hZ   ht hc) (Nat.le_of_ble_eq_true rfl) dX9_spots_104 rfl (fun ν33 => ?_)
                    refine v_iconst C (v := 1) (by decide) dX9_spots_107 ?_
                    refine v_istore C (lv' := [(6, .int 1), (0, .ref (ga G this)), (1, .int a0), (2, .int a1), (3, .int y4), (4, .int y12), (5, .int y23)]) (by decide) rfl dX9_spots_108 ?_
                    refine v_iconst C (v := 0) (by decide) dX9_spots_110 ?_
                    refine v_istore C (lv' := [(7, .int 0), (6, .int 1), (0, .ref (ga G this)), (1, .int a0), (2, .int a1), (3, .int y4), (4, .int y12), (5, .int y23)]) (by decide) rfl dX9_spots_111 ?_
                    refine v_sub (lv' := [(0, .ref (ga G this)), (1, .int a0), (2, .int a1), (3, .int y4), (4, .int y12), (6, .int 1), (7, .int 0)]) [2, 3, 4, 5, 6, 1, 0] rfl ?_
                    refine v_lp 113 146 (fun t : Int32 × MT => [(0, .ref (ga G this)), (1, .int a0), (2, .int a1), (3, .int y4), (4, .int y12), (6, .int 1), (7, .int (t.1))]) (fun t : Int32 × MT => t.2) (fun t : MT => [(0, .ref (ga G this)), (1, .int a0), (2, .int a1), (3, .int y4), (4, .int y12), (6, .int 1)]) (fun t : MT => t) ?_ ?_ LN (0, ν33)
                    · intro ν36
                      refine v_iconst C (v := 0) (by decide) dX9_spots_146 ?_
                      refine v_istore C (lv' := [(7, .int 0), (0, .ref (ga G this)), (1, .int a0), (2, .int a1), (3, .int y4), (4, .int y12), (6, .int 1)]) (by decide) rfl dX9_spots_147 ?_
                      refine v_sub (lv' := [(0, .ref (ga G this)), (1, .int a0), (2, .int a1), (3, .int y4), (4, .int y12), (6, .int 1), (7, .int 0)]) [1, 2, 3, 4, 5, 6, 0] rfl ?_
                      refine v_lp 149 198 (fun t : Int32 × Int32 => [(0, .ref (ga G this)), (1, .int a0), (2, .int a1), (3, .int y4), (4, .int y12), (6, .int (t.1)), (7, .int (t.2))]) (fun t : Int32 × Int32 => ν36) (fun t : Int32 => [(0, .ref (ga G this)), (1, .int a0), (2, .int a1), (3, .int y4), (4, .int y12), (6, .int t)]) (fun t : Int32 => ν36) ?_ ?_ LN (1, 0)
                      · intro y43
                        refine v_iload C (n := 5) rfl dX9_spots_198 ?_
                        refine v_ifeq C (t := 206) dX9_spots_200 (by decide) ?_ ?_
                        · refine v_sub (lv' := [(0, .ref (ga G this)), (1, .int a0), (2, .int a1), (3, .int y4), (4, .int y12)]) [0, 1, 2, 3, 4] rfl ?_
                          exact v_leaf (hF29 ν36)
                        · refine v_iload C (n := 4) rfl dX9_spots_203 ?_
                          exact v_iret C hr dX9_spots_205 (fun a h => by simp only [ob_s, lq, e31, e19, e11] at h; have h := Option.some.inj h; subst h; rfl)
                      · intro X44 F46 hX45 hF47
                        rintro ⟨y41, y42⟩
                        refine v_iload C (n := 6) rfl dX9_spots_149 ?_
                        refine v_aload_n C (n := 0) rfl rfl dX9_spots_151 ?_
                        refine v_geti C fl_X9_212 rfl ht dX9_spots_152 ?_
                        refine v_icge C (t := 198) dX9_spots_155 (by decide) ?_ ?_
                        · refine v_sub (lv' := [(0, .ref (ga G this)), (1, .int a0), (2, .int a1), (3, .int y4), (4, .int y12), (6, .int y41)]) [0, 1, 2, 3, 4, 5] rfl ?_
                          exact v_leaf (hF47 y41)
                        · refine v_iload C (n := 5) rfl dX9_spots_158 ?_
                          refine v_join 190 (fun t : Int32 => [(0, .ref (ga G this)), (1, .int a0), (2, .int a1), (3, .int y4), (4, .int y12), (7, .int y42)]) (fun t : Int32 => [.int t]) (fun t : Int32 => ν36) ?_ ?_
                          · intro z48
                            refine v_istore C (lv' := [(6, .int z48), (0, .ref (ga G this)), (1, .int a0), (2, .int a1), (3, .int y4), (4, .int y12), (7, .int y42)]) (by decide) rfl dX9_spots_190 ?_
                            refine v_iinc C (n := 6) (v := y42 + 1) (lv' := [(7, .int (y42 + 1)), (6, .int z48), (0, .ref (ga G this)), (1, .int a0), (2, .int a1), (3, .int y4), (4, .int y12)]) rfl (congrArg (y42 + ·) (by decide : Int32.ofInt (1) = (1 : Int32))) (by decide) rfl dX9_spots_192 ?_
                            refine v_let (y := y42 + 1) (fun x51 => [(7, .int x51), (6, .int z48), (0, .ref (ga G this)), (1, .int a0), (2, .int a1), (3, .int y4), (4, .int y12)]) (fun x51 => []) (fun x51 => ?_)
                            refine v_goto C (t := 149) (by decide) dX9_spots_195 ?_
                            refine v_sub (lv' := [(0, .ref (ga G this)), (1, .int a0), (2, .int a1), (3, .int y4), (4, .int y12), (6, .int z48), (7, .int x51)]) [2, 3, 4, 5, 6, 1, 0] rfl ?_
                            exact v_leaf (hX45 (z48, x51))
                          intro F50 hF49
                          refine v_joinm 189 (fun t : Unit => [(0, .ref (ga G this)), (1, .int a0), (2, .int a1), (3, .int y4), (4, .int y12), (7, .int y42)]) (fun t : Unit => []) (fun t : Unit => ν36) ?_ ?_
                          · rintro ⟨⟩
                            refine v_iconst C (v := 0) (by decide) dX9_spots_189 ?_
                            exact v_leaf (hF49 0)
                          intro F53 e54 hF52
                          refine v_ifeq C (t := 189) dX9_spots_160 (by decide) ?_ ?_
                          · refine v_sub (lv' := [(0, .ref (ga G this)), (1, .int a0), (2, .int a1), (3, .int y4), (4, .int y12), (7, .int y42)]) [0, 1, 2, 3, 4, 6] rfl ?_
                            exact v_leaf (hF52 ())
                          · refine v_aload_n C (n := 0) rfl rfl dX9_spots_163 ?_
                            refine v_getr C (t := 20) fl_X9_46 rfl rfl ht dX9_spots_164 (fun h55 => ?_)
                            refine v_bipush C (v := 24) (by decide) dX9_spots_167 ?_
                            refine v_iload C (n := 6) rfl dX9_spots_169 ?_
                            refine v_iadd C dX9_spots_171 ?_
                            refine v_iald C h55.oa dX9_spots_172 (fun x56 => ?_)
                            refine v_i2l C (v := (x56 : Int32).toInt64) rfl dX9_spots_173 ?_
                            refine v_iload_n C (n := 2) rfl rfl dX9_spots_174 ?_
                            refine v_ineg C dX9_spots_175 ?_
                            refine v_i2l C (v := (-a1 : Int32).toInt64) rfl dX9_spots_176 ?_
                            refine v_iload_n C (n := 2) rfl rfl dX9_spots_177 ?_
                            refine v_i2l C (v := (a1 : Int32).toInt64) rfl dX9_spots_178 ?_
                            refine v_csRi C (d := 0) (hR.le (by omega)) cs_X9_81 (by decide) [.long ((x56 : Int32).toInt64), .long ((-a1 : Int32).toInt64), .long ((a1 : Int32).toInt64)] rfl (fun _ hc => s_X9_in G Z hG hZ   hc) (Nat.le_of_ble_eq_true rfl) dX9_spots_179 rfl (fun r57 => ?_)
                            refine v_ifeq C (t := 189) dX9_spots_182 (by decide) ?_ ?_
                            · refine v_sub (lv' := [(0, .ref (ga G this)), (1, .int a0), (2, .int a1), (3, .int y4), (4, .int y12), (7, .int y42)]) [0, 1, 2, 3, 4, 6] rfl ?_
                              exact v_leaf (hF52 ())
                            · refine v_iconst C (v := 1) (by decide) dX9_spots_185 ?_
                              refine v_goto C (t := 190) (by decide) dX9_spots_186 ?_
                              refine v_sub (lv' := [(0, .ref (ga G this)), (1, .int a0), (2, .int a1), (3, .int y4), (4, .int y12), (7, .int y42)]) [0, 1, 2, 3, 4, 6] rfl ?_
                              exact v_leaf (by rw [e54]; exact hF49 1)
                    · intro X37 F39 hX38 hF40
                      rintro ⟨y34, ν35⟩
                      refine v_iload C (n := 6) rfl dX9_spots_113 ?_
                      refine v_aload_n C (n := 0) rfl rfl dX9_spots_115 ?_
                      refine v_geti C fl_X9_212 rfl ht dX9_spots_116 ?_
                      refine v_icge C (t := 146) dX9_spots_119 (by decide) ?_ ?_
                      · refine v_sub (lv' := [(0, .ref (ga G this)), (1, .int a0), (2, .int a1), (3, .int y4), (4, .int y12), (6, .int 1)]) [0, 1, 2, 3, 4, 5] rfl ?_
                        exact v_leaf (hF40 ν35)
                      · refine v_iload C (n := 4) rfl dX9_spots_122 ?_
                        refine v_iload C (n := 6) rfl dX9_spots_124 ?_
                        refine v_ishr C dX9_spots_126 ?_
                        refine v_iconst C (v := 1) (by decide) dX9_spots_127 ?_
                        refine v_iand C dX9_spots_128 ?_
                        refine v_iconst C (v := 1) (by decide) dX9_spots_129 ?_
                        refine v_join 140 (fun t : MT => [(0, .ref (ga G this)), (1, .int a0), (2, .int a1), (3, .int y4), (4, .int y12), (6, .int 1), (7, .int y34)]) (fun t : MT => []) (fun t : MT => t) ?_ ?_
                        · intro ν58
                          refine v_iinc C (n := 6) (v := y34 + 1) (lv' := [(7, .int (y34 + 1)), (0, .ref (ga G this)), (1, .int a0), (2, .int a1), (3, .int y4), (4, .int y12), (6, .int 1)]) rfl (congrArg (y34 + ·) (by decide : Int32.ofInt (1) = (1 : Int32))) (by decide) rfl dX9_spots_140 ?_
                          refine v_let (y := y34 + 1) (fun x61 => [(7, .int x61), (0, .ref (ga G this)), (1, .int a0), (2, .int a1), (3, .int y4), (4, .int y12), (6, .int 1)]) (fun x61 => []) (fun x61 => ?_)
                          refine v_goto C (t := 113) (by decide) dX9_spots_143 ?_
                          refine v_sub (lv' := [(0, .ref (ga G this)), (1, .int a0), (2, .int a1), (3, .int y4), (4, .int y12), (6, .int 1), (7, .int x61)]) [1, 2, 3, 4, 5, 6, 0] rfl ?_
                          exact v_leaf (hX38 (x61, ν58))
                        intro F60 hF59
                        refine v_icne C (t := 140) dX9_spots_130 (by decide) ?_ ?_
                        · exact v_leaf (hF59 ν35)
                        · refine v_aload_n C (n := 0) rfl rfl dX9_spots_133 ?_
                          refine v_iload C (n := 6) rfl dX9_spots_134 ?_
                          refine v_iload_n C (n := 1) rfl rfl dX9_spots_136 ?_
                          refine v_cvIv C (d := 0) (hR.le (by omega)) (c := 9) rfl cv_X9_304 (by decide) ht (by decide) [.int y34, .int a0] rfl (fun _ hc => s_X9_flame G Z hG hZ   ht hc) (Nat.le_of_ble_eq_true rfl) dX9_spots_137 rfl (fun ν62 => ?_)
                          exact v_leaf (hF59 ν62)
                · intro X24 F26 hX25 hF27
                  rintro ⟨y21, y22⟩
                  refine v_iload C (n := 6) rfl dX9_spots_70 ?_
                  refine v_aload_n C (n := 0) rfl rfl dX9_spots_72 ?_
                  refine v_geti C fl_X9_212 rfl ht dX9_spots_73 ?_
                  refine v_icge C (t := 97) dX9_spots_76 (by decide) ?_ ?_
                  · refine v_sub (lv' := [(0, .ref (ga G this)), (1, .int a0), (2, .int a1), (3, .int y4), (4, .int y12), (5, .int y21)]) [0, 1, 2, 3, 4, 5] rfl ?_
                    exact v_leaf (hF27 y21)
                  · refine v_iload C (n := 5) rfl dX9_spots_79 ?_
                    refine v_iload C (n := 4) rfl dX9_spots_81 ?_
                    refine v_iload C (n := 6) rfl dX9_spots_83 ?_
                    refine v_ishr C dX9_spots_85 ?_
                    refine v_iconst C (v := 1) (by decide) dX9_spots_86 ?_
                    refine v_iand C dX9_spots_87 ?_
                    refine v_iadd C dX9_spots_88 ?_
                    refine v_istore C (lv' := [(5, .int (y21 + ((y12 >>> (y22 &&& 31)) &&& 1))), (0, .ref (ga G this)), (1, .int a0), (2, .int a1), (3, .int y4), (4, .int y12), (6, .int y22)]) (by decide) rfl dX9_spots_89 ?_
                    refine v_let (y := (y21 + ((y12 >>> (y22 &&& 31)) &&& 1))) (fun x63 => [(5, .int x63), (0, .ref (ga G this)), (1, .int a0), (2, .int a1), (3, .int y4), (4, .int y12), (6, .int y22)]) (fun x63 => []) (fun x63 => ?_)
                    refine v_iinc C (n := 6) (v := y22 + 1) (lv' := [(6, .int (y22 + 1)), (5, .int x63), (0, .ref (ga G this)), (1, .int a0), (2, .int a1), (3, .int y4), (4, .int y12)]) rfl (congrArg (y22 + ·) (by decide : Int32.ofInt (1) = (1 : Int32))) (by decide) rfl dX9_spots_91 ?_
                    refine v_let (y := y22 + 1) (fun x64 => [(6, .int x64), (5, .int x63), (0, .ref (ga G this)), (1, .int a0), (2, .int a1), (3, .int y4), (4, .int y12)]) (fun x64 => []) (fun x64 => ?_)
                    refine v_goto C (t := 70) (by decide) dX9_spots_94 ?_
                    refine v_sub (lv' := [(0, .ref (ga G this)), (1, .int a0), (2, .int a1), (3, .int y4), (4, .int y12), (5, .int x63), (6, .int x64)]) [2, 3, 4, 5, 6, 1, 0] rfl ?_
                    exact v_leaf (hX25 (x63, x64))
      · refine v_ldcw C (v := (-1000002)) (w15 61 rfl) dX9_spots_39 ?_
        exact v_iret C hr dX9_spots_42 (fun a h => by have h := Option.some.inj h; subst h; rfl)
    · refine v_ldc C (v := (-1000001)) (w14 18 rfl) dX9_spots_29 ?_
      exact v_iret C hr dX9_spots_31 (fun a h => by have h := Option.some.inj h; subst h; rfl)
set_option maxRecDepth 20000 in
set_option maxHeartbeats 4000000 in
theorem s_X9_crackAt {l : Launch} (G : GT) (Z : ZT) (hG : DA G) (hZ : WT G Z) {this : Nat} {a0 : Int32} {μ : MT} {q : Int32 × MT} (ht : Ob G Z this 9) (hq : m_X9_crackAt Z this a0 μ = some q) : MZ l G Z yX9_crackAt cX9_crackAt 3 (some .int) 2 [.ref (ga G this), .int a0] μ (some (.int q.1)) q.2 := by
  refine v_met (J := (fun q : Int32 × MT => (some (.int q.1), q.2))) hG hZ (by decide) (Nat.le_of_ble_eq_true rfl) hq ?_
  intro x C hR _ hr
  show VK x G Z (0, 0) 3 (QM x G Z) (fun q : Int32 × MT => (some (.int q.1), q.2)) 0 [(0, .ref (ga G this)), (1, .int a0)] [] μ _ some
  unfold m_X9_crackAt
  refine v_aload_n C (n := 0) rfl rfl dX9_crackAt_0 ?_
  refine v_cvIv C (d := 1) (hR.le (by omega)) (c := 9) rfl cv_X9_289 (by decide) ht (by decide) [] rfl (fun _ hc => s_X9_layStanding G Z hG hZ   ht hc) (Nat.le_of_ble_eq_true rfl) dX9_crackAt_1 rfl (fun ν1 => ?_)
  refine v_iconst C (v := 0) (by decide) dX9_crackAt_4 ?_
  refine v_istore_n C (lv' := [(2, .int 0), (0, .ref (ga G this)), (1, .int a0)]) rfl (by decide) rfl dX9_crackAt_5 ?_
  refine v_sub (lv' := [(0, .ref (ga G this)), (1, .int a0), (2, .int 0)]) [1, 2, 0] rfl ?_
  refine v_lpm 6 41 (fun t : Int32 => [(0, .ref (ga G this)), (1, .int a0), (2, .int t)]) (fun t : Int32 => ν1) (fun t : Unit => []) (fun t : Unit => ν1) ?_ ?_ LN 0
  · rintro ⟨⟩
    refine v_ldc C (v := (-1000000)) (w14 52 rfl) dX9_crackAt_41 ?_
    exact v_iret C hr dX9_crackAt_43 (fun a h => by have h := Option.some.inj h; subst h; rfl)
  · intro X3 F5 e7 hX4 hF6
    intro y2
    refine v_iload_n C (n := 2) rfl rfl dX9_crackAt_6 ?_
    refine v_aload_n C (n := 0) rfl rfl dX9_crackAt_7 ?_
    refine v_geti C fl_X9_212 rfl ht dX9_crackAt_8 ?_
    refine v_icge C (t := 41) dX9_crackAt_11 (by decide) ?_ ?_
    · refine v_sub (lv' := []) [] rfl ?_
      exact v_leaf (hF6 ())
    · refine v_aload_n C (n := 0) rfl rfl dX9_crackAt_14 ?_
      refine v_getr C (t := 20) fl_X9_46 rfl rfl ht dX9_crackAt_15 (fun h8 => ?_)
      refine v_bipush C (v := 36) (by decide) dX9_crackAt_18 ?_
      refine v_iload_n C (n := 2) rfl rfl dX9_crackAt_20 ?_
      refine v_iadd C dX9_crackAt_21 ?_
      refine v_iald C h8.oa dX9_crackAt_22 (fun x9 => ?_)
      refine v_sipush C (v := 300) (by decide) dX9_crackAt_23 ?_
      refine v_iconst C (v := 4) (by decide) dX9_crackAt_26 ?_
      refine v_iload_n C (n := 1) rfl rfl dX9_crackAt_27 ?_
      refine v_imul C dX9_crackAt_28 ?_
      refine v_isub C dX9_crackAt_29 ?_
      refine v_icle C (t := 35) dX9_crackAt_30 (by decide) ?_ ?_
      · refine v_iinc C (n := 2) (v := y2 + 1) (lv' := [(2, .int (y2 + 1)), (0, .ref (ga G this)), (1, .int a0)]) rfl (congrArg (y2 + ·) (by decide : Int32.ofInt (1) = (1 : Int32))) (by decide) rfl dX9_crackAt_35 ?_
        refine v_let (y := y2 + 1) (fun x10 => [(2, .int x10), (0, .ref (ga G this)), (1, .int a0)]) (fun x10 => []) (fun x10 => ?_)
        refine v_goto C (t := 6) (by decide) dX9_crackAt_38 ?_
        refine v_sub (lv' := [(0, .ref (ga G this)), (1, .int a0), (2, .int x10)]) [1, 2, 0] rfl ?_
        exact v_leaf (hX4 x10)
      · refine v_iload_n C (n := 2) rfl rfl dX9_crackAt_33 ?_
        exact v_iret C hr dX9_crackAt_34 (fun a h => by simp only [ob_s, lq, e7] at h; have h := Option.some.inj h; subst h; rfl)
set_option maxRecDepth 20000 in
set_option maxHeartbeats 4000000 in
theorem s_X9_wire {l : Launch} (G : GT) (Z : ZT) (hG : DA G) (hZ : WT G Z) {this : Nat} {a0 : Int32} {a1 : Int32} {a2 : Int32} {μ : MT} {q : Int32 × MT} (ht : Ob G Z this 9) (hq : m_X9_wire Z this a0 a1 a2 μ = some q) : MZ l G Z yX9_wire cX9_wire 8 (some .int) 2 [.ref (ga G this), .int a0, .int a1, .int a2] μ (some (.int q.1)) q.2 := by
  refine v_met (J := (fun q : Int32 × MT => (some (.int q.1), q.2))) hG hZ (by decide) (Nat.le_of_ble_eq_true rfl) hq ?_
  intro x C hR _ hr
  show VK x G Z (0, 0) 8 (QM x G Z) (fun q : Int32 × MT => (some (.int q.1), q.2)) 0 [(0, .ref (ga G this)), (1, .int a0), (2, .int a1), (3, .int a2)] [] μ _ some
  unfold m_X9_wire
  refine v_aload_n C (n := 0) rfl rfl dX9_wire_0 ?_
  refine v_iconst C (v := 0) (by decide) dX9_wire_1 ?_
  refine v_puti C fp_X9_71 rfl rfl ht dX9_wire_2 (fun ν1 => ?_)
  refine v_iload_n C (n := 1) rfl rfl dX9_wire_5 ?_
  refine v_csRi C (d := 1) (hR.le (by omega)) cs_X9_85 (by decide) [.int a0] rfl (fun _ hc => s_X9_isSheet G Z hG hZ   hc) (Nat.le_of_ble_eq_true rfl) dX9_wire_6 rfl (fun r2 => ?_)
  refine v_ifne C (t := 15) dX9_wire_9 (by decide) ?_ ?_
  · refine v_aload_n C (n := 0) rfl rfl dX9_wire_15 ?_
    refine v_geti C fl_X9_212 rfl ht dX9_wire_16 ?_
    refine v_ifne C (t := 26) dX9_wire_19 (by decide) ?_ ?_
    · refine v_iload_n C (n := 3) rfl rfl dX9_wire_26 ?_
      refine v_i2l C (v := (a2 : Int32).toInt64) rfl dX9_wire_27 ?_
      refine v_ldc2 C (v := (-1)) (w17 40 rfl) dX9_wire_28 ?_
      refine v_aload_n C (n := 0) rfl rfl dX9_wire_31 ?_
      refine v_geti C fl_X9_212 rfl ht dX9_wire_32 ?_
      refine v_iconst C (v := 1) (by decide) dX9_wire_35 ?_
      refine v_isub C dX9_wire_36 ?_
      refine v_i2l C (v := ((ν1 this 5) - 1 : Int32).toInt64) rfl dX9_wire_37 ?_
      refine v_csRi C (d := 0) (hR.le (by omega)) cs_X9_81 (by decide) [.long ((a2 : Int32).toInt64), .long (-1), .long (((ν1 this 5) - 1 : Int32).toInt64)] rfl (fun _ hc => s_X9_in G Z hG hZ   hc) (Nat.le_of_ble_eq_true rfl) dX9_wire_38 rfl (fun r3 => ?_)
      refine v_ifne C (t := 47) dX9_wire_41 (by decide) ?_ ?_
      · refine v_aload_n C (n := 0) rfl rfl dX9_wire_47 ?_
        refine v_getr C (t := 20) fl_X9_7 rfl rfl ht dX9_wire_48 (fun h4 => ?_)
        refine v_iload_n C (n := 1) rfl rfl dX9_wire_51 ?_
        refine v_iald C h4.oa dX9_wire_52 (fun x5 => ?_)
        refine v_ifge C (t := 62) dX9_wire_53 (by decide) ?_ ?_
        · refine v_iload_n C (n := 2) rfl rfl dX9_wire_62 ?_
          refine v_joinm 87 (fun t : MT => [(0, .ref (ga G this))]) (fun t : MT => []) (fun t : MT => t) ?_ ?_
          · intro ν6
            refine v_aload_n C (n := 0) rfl rfl dX9_wire_87 ?_
            refine v_iconst C (v := 2) (by decide) dX9_wire_88 ?_
            refine v_cvIi C (d := 0) (hR.le (by omega)) (c := 9) rfl cv_X9_92 (by decide) ht (by decide) [.int 2] rfl (fun _ hc => s_X9_finding G Z hG hZ   ht hc) (Nat.le_of_ble_eq_true rfl) dX9_wire_89 rfl (fun r10 ν11 => ?_)
            exact v_iret C hr dX9_wire_92 (fun a h => by have h := Option.some.inj h; subst h; rfl)
          intro F8 e9 hF7
          refine v_iflt C (t := 87) dX9_wire_63 (by decide) ?_ ?_
          · refine v_sub (lv' := [(0, .ref (ga G this))]) [0] rfl ?_
            exact v_leaf (hF7 ν1)
          · refine v_iload_n C (n := 2) rfl rfl dX9_wire_66 ?_
            refine v_i2l C (v := (a1 : Int32).toInt64) rfl dX9_wire_67 ?_
            refine v_aload_n C (n := 0) rfl rfl dX9_wire_68 ?_
            refine v_geti C fl_X9_212 rfl ht dX9_wire_69 ?_
            refine v_i2l C (v := (ν1 this 5 : Int32).toInt64) rfl dX9_wire_72 ?_
            refine v_ladd C dX9_wire_73 ?_
            refine v_lconst C (v := 1) (by decide) dX9_wire_74 ?_
            refine v_ladd C dX9_wire_75 ?_
            refine v_aload_n C (n := 0) rfl rfl dX9_wire_76 ?_
            refine v_getr C (t := 20) fl_X9_13 rfl rfl ht dX9_wire_77 (fun h12 => ?_)
            refine v_iload_n C (n := 1) rfl rfl dX9_wire_80 ?_
            refine v_iald C h12.oa dX9_wire_81 (fun x13 => ?_)
            refine v_i2l C (v := (x13 : Int32).toInt64) rfl dX9_wire_82 ?_
            refine v_lcmp C dX9_wire_83 ?_
            refine v_ifle C (t := 93) dX9_wire_84 (by decide) ?_ ?_
            · refine v_bipush C (v := 40) (by decide) dX9_wire_93 ?_
              refine v_iload_n C (n := 1) rfl rfl dX9_wire_95 ?_
              refine v_imul C dX9_wire_96 ?_
              refine v_iload_n C (n := 2) rfl rfl dX9_wire_97 ?_
              refine v_iadd C dX9_wire_98 ?_
              refine v_istore C (lv' := [(4, .int ((40 * a0) + a1)), (0, .ref (ga G this)), (1, .int a0), (2, .int a1), (3, .int a2)]) (by decide) rfl dX9_wire_99 ?_
              refine v_let (y := ((40 * a0) + a1)) (fun x14 => [(4, .int x14), (0, .ref (ga G this)), (1, .int a0), (2, .int a1), (3, .int a2)]) (fun x14 => []) (fun x14 => ?_)
              refine v_iconst C (v := 0) (by decide) dX9_wire_101 ?_
              refine v_istore C (lv' := [(5, .int 0), (4, .int x14), (0, .ref (ga G this)), (1, .int a0), (2, .int a1), (3, .int a2)]) (by decide) rfl dX9_wire_102 ?_
              refine v_sub (lv' := [(0, .ref (ga G this)), (3, .int a2), (4, .int x14), (5, .int 0)]) [2, 5, 1, 0] rfl ?_
              refine v_lpm 104 145 (fun t : Int32 => [(0, .ref (ga G this)), (3, .int a2), (4, .int x14), (5, .int t)]) (fun t : Int32 => ν1) (fun t : Unit => [(0, .ref (ga G this)), (3, .int a2), (4, .int x14)]) (fun t : Unit => ν1) ?_ ?_ LN 0
              · rintro ⟨⟩
                refine v_aload_n C (n := 0) rfl rfl dX9_wire_145 ?_
                refine v_iconst C (v := 0) (by decide) dX9_wire_146 ?_
                refine v_puti C fp_X9_75 rfl rfl ht dX9_wire_147 (fun ν21 => ?_)
                refine v_iload_n C (n := 1) rfl rfl dX9_wire_150 ?_
                refine v_iflt C (t := 162) dX9_wire_151 (by decide) ?_ ?_
                · refine v_aload_n C (n := 0) rfl rfl dX9_wire_162 ?_
                  refine v_cvIv C (d := 1) (hR.le (by omega)) (c := 9) rfl cv_X9_289 (by decide) ht (by decide) [] rfl (fun _ hc => s_X9_layStanding G Z hG hZ   ht hc) (Nat.le_of_ble_eq_true rfl) dX9_wire_163 rfl (fun ν22 => ?_)
                  refine v_iconst C (v := 1) (by decide) dX9_wire_166 ?_
                  refine v_istore C (lv' := [(5, .int 1), (0, .ref (ga G this)), (3, .int a2), (4, .int x14)]) (by decide) rfl dX9_wire_167 ?_
                  refine v_sub (lv' := [(0, .ref (ga G this)), (4, .int x14), (5, .int 1)]) [1, 3, 0] rfl ?_
                  refine v_lpm 169 249 (fun t : Int32 => [(0, .ref (ga G this)), (4, .int x14), (5, .int t)]) (fun t : Int32 => ν22) (fun t : Unit => []) (fun t : Unit => ν22) ?_ ?_ LN 1
                  · rintro ⟨⟩
                    refine v_ldc C (v := (-1000000)) (w14 52 rfl) dX9_wire_249 ?_
                    exact v_iret C hr dX9_wire_251 (fun a h => by simp only [ob_s, lq, e9] at h; have h := Option.some.inj h; subst h; rfl)
                  · intro X24 F26 e28 hX25 hF27
                    intro y23
                    refine v_iload C (n := 2) rfl dX9_wire_169 ?_
                    refine v_bipush C (v := 10) (by decide) dX9_wire_171 ?_
                    refine v_icge C (t := 249) dX9_wire_173 (by decide) ?_ ?_
                    · refine v_sub (lv' := []) [] rfl ?_
                      exact v_leaf (hF27 ())
                    · refine v_iconst C (v := 1) (by decide) dX9_wire_176 ?_
                      refine v_istore C (lv' := [(6, .int 1), (0, .ref (ga G this)), (4, .int x14), (5, .int y23)]) (by decide) rfl dX9_wire_177 ?_
                      refine v_iconst C (v := 0) (by decide) dX9_wire_179 ?_
                      refine v_istore C (lv' := [(7, .int 0), (6, .int 1), (0, .ref (ga G this)), (4, .int x14), (5, .int y23)]) (by decide) rfl dX9_wire_180 ?_
                      refine v_sub (lv' := [(0, .ref (ga G this)), (4, .int x14), (5, .int y23), (6, .int 1), (7, .int 0)]) [2, 3, 4, 1, 0] rfl ?_
                      refine v_lp 182 235 (fun t : Int32 × Int32 => [(0, .ref (ga G this)), (4, .int x14), (5, .int y23), (6, .int (t.1)), (7, .int (t.2))]) (fun t : Int32 × Int32 => ν22) (fun t : Int32 => [(0, .ref (ga G this)), (4, .int x14), (5, .int y23), (6, .int t)]) (fun t : Int32 => ν22) ?_ ?_ LN (1, 0)
                      · intro y31
                        refine v_iload C (n := 3) rfl dX9_wire_235 ?_
                        refine v_ifeq C (t := 243) dX9_wire_237 (by decide) ?_ ?_
                        · refine v_iinc C (n := 2) (v := y23 + 1) (lv' := [(5, .int (y23 + 1)), (0, .ref (ga G this)), (4, .int x14), (6, .int y31)]) rfl (congrArg (y23 + ·) (by decide : Int32.ofInt (1) = (1 : Int32))) (by decide) rfl dX9_wire_243 ?_
                          refine v_let (y := y23 + 1) (fun x36 => [(5, .int x36), (0, .ref (ga G this)), (4, .int x14), (6, .int y31)]) (fun x36 => []) (fun x36 => ?_)
                          refine v_goto C (t := 169) (by decide) dX9_wire_246 ?_
                          refine v_sub (lv' := [(0, .ref (ga G this)), (4, .int x14), (5, .int x36)]) [1, 2, 0] rfl ?_
                          exact v_leaf (hX25 x36)
                        · refine v_iload C (n := 2) rfl dX9_wire_240 ?_
                          exact v_iret C hr dX9_wire_242 (fun a h => by simp only [ob_s, lq, e28, e9] at h; have h := Option.some.inj h; subst h; rfl)
                      · intro X32 F34 hX33 hF35
                        rintro ⟨y29, y30⟩
                        refine v_iload C (n := 4) rfl dX9_wire_182 ?_
                        refine v_aload_n C (n := 0) rfl rfl dX9_wire_184 ?_
                        refine v_geti C fl_X9_212 rfl ht dX9_wire_185 ?_
                        refine v_icge C (t := 235) dX9_wire_188 (by decide) ?_ ?_
                        · refine v_sub (lv' := [(0, .ref (ga G this)), (4, .int x14), (5, .int y23), (6, .int y29)]) [0, 1, 2, 3] rfl ?_
                          exact v_leaf (hF35 y29)
                        · refine v_iload C (n := 3) rfl dX9_wire_191 ?_
                          refine v_join 227 (fun t : Int32 => [(0, .ref (ga G this)), (4, .int x14), (5, .int y23), (7, .int y30)]) (fun t : Int32 => [.int t]) (fun t : Int32 => ν22) ?_ ?_
                          · intro z37
                            refine v_istore C (lv' := [(6, .int z37), (0, .ref (ga G this)), (4, .int x14), (5, .int y23), (7, .int y30)]) (by decide) rfl dX9_wire_227 ?_
                            refine v_iinc C (n := 4) (v := y30 + 1) (lv' := [(7, .int (y30 + 1)), (6, .int z37), (0, .ref (ga G this)), (4, .int x14), (5, .int y23)]) rfl (congrArg (y30 + ·) (by decide : Int32.ofInt (1) = (1 : Int32))) (by decide) rfl dX9_wire_229 ?_
                            refine v_let (y := y30 + 1) (fun x40 => [(7, .int x40), (6, .int z37), (0, .ref (ga G this)), (4, .int x14), (5, .int y23)]) (fun x40 => []) (fun x40 => ?_)
                            refine v_goto C (t := 182) (by decide) dX9_wire_232 ?_
                            refine v_sub (lv' := [(0, .ref (ga G this)), (4, .int x14), (5, .int y23), (6, .int z37), (7, .int x40)]) [2, 3, 4, 1, 0] rfl ?_
                            exact v_leaf (hX33 (z37, x40))
                          intro F39 hF38
                          refine v_joinm 226 (fun t : Unit => [(0, .ref (ga G this)), (4, .int x14), (5, .int y23), (7, .int y30)]) (fun t : Unit => []) (fun t : Unit => ν22) ?_ ?_
                          · rintro ⟨⟩
                            refine v_iconst C (v := 0) (by decide) dX9_wire_226 ?_
                            exact v_leaf (hF38 0)
                          intro F42 e43 hF41
                          refine v_ifeq C (t := 226) dX9_wire_193 (by decide) ?_ ?_
                          · refine v_sub (lv' := [(0, .ref (ga G this)), (4, .int x14), (5, .int y23), (7, .int y30)]) [0, 1, 2, 4] rfl ?_
                            exact v_leaf (hF41 ())
                          · refine v_aload_n C (n := 0) rfl rfl dX9_wire_196 ?_
                            refine v_iload C (n := 1) rfl dX9_wire_197 ?_
                            refine v_iload C (n := 4) rfl dX9_wire_199 ?_
                            refine v_cvRi C (d := 0) (hR.le (by omega)) (c := 9) rfl cv_X9_319 (by decide) ht (by decide) [.int x14, .int y30] rfl (fun _ hc => s_X9_bendBy G Z hG hZ   ht hc) (Nat.le_of_ble_eq_true rfl) dX9_wire_201 rfl (fun r44 => ?_)
                            refine v_iload C (n := 2) rfl dX9_wire_204 ?_
                            refine v_aload_n C (n := 0) rfl rfl dX9_wire_206 ?_
                            refine v_getr C (t := 20) fl_X9_46 rfl rfl ht dX9_wire_207 (fun h45 => ?_)
                            refine v_bipush C (v := 24) (by decide) dX9_wire_210 ?_
                            refine v_iload C (n := 4) rfl dX9_wire_212 ?_
                            refine v_iadd C dX9_wire_214 ?_
                            refine v_iald C h45.oa dX9_wire_215 (fun x46 => ?_)
                            refine v_imul C dX9_wire_216 ?_
                            refine v_iconst C (v := 4) (by decide) dX9_wire_217 ?_
                            refine v_idiv C dX9_wire_218 (fun x47 => ?_)
                            refine v_icne C (t := 226) dX9_wire_219 (by decide) ?_ ?_
                            · refine v_sub (lv' := [(0, .ref (ga G this)), (4, .int x14), (5, .int y23), (7, .int y30)]) [0, 1, 2, 4] rfl ?_
                              exact v_leaf (hF41 ())
                            · refine v_iconst C (v := 1) (by decide) dX9_wire_222 ?_
                              refine v_goto C (t := 227) (by decide) dX9_wire_223 ?_
                              refine v_sub (lv' := [(0, .ref (ga G this)), (4, .int x14), (5, .int y23), (7, .int y30)]) [0, 1, 2, 4] rfl ?_
                              exact v_leaf (by rw [e43]; exact hF38 1)
                · refine v_aload_n C (n := 0) rfl rfl dX9_wire_154 ?_
                  refine v_iload C (n := 2) rfl dX9_wire_155 ?_
                  refine v_iload_n C (n := 1) rfl rfl dX9_wire_157 ?_
                  refine v_cvRi C (d := 0) (hR.le (by omega)) (c := 9) rfl cv_X9_319 (by decide) ht (by decide) [.int x14, .int a2] rfl (fun _ hc => s_X9_bendBy G Z hG hZ   ht hc) (Nat.le_of_ble_eq_true rfl) dX9_wire_158 rfl (fun r48 => ?_)
                  exact v_iret C hr dX9_wire_161 (fun a h => by simp only [ob_s, lq, e9] at h; have h := Option.some.inj h; subst h; rfl)
              · intro X16 F18 e20 hX17 hF19
                intro y15
                refine v_iload C (n := 3) rfl dX9_wire_104 ?_
                refine v_aload_n C (n := 0) rfl rfl dX9_wire_106 ?_
                refine v_geti C fl_X9_212 rfl ht dX9_wire_107 ?_
                refine v_icgt C (t := 145) dX9_wire_110 (by decide) ?_ ?_
                · refine v_sub (lv' := [(0, .ref (ga G this)), (3, .int a2), (4, .int x14)]) [0, 1, 2] rfl ?_
                  exact v_leaf (hF19 ())
                · refine v_aload_n C (n := 0) rfl rfl dX9_wire_113 ?_
                  refine v_getr C (t := 20) fl_X9_16 rfl rfl ht dX9_wire_114 (fun h49 => ?_)
                  refine v_iload C (n := 2) rfl dX9_wire_117 ?_
                  refine v_iload C (n := 3) rfl dX9_wire_119 ?_
                  refine v_iadd C dX9_wire_121 ?_
                  refine v_iald C h49.oa dX9_wire_122 (fun x50 => ?_)
                  refine v_i2l C (v := (x50 : Int32).toInt64) rfl dX9_wire_123 ?_
                  refine v_ldc2 C (v := (-9999)) (w17 41 rfl) dX9_wire_124 ?_
                  refine v_ldc2 C (v := 9999) (w17 42 rfl) dX9_wire_127 ?_
                  refine v_csRi C (d := 0) (hR.le (by omega)) cs_X9_81 (by decide) [.long ((x50 : Int32).toInt64), .long (-9999), .long 9999] rfl (fun _ hc => s_X9_in G Z hG hZ   hc) (Nat.le_of_ble_eq_true rfl) dX9_wire_130 rfl (fun r51 => ?_)
                  refine v_ifne C (t := 139) dX9_wire_133 (by decide) ?_ ?_
                  · refine v_iinc C (n := 3) (v := y15 + 1) (lv' := [(5, .int (y15 + 1)), (0, .ref (ga G this)), (3, .int a2), (4, .int x14)]) rfl (congrArg (y15 + ·) (by decide : Int32.ofInt (1) = (1 : Int32))) (by decide) rfl dX9_wire_139 ?_
                    refine v_let (y := y15 + 1) (fun x52 => [(5, .int x52), (0, .ref (ga G this)), (3, .int a2), (4, .int x14)]) (fun x52 => []) (fun x52 => ?_)
                    refine v_goto C (t := 104) (by decide) dX9_wire_142 ?_
                    refine v_sub (lv' := [(0, .ref (ga G this)), (3, .int a2), (4, .int x14), (5, .int x52)]) [1, 2, 3, 0] rfl ?_
                    exact v_leaf (hX17 x52)
                  · refine v_ldc C (v := (-1000001)) (w14 18 rfl) dX9_wire_136 ?_
                    exact v_iret C hr dX9_wire_138 (fun a h => by simp only [ob_s, lq, e20, e9] at h; have h := Option.some.inj h; subst h; rfl)
            · refine v_sub (lv' := [(0, .ref (ga G this))]) [0] rfl ?_
              exact v_leaf (hF7 ν1)
        · refine v_aload_n C (n := 0) rfl rfl dX9_wire_56 ?_
          refine v_iconst C (v := 1) (by decide) dX9_wire_57 ?_
          refine v_cvIi C (d := 0) (hR.le (by omega)) (c := 9) rfl cv_X9_92 (by decide) ht (by decide) [.int 1] rfl (fun _ hc => s_X9_finding G Z hG hZ   ht hc) (Nat.le_of_ble_eq_true rfl) dX9_wire_58 rfl (fun r53 ν54 => ?_)
          exact v_iret C hr dX9_wire_61 (fun a h => by have h := Option.some.inj h; subst h; rfl)
      · refine v_ldc C (v := (-1000001)) (w14 18 rfl) dX9_wire_44 ?_
        exact v_iret C hr dX9_wire_46 (fun a h => by have h := Option.some.inj h; subst h; rfl)
    · refine v_ldcw C (v := (-1000002)) (w15 61 rfl) dX9_wire_22 ?_
      exact v_iret C hr dX9_wire_25 (fun a h => by have h := Option.some.inj h; subst h; rfl)
  · refine v_ldc C (v := (-1000001)) (w14 18 rfl) dX9_wire_12 ?_
    exact v_iret C hr dX9_wire_14 (fun a h => by have h := Option.some.inj h; subst h; rfl)
set_option maxRecDepth 20000 in
set_option maxHeartbeats 4000000 in
theorem s_X9_isStep {l : Launch} (G : GT) (Z : ZT) (hG : DA G) (hZ : WT G Z) {this : Nat} {a0 : Int32} {μ : MT} {q : Int32} (ht : Ob G Z this 9) (hq : m_X9_isStep Z this a0 μ = some q) : MZ l G Z yX9_isStep cX9_isStep 2 (some .boolean) 2 [.ref (ga G this), .int a0] μ (some (.int q)) μ := by
  refine v_met (J := (fun r : Int32 => (some (.int r), μ))) hG hZ (by decide) (Nat.le_of_ble_eq_true rfl) hq ?_
  intro x C hR _ hr
  show VK x G Z (0, 0) 2 (QM x G Z) (fun r : Int32 => (some (.int r), μ)) 0 [(0, .ref (ga G this)), (1, .int a0)] [] μ _ some
  unfold m_X9_isStep
  refine v_aload_n C (n := 0) rfl rfl dX9_isStep_0 ?_
  refine v_iload_n C (n := 1) rfl rfl dX9_isStep_1 ?_
  refine v_cvRi C (d := 1) (hR.le (by omega)) (c := 9) rfl cv_X9_228 (by decide) ht (by decide) [.int a0] rfl (fun _ hc => s_X9_isAct G Z hG hZ   ht hc) (Nat.le_of_ble_eq_true rfl) dX9_isStep_2 rfl (fun r1 => ?_)
  refine v_ifeq C (t := 25) dX9_isStep_5 (by decide) ?_ ?_
  · refine v_iconst C (v := 0) (by decide) dX9_isStep_25 ?_
    exact v_zret C (Or.inl rfl) hr dX9_isStep_26 (fun a h => by have h := Option.some.inj h; subst h; rfl)
  · refine v_aload_n C (n := 0) rfl rfl dX9_isStep_8 ?_
    refine v_getr C (t := 20) fl_X9_19 rfl rfl ht dX9_isStep_9 (fun h2 => ?_)
    refine v_iconst C (v := 4) (by decide) dX9_isStep_12 ?_
    refine v_iload_n C (n := 1) rfl rfl dX9_isStep_13 ?_
    refine v_imul C dX9_isStep_14 ?_
    refine v_iald C h2.oa dX9_isStep_15 (fun x3 => ?_)
    refine v_bipush C (v := 8) (by decide) dX9_isStep_16 ?_
    refine v_icge C (t := 25) dX9_isStep_18 (by decide) ?_ ?_
    · refine v_iconst C (v := 0) (by decide) dX9_isStep_25 ?_
      exact v_zret C (Or.inl rfl) hr dX9_isStep_26 (fun a h => by have h := Option.some.inj h; subst h; rfl)
    · refine v_iconst C (v := 1) (by decide) dX9_isStep_21 ?_
      refine v_goto C (t := 26) (by decide) dX9_isStep_22 ?_
      exact v_zret C (Or.inr rfl) hr dX9_isStep_26 (fun a h => by have h := Option.some.inj h; subst h; rfl)
set_option maxRecDepth 20000 in
set_option maxHeartbeats 4000000 in
theorem s_X9_markOf {l : Launch} (G : GT) (Z : ZT) (hG : DA G) (hZ : WT G Z) {this : Nat} {a0 : Int32} {a1 : Int32} {μ : MT} {q : Int32 × MT} (ht : Ob G Z this 9) (hq : m_X9_markOf Z this a0 a1 μ = some q) : MZ l G Z yX9_markOf cX9_markOf 3 (some .int) 2 [.ref (ga G this), .int a0, .int a1] μ (some (.int q.1)) q.2 := by
  refine v_met (J := (fun q : Int32 × MT => (some (.int q.1), q.2))) hG hZ (by decide) (Nat.le_of_ble_eq_true rfl) hq ?_
  intro x C hR _ hr
  show VK x G Z (0, 0) 3 (QM x G Z) (fun q : Int32 × MT => (some (.int q.1), q.2)) 0 [(0, .ref (ga G this)), (1, .int a0), (2, .int a1)] [] μ _ some
  unfold m_X9_markOf
  refine v_iload_n C (n := 2) rfl rfl dX9_markOf_0 ?_
  refine v_iconst C (v := 1) (by decide) dX9_markOf_1 ?_
  refine v_join 44 (fun t : MT => [(0, .ref (ga G this)), (1, .int a0), (2, .int a1)]) (fun t : MT => []) (fun t : MT => t) ?_ ?_
  · intro ν1
    refine v_aload_n C (n := 0) rfl rfl dX9_markOf_44 ?_
    refine v_bipush C (v := 20) (by decide) dX9_markOf_45 ?_
    refine v_cvIv C (d := 0) (hR.le (by omega)) (c := 9) rfl cv_X9_335 (by decide) ht (by decide) [.int 20] rfl (fun _ hc => s_X9_began G Z hG hZ   ht hc) (Nat.le_of_ble_eq_true rfl) dX9_markOf_47 rfl (fun ν4 => ?_)
    refine v_iload_n C (n := 2) rfl rfl dX9_markOf_50 ?_
    refine v_iconst C (v := 1) (by decide) dX9_markOf_51 ?_
    refine v_icne C (t := 62) dX9_markOf_52 (by decide) ?_ ?_
    · refine v_iload_n C (n := 2) rfl rfl dX9_markOf_62 ?_
      refine v_bipush C (v := 6) (by decide) dX9_markOf_63 ?_
      refine v_icne C (t := 73) dX9_markOf_65 (by decide) ?_ ?_
      · refine v_iload_n C (n := 2) rfl rfl dX9_markOf_73 ?_
        refine v_bipush C (v := 7) (by decide) dX9_markOf_74 ?_
        refine v_icne C (t := 89) dX9_markOf_76 (by decide) ?_ ?_
        · refine v_iload_n C (n := 1) rfl rfl dX9_markOf_89 ?_
          exact v_iret C hr dX9_markOf_90 (fun a h => by have h := Option.some.inj h; subst h; rfl)
        · refine v_iload_n C (n := 1) rfl rfl dX9_markOf_79 ?_
          refine v_aload_n C (n := 0) rfl rfl dX9_markOf_80 ?_
          refine v_iload_n C (n := 1) rfl rfl dX9_markOf_81 ?_
          refine v_cvIi C (d := 1) (hR.le (by omega)) (c := 9) rfl cv_X9_338 (by decide) ht (by decide) [.int a0] rfl (fun _ hc => s_X9_flameSize G Z hG hZ   ht hc) (Nat.le_of_ble_eq_true rfl) dX9_markOf_82 rfl (fun r5 ν6 => ?_)
          refine v_iadd C dX9_markOf_85 ?_
          refine v_goto C (t := 90) (by decide) dX9_markOf_86 ?_
          exact v_iret C hr dX9_markOf_90 (fun a h => by have h := Option.some.inj h; subst h; rfl)
      · refine v_iload_n C (n := 1) rfl rfl dX9_markOf_68 ?_
        refine v_ineg C dX9_markOf_69 ?_
        refine v_goto C (t := 90) (by decide) dX9_markOf_70 ?_
        exact v_iret C hr dX9_markOf_90 (fun a h => by have h := Option.some.inj h; subst h; rfl)
    · refine v_iload_n C (n := 1) rfl rfl dX9_markOf_55 ?_
      refine v_bipush C (v := 100) (by decide) dX9_markOf_56 ?_
      refine v_iadd C dX9_markOf_58 ?_
      refine v_goto C (t := 90) (by decide) dX9_markOf_59 ?_
      exact v_iret C hr dX9_markOf_90 (fun a h => by have h := Option.some.inj h; subst h; rfl)
  intro F3 hF2
  refine v_joinm 17 (fun t : Unit => [(0, .ref (ga G this)), (1, .int a0), (2, .int a1)]) (fun t : Unit => []) (fun t : Unit => μ) ?_ ?_
  · rintro ⟨⟩
    refine v_aload_n C (n := 0) rfl rfl dX9_markOf_17 ?_
    refine v_iload_n C (n := 2) rfl rfl dX9_markOf_18 ?_
    refine v_iconst C (v := 1) (by decide) dX9_markOf_19 ?_
    refine v_join 41 (fun t : Int32 => [(0, .ref (ga G this)), (1, .int a0), (2, .int a1)]) (fun t : Int32 => [.int t, .ref (ga G this)]) (fun t : Int32 => μ) ?_ ?_
    · intro z10
      refine v_cvIv C (d := 0) (hR.le (by omega)) (c := 9) rfl cv_X9_335 (by decide) ht (by decide) [.int z10] rfl (fun _ hc => s_X9_began G Z hG hZ   ht hc) (Nat.le_of_ble_eq_true rfl) dX9_markOf_41 rfl (fun ν13 => ?_)
      exact v_leaf (hF2 ν13)
    intro F12 hF11
    refine v_icne C (t := 28) dX9_markOf_20 (by decide) ?_ ?_
    · refine v_iload_n C (n := 2) rfl rfl dX9_markOf_28 ?_
      refine v_bipush C (v := 6) (by decide) dX9_markOf_29 ?_
      refine v_icne C (t := 39) dX9_markOf_31 (by decide) ?_ ?_
      · refine v_bipush C (v := 23) (by decide) dX9_markOf_39 ?_
        exact v_leaf (hF11 23)
      · refine v_bipush C (v := 22) (by decide) dX9_markOf_34 ?_
        refine v_goto C (t := 41) (by decide) dX9_markOf_36 ?_
        exact v_leaf (hF11 22)
    · refine v_bipush C (v := 21) (by decide) dX9_markOf_23 ?_
      refine v_goto C (t := 41) (by decide) dX9_markOf_25 ?_
      exact v_leaf (hF11 21)
  intro F8 e9 hF7
  refine v_iceq C (t := 17) dX9_markOf_2 (by decide) ?_ ?_
  · exact v_leaf (hF7 ())
  · refine v_iload_n C (n := 2) rfl rfl dX9_markOf_5 ?_
    refine v_bipush C (v := 6) (by decide) dX9_markOf_6 ?_
    refine v_iceq C (t := 17) dX9_markOf_8 (by decide) ?_ ?_
    · exact v_leaf (hF7 ())
    · refine v_iload_n C (n := 2) rfl rfl dX9_markOf_11 ?_
      refine v_bipush C (v := 7) (by decide) dX9_markOf_12 ?_
      refine v_icne C (t := 44) dX9_markOf_14 (by decide) ?_ ?_
      · exact v_leaf (by rw [e9]; exact hF2 μ)
      · exact v_leaf (hF7 ())
