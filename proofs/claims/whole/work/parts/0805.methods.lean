set_option maxRecDepth 20000 in
set_option maxHeartbeats 4000000 in
theorem s_X8_count {l : Launch} (G : GT) (Z : ZT) (hG : DA G) (hZ : WT G Z) {this : Nat} {a0 : Int32} {μ : MT} {q : Int32} (ht : Ob G Z this 8) (hq : m_X8_count Z (gn G) this a0 μ = some q) : MZ l G Z yX8_count cX8_count 2 (some .int) 1 [.ref (ga G this), .int a0] μ (some (.int q)) μ := by
  refine v_met (J := (fun r : Int32 => (some (.int r), μ))) hG hZ (by decide) (Nat.le_of_ble_eq_true rfl) hq ?_
  intro x C hR _ hr
  show VK x G Z (0, 0) 2 (QM x G Z) (fun r : Int32 => (some (.int r), μ)) 0 [(0, .ref (ga G this)), (1, .int a0)] [] μ _ some
  unfold m_X8_count
  refine v_iload_n C (n := 1) rfl rfl dX8_count_0 ?_
  refine v_case (fun c1 => ?_) (fun c1 => ?_)
  · refine v_tin C (t := 40) (k := 0) c1 dX8_count_1 (by decide) (by decide) rfl (by decide) ?_
    refine v_aload_n C (n := 0) rfl rfl dX8_count_40 ?_
    refine v_getr C (t := 6) fl_X8_10 rfl rfl ht dX8_count_41 (fun h2 => ?_)
    refine v_cvRi C (d := 0) (hR.le (by omega)) (c := 6) rfl cv_X8_329 (by decide) h2 (by decide) [] rfl (fun _ hc => s_X6_howMany G Z hG hZ   h2 hc) (Nat.le_of_ble_eq_true rfl) dX8_count_44 rfl (fun r3 => ?_)
    exact v_iret C hr dX8_count_47 (fun a h => by have h := Option.some.inj h; subst h; rfl)
  refine v_case (fun c4 => ?_) (fun c4 => ?_)
  · refine v_tin C (t := 48) (k := 1) c4 dX8_count_1 (by decide) (by decide) rfl (by decide) ?_
    refine v_aload_n C (n := 0) rfl rfl dX8_count_48 ?_
    refine v_getm C fl_X8_76 rfl ht dX8_count_49 (fun q5 h6 => ?_)
    refine v_getiN C fn_X8_172 rfl h6 dX8_count_52 ?_
    exact v_iret C hr dX8_count_55 (fun a h => by have h := Option.some.inj h; subst h; rfl)
  refine v_case (fun c7 => ?_) (fun c7 => ?_)
  · refine v_tin C (t := 56) (k := 2) c7 dX8_count_1 (by decide) (by decide) rfl (by decide) ?_
    refine v_aload_n C (n := 0) rfl rfl dX8_count_56 ?_
    refine v_getm C fl_X8_76 rfl ht dX8_count_57 (fun q8 h9 => ?_)
    refine v_getiN C fn_X8_210 rfl h9 dX8_count_60 ?_
    exact v_iret C hr dX8_count_63 (fun a h => by have h := Option.some.inj h; subst h; rfl)
  refine v_case (fun c10 => ?_) (fun c10 => ?_)
  · refine v_tin C (t := 64) (k := 3) c10 dX8_count_1 (by decide) (by decide) rfl (by decide) ?_
    refine v_aload_n C (n := 0) rfl rfl dX8_count_64 ?_
    refine v_getm C fl_X8_76 rfl ht dX8_count_65 (fun q11 h12 => ?_)
    refine v_getiN C fn_X8_154 rfl h12 dX8_count_68 ?_
    exact v_iret C hr dX8_count_71 (fun a h => by have h := Option.some.inj h; subst h; rfl)
  refine v_case (fun c13 => ?_) (fun c13 => ?_)
  · refine v_tin C (t := 72) (k := 4) c13 dX8_count_1 (by decide) (by decide) rfl (by decide) ?_
    refine v_aload_n C (n := 0) rfl rfl dX8_count_72 ?_
    refine v_getm C fl_X8_76 rfl ht dX8_count_73 (fun q14 h15 => ?_)
    refine v_getiN C fn_X8_332 rfl h15 dX8_count_76 ?_
    exact v_iret C hr dX8_count_79 (fun a h => by have h := Option.some.inj h; subst h; rfl)
  refine v_case (fun c16 => ?_) (fun c16 => ?_)
  · refine v_tin C (t := 80) (k := 5) c16 dX8_count_1 (by decide) (by decide) rfl (by decide) ?_
    refine v_aload_n C (n := 0) rfl rfl dX8_count_80 ?_
    refine v_getr C (t := 7) fl_X8_19 rfl rfl ht dX8_count_81 (fun h17 => ?_)
    refine v_getiN C fn_X8_335 rfl h17 dX8_count_84 ?_
    exact v_iret C hr dX8_count_87 (fun a h => by have h := Option.some.inj h; subst h; rfl)
  have nc1 := lv_neT (k := 0) (a := 0) c1 (by decide)
  have nc4 := lv_neT (k := 1) (a := 1) c4 (by decide)
  have nc7 := lv_neT (k := 2) (a := 2) c7 (by decide)
  have nc10 := lv_neT (k := 3) (a := 3) c10 (by decide)
  have nc13 := lv_neT (k := 4) (a := 4) c13 (by decide)
  have nc16 := lv_neT (k := 5) (a := 5) c16 (by decide)
  refine v_tout C (t := 88) dX8_count_1 (by omega) (by decide) ?_
  refine v_ldc C (v := (-1000001)) (w4 13 rfl) dX8_count_88 ?_
  exact v_iret C hr dX8_count_90 (fun a h => by have h := Option.some.inj h; subst h; rfl)
set_option maxRecDepth 20000 in
set_option maxHeartbeats 4000000 in
theorem s_X9_isSheet {l : Launch} (G : GT) (Z : ZT) (hG : DA G) (hZ : WT G Z) {a0 : Int32} {μ : MT} {q : Int32}  (hq : m_X9_isSheet Z a0 μ = some q) : MZ l G Z yX9_isSheet cX9_isSheet 1 (some .boolean) 1 [.int a0] μ (some (.int q)) μ := by
  refine v_met (J := (fun r : Int32 => (some (.int r), μ))) hG hZ (by decide) (Nat.le_of_ble_eq_true rfl) hq ?_
  intro x C hR _ hr
  show VK x G Z (0, 0) 1 (QM x G Z) (fun r : Int32 => (some (.int r), μ)) 0 [(0, .int a0)] [] μ _ some
  unfold m_X9_isSheet
  refine v_iload_n C (n := 0) rfl rfl dX9_isSheet_0 ?_
  refine v_i2l C (v := (a0 : Int32).toInt64) rfl dX9_isSheet_1 ?_
  refine v_lconst C (v := 0) (by decide) dX9_isSheet_2 ?_
  refine v_ldc2 C (v := 7) (w14 13 rfl) dX9_isSheet_3 ?_
  refine v_csRi C (d := 0) (hR.le (by omega)) cs_X9_81 (by decide) [.long ((a0 : Int32).toInt64), .long 0, .long 7] rfl (fun _ hc => s_X9_in G Z hG hZ   hc) (Nat.le_of_ble_eq_true rfl) dX9_isSheet_6 rfl (fun r1 => ?_)
  refine v_bz (fun hb3 => ?_)
  exact v_zret C hb3 hr dX9_isSheet_9 (fun a h => by have h := Option.some.inj h; subst h; rfl)
set_option maxRecDepth 20000 in
set_option maxHeartbeats 4000000 in
theorem s_X9_feed {l : Launch} (G : GT) (Z : ZT) (hG : DA G) (hZ : WT G Z) {this : Nat} {a0 : Int64} {a1 : Int32} {μ : MT} {q : Int32 × MT} (ht : Ob G Z this 9) (hq : m_X9_feed Z this a0 a1 μ = some q) : MZ l G Z yX9_feed cX9_feed 5 (some .int) 1 [.ref (ga G this), .long a0, .int a1] μ (some (.int q.1)) q.2 := by
  refine v_met (J := (fun q : Int32 × MT => (some (.int q.1), q.2))) hG hZ (by decide) (Nat.le_of_ble_eq_true rfl) hq ?_
  intro x C hR _ hr
  show VK x G Z (0, 0) 5 (QM x G Z) (fun q : Int32 × MT => (some (.int q.1), q.2)) 0 [(0, .ref (ga G this)), (1, .long a0), (3, .int a1)] [] μ _ some
  unfold m_X9_feed
  refine v_aload_n C (n := 0) rfl rfl dX9_feed_0 ?_
  refine v_iconst C (v := 0) (by decide) dX9_feed_1 ?_
  refine v_puti C fp_X9_71 rfl rfl ht dX9_feed_2 (fun ν1 => ?_)
  refine v_iload_n C (n := 2) rfl rfl dX9_feed_5 ?_
  refine v_i2l C (v := (a1 : Int32).toInt64) rfl dX9_feed_6 ?_
  refine v_lconst C (v := 1) (by decide) dX9_feed_7 ?_
  refine v_ldc2 C (v := 8) (w14 39 rfl) dX9_feed_8 ?_
  refine v_csRi C (d := 0) (hR.le (by omega)) cs_X9_81 (by decide) [.long ((a1 : Int32).toInt64), .long 1, .long 8] rfl (fun _ hc => s_X9_in G Z hG hZ   hc) (Nat.le_of_ble_eq_true rfl) dX9_feed_11 rfl (fun r2 => ?_)
  refine v_ifne C (t := 20) dX9_feed_14 (by decide) ?_ ?_
  · refine v_aload_n C (n := 0) rfl rfl dX9_feed_20 ?_
    refine v_geti C fl_X9_98 rfl ht dX9_feed_21 ?_
    refine v_iload_n C (n := 2) rfl rfl dX9_feed_24 ?_
    refine v_iadd C dX9_feed_25 ?_
    refine v_sipush C (v := 500) (by decide) dX9_feed_26 ?_
    refine v_icle C (t := 35) dX9_feed_29 (by decide) ?_ ?_
    · refine v_iload_n C (n := 2) rfl rfl dX9_feed_35 ?_
      refine v_iconst C (v := 1) (by decide) dX9_feed_36 ?_
      refine v_isub C dX9_feed_37 ?_
      refine v_istore C (lv' := [(4, .int (a1 - 1)), (0, .ref (ga G this)), (1, .long a0), (3, .int a1)]) (by decide) rfl dX9_feed_38 ?_
      refine v_let (y := (a1 - 1)) (fun x3 => [(4, .int x3), (0, .ref (ga G this)), (1, .long a0), (3, .int a1)]) (fun x3 => []) (fun x3 => ?_)
      refine v_sub (lv' := [(0, .ref (ga G this)), (1, .long a0), (4, .int x3)]) [1, 2, 0] rfl ?_
      refine v_lp 40 82 (fun t : Int32 × MT => [(0, .ref (ga G this)), (1, .long a0), (4, .int (t.1))]) (fun t : Int32 × MT => t.2) (fun t : MT => [(0, .ref (ga G this))]) (fun t : MT => t) ?_ ?_ LN (x3, ν1)
      · intro ν6
        refine v_aload_n C (n := 0) rfl rfl dX9_feed_82 ?_
        refine v_geti C fl_X9_98 rfl ht dX9_feed_83 ?_
        exact v_iret C hr dX9_feed_86 (fun a h => by have h := Option.some.inj h; subst h; rfl)
      · intro X7 F9 hX8 hF10
        rintro ⟨y4, ν5⟩
        refine v_iload C (n := 2) rfl dX9_feed_40 ?_
        refine v_iflt C (t := 82) dX9_feed_42 (by decide) ?_ ?_
        · refine v_sub (lv' := [(0, .ref (ga G this))]) [0] rfl ?_
          exact v_leaf (hF10 ν5)
        · refine v_aload_n C (n := 0) rfl rfl dX9_feed_45 ?_
          refine v_getr C (t := 20) fl_X9_37 rfl rfl ht dX9_feed_46 (fun h11 => ?_)
          refine v_aload_n C (n := 0) rfl rfl dX9_feed_49 ?_
          refine v_geti C fl_X9_98 rfl ht dX9_feed_50 ?_
          refine v_lload_n C (n := 1) rfl rfl dX9_feed_53 ?_
          refine v_bipush C (v := 8) (by decide) dX9_feed_54 ?_
          refine v_iload C (n := 2) rfl dX9_feed_56 ?_
          refine v_imul C dX9_feed_58 ?_
          refine v_lshr C (v := a0 >>> ((8 * y4 : Int32).toInt64 &&& 63)) rfl dX9_feed_59 ?_
          refine v_ldc2 C (v := 255) (w14 41 rfl) dX9_feed_60 ?_
          refine v_land C dX9_feed_63 ?_
          refine v_l2i C (v := ((a0 >>> ((8 * y4 : Int32).toInt64 &&& 63)) &&& 255 : Int64).toInt32) rfl dX9_feed_64 ?_
          refine v_iast C h11 dX9_feed_65 (fun ν12 => ?_)
          refine v_aload_n C (n := 0) rfl rfl dX9_feed_66 ?_
          refine v_dup C rfl dX9_feed_67 ?_
          refine v_geti C fl_X9_98 rfl ht dX9_feed_68 ?_
          refine v_iconst C (v := 1) (by decide) dX9_feed_71 ?_
          refine v_iadd C dX9_feed_72 ?_
          refine v_puti C fp_X9_98 rfl rfl ht dX9_feed_73 (fun ν13 => ?_)
          refine v_iinc C (n := 2) (v := y4 + (-1)) (lv' := [(4, .int (y4 + (-1))), (0, .ref (ga G this)), (1, .long a0)]) rfl (congrArg (y4 + ·) (by decide : Int32.ofInt (-1) = (-1 : Int32))) (by decide) rfl dX9_feed_76 ?_
          refine v_let (y := y4 + (-1)) (fun x14 => [(4, .int x14), (0, .ref (ga G this)), (1, .long a0)]) (fun x14 => []) (fun x14 => ?_)
          refine v_goto C (t := 40) (by decide) dX9_feed_79 ?_
          refine v_sub (lv' := [(0, .ref (ga G this)), (1, .long a0), (4, .int x14)]) [1, 2, 0] rfl ?_
          exact v_leaf (hX8 (x14, ν13))
    · refine v_ldc C (v := (-1000003)) (w14 40 rfl) dX9_feed_32 ?_
      exact v_iret C hr dX9_feed_34 (fun a h => by have h := Option.some.inj h; subst h; rfl)
  · refine v_ldc C (v := (-1000001)) (w14 18 rfl) dX9_feed_17 ?_
    exact v_iret C hr dX9_feed_19 (fun a h => by have h := Option.some.inj h; subst h; rfl)
set_option maxRecDepth 20000 in
set_option maxHeartbeats 4000000 in
theorem s_X9_next {l : Launch} (G : GT) (Z : ZT) (hG : DA G) (hZ : WT G Z) {this : Nat} {μ : MT} {q : MT} (ht : Ob G Z this 9) (hq : m_X9_next Z this μ = some q) : MZ l G Z yX9_next cX9_next 2 none 1 [.ref (ga G this)] μ none q := by
  refine v_met (J := (fun ν : MT => ((none : Option Value), ν))) hG hZ (by decide) (Nat.le_of_ble_eq_true rfl) hq ?_
  intro x C hR _ hr
  show VK x G Z (0, 0) 2 (QM x G Z) (fun ν : MT => ((none : Option Value), ν)) 0 [(0, .ref (ga G this))] [] μ _ some
  unfold m_X9_next
  refine v_lp 0 39 (fun t : MT => [(0, .ref (ga G this))]) (fun t : MT => t) (fun t : MT => [(0, .ref (ga G this))]) (fun t : MT => t) ?_ ?_ LN μ
  · intro ν2
    refine v_aload_n C (n := 0) rfl rfl dX9_next_39 ?_
    refine v_aload_n C (n := 0) rfl rfl dX9_next_40 ?_
    refine v_geti C fl_X9_108 rfl ht dX9_next_41 ?_
    refine v_puti C fp_X9_114 rfl rfl ht dX9_next_44 (fun ν7 => ?_)
    refine v_aload_n C (n := 0) rfl rfl dX9_next_47 ?_
    refine v_aload_n C (n := 0) rfl rfl dX9_next_48 ?_
    refine v_geti C fl_X9_108 rfl ht dX9_next_49 ?_
    refine v_cvRi C (d := 0) (hR.le (by omega)) (c := 9) rfl cv_X9_111 (by decide) ht (by decide) [.int (ν7 this 23)] rfl (fun _ hc => s_X9_byteAt G Z hG hZ   ht hc) (Nat.le_of_ble_eq_true rfl) dX9_next_52 rfl (fun r8 => ?_)
    refine v_istore_n C (lv' := [(1, .int r8), (0, .ref (ga G this))]) rfl (by decide) rfl dX9_next_55 ?_
    refine v_iload_n C (n := 0) rfl rfl dX9_next_56 ?_
    refine v_ldc C (v := (-1000000)) (w14 52 rfl) dX9_next_57 ?_
    refine v_join 196 (fun t : MT => [(0, .ref (ga G this))]) (fun t : MT => []) (fun t : MT => t) ?_ ?_
    · intro ν9
      refine v_aload_n C (n := 0) rfl rfl dX9_next_196 ?_
      refine v_aload_n C (n := 0) rfl rfl dX9_next_197 ?_
      refine v_geti C fl_X9_108 rfl ht dX9_next_198 ?_
      refine v_puti C fp_X9_126 rfl rfl ht dX9_next_201 (fun ν12 => ?_)
      exact v_vret C hr dX9_next_204 (fun a h => by have h := Option.some.inj h; subst h; rfl)
    intro F11 hF10
    refine v_icne C (t := 70) dX9_next_59 (by decide) ?_ ?_
    · refine v_iload_n C (n := 0) rfl rfl dX9_next_70 ?_
      refine v_csRi C (d := 0) (hR.le (by omega)) cs_X9_120 (by decide) [.int r8] rfl (fun _ hc => s_X9_isLetter G Z hG hZ   hc) (Nat.le_of_ble_eq_true rfl) dX9_next_71 rfl (fun r13 => ?_)
      refine v_ifeq C (t := 112) dX9_next_74 (by decide) ?_ ?_
      · refine v_iload_n C (n := 0) rfl rfl dX9_next_112 ?_
        refine v_csRi C (d := 0) (hR.le (by omega)) cs_X9_123 (by decide) [.int r8] rfl (fun _ hc => s_X9_isFigure G Z hG hZ   hc) (Nat.le_of_ble_eq_true rfl) dX9_next_113 rfl (fun r14 => ?_)
        refine v_ifeq C (t := 171) dX9_next_116 (by decide) ?_ ?_
        · refine v_aload_n C (n := 1) rfl rfl dX9_next_171 ?_
          refine v_dup C rfl dX9_next_172 ?_
          refine v_geti C fl_X9_108 rfl ht dX9_next_173 ?_
          refine v_iconst C (v := 1) (by decide) dX9_next_176 ?_
          refine v_iadd C dX9_next_177 ?_
          refine v_puti C fp_X9_108 rfl rfl ht dX9_next_178 (fun ν15 => ?_)
          refine v_aload_n C (n := 1) rfl rfl dX9_next_181 ?_
          refine v_iload_n C (n := 0) rfl rfl dX9_next_182 ?_
          refine v_bipush C (v := 59) (by decide) dX9_next_183 ?_
          refine v_join 193 (fun t : Int32 => [(0, .ref (ga G this))]) (fun t : Int32 => [.int t, .ref (ga G this)]) (fun t : Int32 => ν15) ?_ ?_
          · intro z16
            refine v_puti C fp_X9_117 rfl rfl ht dX9_next_193 (fun ν19 => ?_)
            exact v_leaf (hF10 ν19)
          intro F18 hF17
          refine v_icne C (t := 192) dX9_next_185 (by decide) ?_ ?_
          · refine v_iconst C (v := 0) (by decide) dX9_next_192 ?_
            refine v_sub (lv' := [(0, .ref (ga G this))]) [1] rfl ?_
            exact v_leaf (hF17 0)
          · refine v_iconst C (v := 4) (by decide) dX9_next_188 ?_
            refine v_goto C (t := 193) (by decide) dX9_next_189 ?_
            refine v_sub (lv' := [(0, .ref (ga G this))]) [1] rfl ?_
            exact v_leaf (hF17 4)
        · refine v_sub (lv' := [(0, .ref (ga G this))]) [1] rfl ?_
          refine v_lp 119 146 (fun t : MT => [(0, .ref (ga G this))]) (fun t : MT => t) (fun t : MT => [(0, .ref (ga G this))]) (fun t : MT => t) ?_ ?_ LN ν7
          · intro ν21
            refine v_aload_n C (n := 0) rfl rfl dX9_next_146 ?_
            refine v_aload_n C (n := 0) rfl rfl dX9_next_147 ?_
            refine v_geti C fl_X9_108 rfl ht dX9_next_148 ?_
            refine v_aload_n C (n := 0) rfl rfl dX9_next_151 ?_
            refine v_geti C fl_X9_114 rfl ht dX9_next_152 ?_
            refine v_isub C dX9_next_155 ?_
            refine v_iconst C (v := 2) (by decide) dX9_next_156 ?_
            refine v_join 165 (fun t : Int32 => [(0, .ref (ga G this))]) (fun t : Int32 => [.int t, .ref (ga G this)]) (fun t : Int32 => ν21) ?_ ?_
            · intro z26
              refine v_puti C fp_X9_117 rfl rfl ht dX9_next_165 (fun ν29 => ?_)
              refine v_goto C (t := 196) (by decide) dX9_next_168 ?_
              exact v_leaf (hF10 ν29)
            intro F28 hF27
            refine v_icle C (t := 164) dX9_next_157 (by decide) ?_ ?_
            · refine v_iconst C (v := 3) (by decide) dX9_next_164 ?_
              exact v_leaf (hF27 3)
            · refine v_iconst C (v := 0) (by decide) dX9_next_160 ?_
              refine v_goto C (t := 165) (by decide) dX9_next_161 ?_
              exact v_leaf (hF27 0)
          · intro X22 F24 hX23 hF25
            intro ν20
            refine v_aload_n C (n := 0) rfl rfl dX9_next_119 ?_
            refine v_aload_n C (n := 0) rfl rfl dX9_next_120 ?_
            refine v_geti C fl_X9_108 rfl ht dX9_next_121 ?_
            refine v_cvRi C (d := 0) (hR.le (by omega)) (c := 9) rfl cv_X9_111 (by decide) ht (by decide) [.int (ν20 this 23)] rfl (fun _ hc => s_X9_byteAt G Z hG hZ   ht hc) (Nat.le_of_ble_eq_true rfl) dX9_next_124 rfl (fun r30 => ?_)
            refine v_csRi C (d := 0) (hR.le (by omega)) cs_X9_123 (by decide) [.int r30] rfl (fun _ hc => s_X9_isFigure G Z hG hZ   hc) (Nat.le_of_ble_eq_true rfl) dX9_next_127 rfl (fun r31 => ?_)
            refine v_ifeq C (t := 146) dX9_next_130 (by decide) ?_ ?_
            · exact v_leaf (hF25 ν20)
            · refine v_aload_n C (n := 0) rfl rfl dX9_next_133 ?_
              refine v_dup C rfl dX9_next_134 ?_
              refine v_geti C fl_X9_108 rfl ht dX9_next_135 ?_
              refine v_iconst C (v := 1) (by decide) dX9_next_138 ?_
              refine v_iadd C dX9_next_139 ?_
              refine v_puti C fp_X9_108 rfl rfl ht dX9_next_140 (fun ν32 => ?_)
              refine v_goto C (t := 119) (by decide) dX9_next_143 ?_
              exact v_leaf (hX23 ν32)
      · refine v_sub (lv' := [(0, .ref (ga G this))]) [1] rfl ?_
        refine v_lp 77 104 (fun t : MT => [(0, .ref (ga G this))]) (fun t : MT => t) (fun t : MT => [(0, .ref (ga G this))]) (fun t : MT => t) ?_ ?_ LN ν7
        · intro ν34
          refine v_aload_n C (n := 0) rfl rfl dX9_next_104 ?_
          refine v_iconst C (v := 2) (by decide) dX9_next_105 ?_
          refine v_puti C fp_X9_117 rfl rfl ht dX9_next_106 (fun ν39 => ?_)
          refine v_goto C (t := 196) (by decide) dX9_next_109 ?_
          exact v_leaf (hF10 ν39)
        · intro X35 F37 hX36 hF38
          intro ν33
          refine v_aload_n C (n := 0) rfl rfl dX9_next_77 ?_
          refine v_aload_n C (n := 0) rfl rfl dX9_next_78 ?_
          refine v_geti C fl_X9_108 rfl ht dX9_next_79 ?_
          refine v_cvRi C (d := 0) (hR.le (by omega)) (c := 9) rfl cv_X9_111 (by decide) ht (by decide) [.int (ν33 this 23)] rfl (fun _ hc => s_X9_byteAt G Z hG hZ   ht hc) (Nat.le_of_ble_eq_true rfl) dX9_next_82 rfl (fun r40 => ?_)
          refine v_csRi C (d := 0) (hR.le (by omega)) cs_X9_120 (by decide) [.int r40] rfl (fun _ hc => s_X9_isLetter G Z hG hZ   hc) (Nat.le_of_ble_eq_true rfl) dX9_next_85 rfl (fun r41 => ?_)
          refine v_ifeq C (t := 104) dX9_next_88 (by decide) ?_ ?_
          · exact v_leaf (hF38 ν33)
          · refine v_aload_n C (n := 0) rfl rfl dX9_next_91 ?_
            refine v_dup C rfl dX9_next_92 ?_
            refine v_geti C fl_X9_108 rfl ht dX9_next_93 ?_
            refine v_iconst C (v := 1) (by decide) dX9_next_96 ?_
            refine v_iadd C dX9_next_97 ?_
            refine v_puti C fp_X9_108 rfl rfl ht dX9_next_98 (fun ν42 => ?_)
            refine v_goto C (t := 77) (by decide) dX9_next_101 ?_
            exact v_leaf (hX36 ν42)
    · refine v_aload_n C (n := 1) rfl rfl dX9_next_62 ?_
      refine v_iconst C (v := 1) (by decide) dX9_next_63 ?_
      refine v_puti C fp_X9_117 rfl rfl ht dX9_next_64 (fun ν43 => ?_)
      refine v_goto C (t := 196) (by decide) dX9_next_67 ?_
      refine v_sub (lv' := [(0, .ref (ga G this))]) [1] rfl ?_
      exact v_leaf (hF10 ν43)
  · intro X3 F5 hX4 hF6
    intro ν1
    refine v_aload_n C (n := 0) rfl rfl dX9_next_0 ?_
    refine v_aload_n C (n := 0) rfl rfl dX9_next_1 ?_
    refine v_geti C fl_X9_108 rfl ht dX9_next_2 ?_
    refine v_cvRi C (d := 0) (hR.le (by omega)) (c := 9) rfl cv_X9_111 (by decide) ht (by decide) [.int (ν1 this 23)] rfl (fun _ hc => s_X9_byteAt G Z hG hZ   ht hc) (Nat.le_of_ble_eq_true rfl) dX9_next_5 rfl (fun r44 => ?_)
    refine v_bipush C (v := 32) (by decide) dX9_next_8 ?_
    refine v_joinm 26 (fun t : Unit => [(0, .ref (ga G this))]) (fun t : Unit => []) (fun t : Unit => ν1) ?_ ?_
    · rintro ⟨⟩
      refine v_aload_n C (n := 0) rfl rfl dX9_next_26 ?_
      refine v_dup C rfl dX9_next_27 ?_
      refine v_geti C fl_X9_108 rfl ht dX9_next_28 ?_
      refine v_iconst C (v := 1) (by decide) dX9_next_31 ?_
      refine v_iadd C dX9_next_32 ?_
      refine v_puti C fp_X9_108 rfl rfl ht dX9_next_33 (fun ν48 => ?_)
      refine v_goto C (t := 0) (by decide) dX9_next_36 ?_
      exact v_leaf (hX4 ν48)
    intro F46 e47 hF45
    refine v_iceq C (t := 26) dX9_next_10 (by decide) ?_ ?_
    · exact v_leaf (hF45 ())
    · refine v_aload_n C (n := 0) rfl rfl dX9_next_13 ?_
      refine v_aload_n C (n := 0) rfl rfl dX9_next_14 ?_
      refine v_geti C fl_X9_108 rfl ht dX9_next_15 ?_
      refine v_cvRi C (d := 0) (hR.le (by omega)) (c := 9) rfl cv_X9_111 (by decide) ht (by decide) [.int (ν1 this 23)] rfl (fun _ hc => s_X9_byteAt G Z hG hZ   ht hc) (Nat.le_of_ble_eq_true rfl) dX9_next_18 rfl (fun r49 => ?_)
      refine v_bipush C (v := 10) (by decide) dX9_next_21 ?_
      refine v_icne C (t := 39) dX9_next_23 (by decide) ?_ ?_
      · exact v_leaf (by rw [e47]; exact hF6 ν1)
      · exact v_leaf (hF45 ())
set_option maxRecDepth 20000 in
set_option maxHeartbeats 4000000 in
theorem s_X9_kindOfWord {l : Launch} (G : GT) (Z : ZT) (hG : DA G) (hZ : WT G Z) {this : Nat} {μ : MT} {q : Int32} (ht : Ob G Z this 9) (hq : m_X9_kindOfWord Z this μ = some q) : MZ l G Z yX9_kindOfWord cX9_kindOfWord 3 (some .int) 1 [.ref (ga G this)] μ (some (.int q)) μ := by
  refine v_met (J := (fun r : Int32 => (some (.int r), μ))) hG hZ (by decide) (Nat.le_of_ble_eq_true rfl) hq ?_
  intro x C hR _ hr
  show VK x G Z (0, 0) 3 (QM x G Z) (fun r : Int32 => (some (.int r), μ)) 0 [(0, .ref (ga G this))] [] μ _ some
  unfold m_X9_kindOfWord
  refine v_aload_n C (n := 0) rfl rfl dX9_kindOfWord_0 ?_
  refine v_cvRl C (d := 0) (hR.le (by omega)) (c := 9) rfl cv_X9_146 (by decide) ht (by decide) [] rfl (fun _ hc => s_X9_word G Z hG hZ   ht hc) (Nat.le_of_ble_eq_true rfl) dX9_kindOfWord_1 rfl (fun r1 => ?_)
  refine v_lstore_n C (lv' := [(1, .long r1), (0, .ref (ga G this))]) rfl (by decide) rfl dX9_kindOfWord_4 ?_
  refine v_lload_n C (n := 0) rfl rfl dX9_kindOfWord_5 ?_
  refine v_ldc2 C (v := 1952539499) (w15 18 rfl) dX9_kindOfWord_6 ?_
  refine v_lcmp C dX9_kindOfWord_9 ?_
  refine v_ifne C (t := 17) dX9_kindOfWord_10 (by decide) ?_ ?_
  · refine v_lload_n C (n := 0) rfl rfl dX9_kindOfWord_17 ?_
    refine v_ldc2 C (v := 28526) (w15 19 rfl) dX9_kindOfWord_18 ?_
    refine v_lcmp C dX9_kindOfWord_21 ?_
    refine v_ifne C (t := 29) dX9_kindOfWord_22 (by decide) ?_ ?_
    · refine v_lload_n C (n := 0) rfl rfl dX9_kindOfWord_29 ?_
      refine v_ldc2 C (v := 1650549611) (w15 20 rfl) dX9_kindOfWord_30 ?_
      refine v_lcmp C dX9_kindOfWord_33 ?_
      refine v_ifne C (t := 41) dX9_kindOfWord_34 (by decide) ?_ ?_
      · refine v_lload_n C (n := 0) rfl rfl dX9_kindOfWord_41 ?_
        refine v_ldc2 C (v := 1936419184) (w15 21 rfl) dX9_kindOfWord_42 ?_
        refine v_lcmp C dX9_kindOfWord_45 ?_
        refine v_ifne C (t := 53) dX9_kindOfWord_46 (by decide) ?_ ?_
        · refine v_lload_n C (n := 0) rfl rfl dX9_kindOfWord_53 ?_
          refine v_ldc2 C (v := 126879297138276) (w15 22 rfl) dX9_kindOfWord_54 ?_
          refine v_lcmp C dX9_kindOfWord_57 ?_
          refine v_ifne C (t := 65) dX9_kindOfWord_58 (by decide) ?_ ?_
          · refine v_lload_n C (n := 0) rfl rfl dX9_kindOfWord_65 ?_
            refine v_ldc2 C (v := 128047779833188) (w15 23 rfl) dX9_kindOfWord_66 ?_
            refine v_lcmp C dX9_kindOfWord_69 ?_
            refine v_ifne C (t := 78) dX9_kindOfWord_70 (by decide) ?_ ?_
            · refine v_lload_n C (n := 0) rfl rfl dX9_kindOfWord_78 ?_
              refine v_ldc2 C (v := 439904988517) (w15 24 rfl) dX9_kindOfWord_79 ?_
              refine v_lcmp C dX9_kindOfWord_82 ?_
              refine v_ifne C (t := 91) dX9_kindOfWord_83 (by decide) ?_ ?_
              · refine v_lload_n C (n := 0) rfl rfl dX9_kindOfWord_91 ?_
                refine v_ldc2 C (v := 2002872692) (w15 25 rfl) dX9_kindOfWord_92 ?_
                refine v_lcmp C dX9_kindOfWord_95 ?_
                refine v_ifne C (t := 104) dX9_kindOfWord_96 (by decide) ?_ ?_
                · refine v_lload_n C (n := 0) rfl rfl dX9_kindOfWord_104 ?_
                  refine v_ldc2 C (v := 427020086640) (w15 26 rfl) dX9_kindOfWord_105 ?_
                  refine v_lcmp C dX9_kindOfWord_108 ?_
                  refine v_ifne C (t := 117) dX9_kindOfWord_109 (by decide) ?_ ?_
                  · refine v_lload_n C (n := 0) rfl rfl dX9_kindOfWord_117 ?_
                    refine v_ldc2 C (v := 1718773093) (w15 27 rfl) dX9_kindOfWord_118 ?_
                    refine v_lcmp C dX9_kindOfWord_121 ?_
                    refine v_ifne C (t := 130) dX9_kindOfWord_122 (by decide) ?_ ?_
                    · refine v_ldc C (v := (-1000000)) (w14 52 rfl) dX9_kindOfWord_130 ?_
                      exact v_iret C hr dX9_kindOfWord_132 (fun a h => by have h := Option.some.inj h; subst h; rfl)
                    · refine v_bipush C (v := 10) (by decide) dX9_kindOfWord_125 ?_
                      refine v_goto C (t := 132) (by decide) dX9_kindOfWord_127 ?_
                      exact v_iret C hr dX9_kindOfWord_132 (fun a h => by have h := Option.some.inj h; subst h; rfl)
                  · refine v_bipush C (v := 9) (by decide) dX9_kindOfWord_112 ?_
                    refine v_goto C (t := 132) (by decide) dX9_kindOfWord_114 ?_
                    exact v_iret C hr dX9_kindOfWord_132 (fun a h => by have h := Option.some.inj h; subst h; rfl)
                · refine v_bipush C (v := 8) (by decide) dX9_kindOfWord_99 ?_
                  refine v_goto C (t := 132) (by decide) dX9_kindOfWord_101 ?_
                  exact v_iret C hr dX9_kindOfWord_132 (fun a h => by have h := Option.some.inj h; subst h; rfl)
              · refine v_bipush C (v := 7) (by decide) dX9_kindOfWord_86 ?_
                refine v_goto C (t := 132) (by decide) dX9_kindOfWord_88 ?_
                exact v_iret C hr dX9_kindOfWord_132 (fun a h => by have h := Option.some.inj h; subst h; rfl)
            · refine v_bipush C (v := 6) (by decide) dX9_kindOfWord_73 ?_
              refine v_goto C (t := 132) (by decide) dX9_kindOfWord_75 ?_
              exact v_iret C hr dX9_kindOfWord_132 (fun a h => by have h := Option.some.inj h; subst h; rfl)
          · refine v_iconst C (v := 5) (by decide) dX9_kindOfWord_61 ?_
            refine v_goto C (t := 132) (by decide) dX9_kindOfWord_62 ?_
            exact v_iret C hr dX9_kindOfWord_132 (fun a h => by have h := Option.some.inj h; subst h; rfl)
        · refine v_iconst C (v := 4) (by decide) dX9_kindOfWord_49 ?_
          refine v_goto C (t := 132) (by decide) dX9_kindOfWord_50 ?_
          exact v_iret C hr dX9_kindOfWord_132 (fun a h => by have h := Option.some.inj h; subst h; rfl)
      · refine v_iconst C (v := 3) (by decide) dX9_kindOfWord_37 ?_
        refine v_goto C (t := 132) (by decide) dX9_kindOfWord_38 ?_
        exact v_iret C hr dX9_kindOfWord_132 (fun a h => by have h := Option.some.inj h; subst h; rfl)
    · refine v_iconst C (v := 2) (by decide) dX9_kindOfWord_25 ?_
      refine v_goto C (t := 132) (by decide) dX9_kindOfWord_26 ?_
      exact v_iret C hr dX9_kindOfWord_132 (fun a h => by have h := Option.some.inj h; subst h; rfl)
  · refine v_iconst C (v := 1) (by decide) dX9_kindOfWord_13 ?_
    refine v_goto C (t := 132) (by decide) dX9_kindOfWord_14 ?_
    exact v_iret C hr dX9_kindOfWord_132 (fun a h => by have h := Option.some.inj h; subst h; rfl)
set_option maxRecDepth 20000 in
set_option maxHeartbeats 4000000 in
theorem s_X9_isAct {l : Launch} (G : GT) (Z : ZT) (hG : DA G) (hZ : WT G Z) {this : Nat} {a0 : Int32} {μ : MT} {q : Int32} (ht : Ob G Z this 9) (hq : m_X9_isAct Z this a0 μ = some q) : MZ l G Z yX9_isAct cX9_isAct 2 (some .boolean) 1 [.ref (ga G this), .int a0] μ (some (.int q)) μ := by
  refine v_met (J := (fun r : Int32 => (some (.int r), μ))) hG hZ (by decide) (Nat.le_of_ble_eq_true rfl) hq ?_
  intro x C hR _ hr
  show VK x G Z (0, 0) 2 (QM x G Z) (fun r : Int32 => (some (.int r), μ)) 0 [(0, .ref (ga G this)), (1, .int a0)] [] μ _ some
  unfold m_X9_isAct
  refine v_iload_n C (n := 1) rfl rfl dX9_isAct_0 ?_
  refine v_i2l C (v := (a0 : Int32).toInt64) rfl dX9_isAct_1 ?_
  refine v_lconst C (v := 0) (by decide) dX9_isAct_2 ?_
  refine v_aload_n C (n := 0) rfl rfl dX9_isAct_3 ?_
  refine v_geti C fl_X9_218 rfl ht dX9_isAct_4 ?_
  refine v_iconst C (v := 1) (by decide) dX9_isAct_7 ?_
  refine v_isub C dX9_isAct_8 ?_
  refine v_i2l C (v := ((μ this 7) - 1 : Int32).toInt64) rfl dX9_isAct_9 ?_
  refine v_csRi C (d := 0) (hR.le (by omega)) cs_X9_81 (by decide) [.long ((a0 : Int32).toInt64), .long 0, .long (((μ this 7) - 1 : Int32).toInt64)] rfl (fun _ hc => s_X9_in G Z hG hZ   hc) (Nat.le_of_ble_eq_true rfl) dX9_isAct_10 rfl (fun r1 => ?_)
  refine v_bz (fun hb3 => ?_)
  exact v_zret C hb3 hr dX9_isAct_13 (fun a h => by have h := Option.some.inj h; subst h; rfl)
set_option maxRecDepth 20000 in
set_option maxHeartbeats 4000000 in
theorem s_X9_isCell {l : Launch} (G : GT) (Z : ZT) (hG : DA G) (hZ : WT G Z) {this : Nat} {a0 : Int32} {μ : MT} {q : Int32} (ht : Ob G Z this 9) (hq : m_X9_isCell Z this a0 μ = some q) : MZ l G Z yX9_isCell cX9_isCell 2 (some .boolean) 1 [.ref (ga G this), .int a0] μ (some (.int q)) μ := by
  refine v_met (J := (fun r : Int32 => (some (.int r), μ))) hG hZ (by decide) (Nat.le_of_ble_eq_true rfl) hq ?_
  intro x C hR _ hr
  show VK x G Z (0, 0) 2 (QM x G Z) (fun r : Int32 => (some (.int r), μ)) 0 [(0, .ref (ga G this)), (1, .int a0)] [] μ _ some
  unfold m_X9_isCell
  refine v_iload_n C (n := 1) rfl rfl dX9_isCell_0 ?_
  refine v_i2l C (v := (a0 : Int32).toInt64) rfl dX9_isCell_1 ?_
  refine v_lconst C (v := 0) (by decide) dX9_isCell_2 ?_
  refine v_aload_n C (n := 0) rfl rfl dX9_isCell_3 ?_
  refine v_geti C fl_X9_212 rfl ht dX9_isCell_4 ?_
  refine v_iconst C (v := 1) (by decide) dX9_isCell_7 ?_
  refine v_isub C dX9_isCell_8 ?_
  refine v_i2l C (v := ((μ this 5) - 1 : Int32).toInt64) rfl dX9_isCell_9 ?_
  refine v_csRi C (d := 0) (hR.le (by omega)) cs_X9_81 (by decide) [.long ((a0 : Int32).toInt64), .long 0, .long (((μ this 5) - 1 : Int32).toInt64)] rfl (fun _ hc => s_X9_in G Z hG hZ   hc) (Nat.le_of_ble_eq_true rfl) dX9_isCell_10 rfl (fun r1 => ?_)
  refine v_bz (fun hb3 => ?_)
  exact v_zret C hb3 hr dX9_isCell_13 (fun a h => by have h := Option.some.inj h; subst h; rfl)
set_option maxRecDepth 20000 in
set_option maxHeartbeats 4000000 in
theorem s_X9_offBy {l : Launch} (G : GT) (Z : ZT) (hG : DA G) (hZ : WT G Z) {this : Nat} {μ : MT} {q : Int32} (ht : Ob G Z this 9) (hq : m_X9_offBy Z this μ = some q) : MZ l G Z yX9_offBy cX9_offBy 5 (some .int) 1 [.ref (ga G this)] μ (some (.int q)) μ := by
  refine v_met (J := (fun r : Int32 => (some (.int r), μ))) hG hZ (by decide) (Nat.le_of_ble_eq_true rfl) hq ?_
  intro x C hR _ hr
  show VK x G Z (0, 0) 5 (QM x G Z) (fun r : Int32 => (some (.int r), μ)) 0 [(0, .ref (ga G this))] [] μ _ some
  unfold m_X9_offBy
  refine v_aload_n C (n := 0) rfl rfl dX9_offBy_0 ?_
  refine v_aload_n C (n := 0) rfl rfl dX9_offBy_1 ?_
  refine v_getr C (t := 20) fl_X9_46 rfl rfl ht dX9_offBy_2 (fun h1 => ?_)
  refine v_aload_n C (n := 0) rfl rfl dX9_offBy_5 ?_
  refine v_geti C fl_X9_212 rfl ht dX9_offBy_6 ?_
  refine v_cvRi C (d := 0) (hR.le (by omega)) (c := 9) rfl cv_X9_266 (by decide) ht (by decide) [.ref (ga G (zr Z this 32)), .int (μ this 5)] rfl (fun _ hc => s_X9_heightBy G Z hG hZ   ht h1.oa hc) (Nat.le_of_ble_eq_true rfl) dX9_offBy_9 rfl (fun r2 => ?_)
  refine v_istore_n C (lv' := [(1, .int r2), (0, .ref (ga G this))]) rfl (by decide) rfl dX9_offBy_12 ?_
  refine v_iconst C (v := 0) (by decide) dX9_offBy_13 ?_
  refine v_istore_n C (lv' := [(2, .int 0), (1, .int r2), (0, .ref (ga G this))]) rfl (by decide) rfl dX9_offBy_14 ?_
  refine v_iconst C (v := 0) (by decide) dX9_offBy_15 ?_
  refine v_istore_n C (lv' := [(3, .int 0), (2, .int 0), (1, .int r2), (0, .ref (ga G this))]) rfl (by decide) rfl dX9_offBy_16 ?_
  refine v_sub (lv' := [(0, .ref (ga G this)), (1, .int r2), (2, .int 0), (3, .int 0)]) [3, 2, 1, 0] rfl ?_
  refine v_lp 17 79 (fun t : Int32 × Int32 => [(0, .ref (ga G this)), (1, .int r2), (2, .int (t.1)), (3, .int (t.2))]) (fun t : Int32 × Int32 => μ) (fun t : Int32 => [(0, .ref (ga G this)), (2, .int t)]) (fun t : Int32 => μ) ?_ ?_ LN (0, 0)
  · intro y5
    refine v_iload_n C (n := 1) rfl rfl dX9_offBy_79 ?_
    refine v_aload_n C (n := 0) rfl rfl dX9_offBy_80 ?_
    refine v_geti C fl_X9_212 rfl ht dX9_offBy_81 ?_
    refine v_idiv C dX9_offBy_84 (fun x10 => ?_)
    exact v_iret C hr dX9_offBy_85 (fun a h => by have h := Option.some.inj h; subst h; rfl)
  · intro X6 F8 hX7 hF9
    rintro ⟨y3, y4⟩
    refine v_iload_n C (n := 3) rfl rfl dX9_offBy_17 ?_
    refine v_aload_n C (n := 0) rfl rfl dX9_offBy_18 ?_
    refine v_geti C fl_X9_212 rfl ht dX9_offBy_19 ?_
    refine v_icgt C (t := 79) dX9_offBy_22 (by decide) ?_ ?_
    · refine v_sub (lv' := [(0, .ref (ga G this)), (2, .int y3)]) [0, 2] rfl ?_
      exact v_leaf (hF9 y3)
    · refine v_aload_n C (n := 0) rfl rfl dX9_offBy_25 ?_
      refine v_geti C fl_X9_212 rfl ht dX9_offBy_26 ?_
      refine v_aload_n C (n := 0) rfl rfl dX9_offBy_29 ?_
      refine v_aload_n C (n := 0) rfl rfl dX9_offBy_30 ?_
      refine v_getr C (t := 20) fl_X9_46 rfl rfl ht dX9_offBy_31 (fun h11 => ?_)
      refine v_iload_n C (n := 3) rfl rfl dX9_offBy_34 ?_
      refine v_cvRi C (d := 0) (hR.le (by omega)) (c := 9) rfl cv_X9_266 (by decide) ht (by decide) [.ref (ga G (zr Z this 32)), .int y4] rfl (fun _ hc => s_X9_heightBy G Z hG hZ   ht h11.oa hc) (Nat.le_of_ble_eq_true rfl) dX9_offBy_35 rfl (fun r12 => ?_)
      refine v_imul C dX9_offBy_38 ?_
      refine v_iload_n C (n := 3) rfl rfl dX9_offBy_39 ?_
      refine v_iload_n C (n := 1) rfl rfl dX9_offBy_40 ?_
      refine v_imul C dX9_offBy_41 ?_
      refine v_isub C dX9_offBy_42 ?_
      refine v_istore C (lv' := [(4, .int (((μ this 5) * r12) - (y4 * r2))), (0, .ref (ga G this)), (1, .int r2), (2, .int y3), (3, .int y4)]) (by decide) rfl dX9_offBy_43 ?_
      refine v_let (y := (((μ this 5) * r12) - (y4 * r2))) (fun x13 => [(4, .int x13), (0, .ref (ga G this)), (1, .int r2), (2, .int y3), (3, .int y4)]) (fun x13 => []) (fun x13 => ?_)
      refine v_iload C (n := 0) rfl dX9_offBy_45 ?_
      refine v_join 58 (fun t : Int32 => [(0, .ref (ga G this)), (1, .int r2), (2, .int y3), (3, .int y4)]) (fun t : Int32 => [.int t]) (fun t : Int32 => μ) ?_ ?_
      · intro z14
        refine v_istore C (lv' := [(4, .int z14), (0, .ref (ga G this)), (1, .int r2), (2, .int y3), (3, .int y4)]) (by decide) rfl dX9_offBy_58 ?_
        refine v_iload C (n := 0) rfl dX9_offBy_60 ?_
        refine v_iload_n C (n := 3) rfl rfl dX9_offBy_62 ?_
        refine v_join 72 (fun t : Int32 => [(0, .ref (ga G this)), (1, .int r2), (3, .int y4)]) (fun t : Int32 => [.int t]) (fun t : Int32 => μ) ?_ ?_
        · intro z17
          refine v_istore_n C (lv' := [(2, .int z17), (0, .ref (ga G this)), (1, .int r2), (3, .int y4)]) rfl (by decide) rfl dX9_offBy_72 ?_
          refine v_iinc C (n := 3) (v := y4 + 1) (lv' := [(3, .int (y4 + 1)), (2, .int z17), (0, .ref (ga G this)), (1, .int r2)]) rfl (congrArg (y4 + ·) (by decide : Int32.ofInt (1) = (1 : Int32))) (by decide) rfl dX9_offBy_73 ?_
          refine v_let (y := y4 + 1) (fun x20 => [(3, .int x20), (2, .int z17), (0, .ref (ga G this)), (1, .int r2)]) (fun x20 => []) (fun x20 => ?_)
          refine v_goto C (t := 17) (by decide) dX9_offBy_76 ?_
          refine v_sub (lv' := [(0, .ref (ga G this)), (1, .int r2), (2, .int z17), (3, .int x20)]) [2, 3, 1, 0] rfl ?_
          exact v_leaf (hX7 (z17, x20))
        intro F19 hF18
        refine v_icle C (t := 71) dX9_offBy_63 (by decide) ?_ ?_
        · refine v_iload_n C (n := 3) rfl rfl dX9_offBy_71 ?_
          refine v_sub (lv' := [(0, .ref (ga G this)), (1, .int r2), (3, .int y4)]) [1, 2, 4] rfl ?_
          exact v_leaf (hF18 y3)
        · refine v_iload C (n := 0) rfl dX9_offBy_66 ?_
          refine v_goto C (t := 72) (by decide) dX9_offBy_68 ?_
          refine v_sub (lv' := [(0, .ref (ga G this)), (1, .int r2), (3, .int y4)]) [1, 2, 4] rfl ?_
          exact v_leaf (hF18 z14)
      intro F16 hF15
      refine v_ifge C (t := 56) dX9_offBy_47 (by decide) ?_ ?_
      · refine v_iload C (n := 0) rfl dX9_offBy_56 ?_
        refine v_sub (lv' := [(0, .ref (ga G this)), (1, .int r2), (2, .int y3), (3, .int y4)]) [1, 2, 3, 4] rfl ?_
        exact v_leaf (hF15 x13)
      · refine v_iload C (n := 0) rfl dX9_offBy_50 ?_
        refine v_ineg C dX9_offBy_52 ?_
        refine v_goto C (t := 58) (by decide) dX9_offBy_53 ?_
        refine v_sub (lv' := [(0, .ref (ga G this)), (1, .int r2), (2, .int y3), (3, .int y4)]) [1, 2, 3, 4] rfl ?_
        exact v_leaf (hF15 (-x13))
set_option maxRecDepth 20000 in
set_option maxHeartbeats 4000000 in
theorem s_X9_layStanding {l : Launch} (G : GT) (Z : ZT) (hG : DA G) (hZ : WT G Z) {this : Nat} {μ : MT} {q : MT} (ht : Ob G Z this 9) (hq : m_X9_layStanding Z this μ = some q) : MZ l G Z yX9_layStanding cX9_layStanding 2 none 1 [.ref (ga G this)] μ none q := by
  refine v_met (J := (fun ν : MT => ((none : Option Value), ν))) hG hZ (by decide) (Nat.le_of_ble_eq_true rfl) hq ?_
  intro x C hR _ hr
  show VK x G Z (0, 0) 2 (QM x G Z) (fun ν : MT => ((none : Option Value), ν)) 0 [(0, .ref (ga G this))] [] μ _ some
  unfold m_X9_layStanding
  refine v_iconst C (v := 0) (by decide) dX9_layStanding_0 ?_
  refine v_istore_n C (lv' := [(1, .int 0), (0, .ref (ga G this))]) rfl (by decide) rfl dX9_layStanding_1 ?_
  refine v_sub (lv' := [(0, .ref (ga G this)), (1, .int 0)]) [1, 0] rfl ?_
  refine v_lp 2 63 (fun t : Int32 × MT => [(0, .ref (ga G this)), (1, .int (t.1))]) (fun t : Int32 × MT => t.2) (fun t : MT => []) (fun t : MT => t) ?_ ?_ LN (0, μ)
  · intro ν3
    exact v_vret C hr dX9_layStanding_63 (fun a h => by have h := Option.some.inj h; subst h; rfl)
  · intro X4 F6 hX5 hF7
    rintro ⟨y1, ν2⟩
    refine v_iload_n C (n := 1) rfl rfl dX9_layStanding_2 ?_
    refine v_bipush C (v := 48) (by decide) dX9_layStanding_3 ?_
    refine v_icge C (t := 63) dX9_layStanding_5 (by decide) ?_ ?_
    · refine v_sub (lv' := []) [] rfl ?_
      exact v_leaf (hF7 ν2)
    · refine v_aload_n C (n := 0) rfl rfl dX9_layStanding_8 ?_
      refine v_getr C (t := 20) fl_X9_46 rfl rfl ht dX9_layStanding_9 (fun h8 => ?_)
      refine v_iload_n C (n := 1) rfl rfl dX9_layStanding_12 ?_
      refine v_aload_n C (n := 0) rfl rfl dX9_layStanding_13 ?_
      refine v_geti C fl_X9_224 rfl ht dX9_layStanding_14 ?_
      refine v_join 56 (fun t : Int32 => [(0, .ref (ga G this)), (1, .int y1)]) (fun t : Int32 => [.int t, .int y1, .ref (ga G (zr Z this 32))]) (fun t : Int32 => ν2) ?_ ?_
      · intro z9
        refine v_iast C h8 dX9_layStanding_56 (fun ν12 => ?_)
        refine v_iinc C (n := 1) (v := y1 + 1) (lv' := [(1, .int (y1 + 1)), (0, .ref (ga G this))]) rfl (congrArg (y1 + ·) (by decide : Int32.ofInt (1) = (1 : Int32))) (by decide) rfl dX9_layStanding_57 ?_
        refine v_let (y := y1 + 1) (fun x13 => [(1, .int x13), (0, .ref (ga G this))]) (fun x13 => []) (fun x13 => ?_)
        refine v_goto C (t := 2) (by decide) dX9_layStanding_60 ?_
        refine v_sub (lv' := [(0, .ref (ga G this)), (1, .int x13)]) [1, 0] rfl ?_
        exact v_leaf (hX5 (x13, ν12))
      intro F11 hF10
      refine v_ifeq C (t := 29) dX9_layStanding_17 (by decide) ?_ ?_
      · refine v_iload_n C (n := 1) rfl rfl dX9_layStanding_29 ?_
        refine v_i2l C (v := (y1 : Int32).toInt64) rfl dX9_layStanding_30 ?_
        refine v_ldc2 C (v := 24) (w16 4 rfl) dX9_layStanding_31 ?_
        refine v_ldc2 C (v := 35) (w16 5 rfl) dX9_layStanding_34 ?_
        refine v_csRi C (d := 0) (hR.le (by omega)) cs_X9_81 (by decide) [.long ((y1 : Int32).toInt64), .long 24, .long 35] rfl (fun _ hc => s_X9_in G Z hG hZ   hc) (Nat.le_of_ble_eq_true rfl) dX9_layStanding_37 rfl (fun r14 => ?_)
        refine v_ifeq C (t := 55) dX9_layStanding_40 (by decide) ?_ ?_
        · refine v_iconst C (v := 0) (by decide) dX9_layStanding_55 ?_
          exact v_leaf (hF10 0)
        · refine v_aload_n C (n := 0) rfl rfl dX9_layStanding_43 ?_
          refine v_getr C (t := 20) fl_X9_40 rfl rfl ht dX9_layStanding_44 (fun h15 => ?_)
          refine v_iload_n C (n := 1) rfl rfl dX9_layStanding_47 ?_
          refine v_bipush C (v := 24) (by decide) dX9_layStanding_48 ?_
          refine v_isub C dX9_layStanding_50 ?_
          refine v_iald C h15.oa dX9_layStanding_51 (fun x16 => ?_)
          refine v_goto C (t := 56) (by decide) dX9_layStanding_52 ?_
          exact v_leaf (hF10 x16)
      · refine v_aload_n C (n := 0) rfl rfl dX9_layStanding_20 ?_
        refine v_getr C (t := 20) fl_X9_56 rfl rfl ht dX9_layStanding_21 (fun h17 => ?_)
        refine v_iload_n C (n := 1) rfl rfl dX9_layStanding_24 ?_
        refine v_iald C h17.oa dX9_layStanding_25 (fun x18 => ?_)
        refine v_goto C (t := 56) (by decide) dX9_layStanding_26 ?_
        exact v_leaf (hF10 x18)
set_option maxRecDepth 20000 in
set_option maxHeartbeats 4000000 in
theorem s_X9_orders {l : Launch} (G : GT) (Z : ZT) (hG : DA G) (hZ : WT G Z) {this : Nat} {μ : MT} {q : Int32 × MT} (ht : Ob G Z this 9) (hq : m_X9_orders Z this μ = some q) : MZ l G Z yX9_orders cX9_orders 3 (some .int) 1 [.ref (ga G this)] μ (some (.int q.1)) q.2 := by
  refine v_met (J := (fun q : Int32 × MT => (some (.int q.1), q.2))) hG hZ (by decide) (Nat.le_of_ble_eq_true rfl) hq ?_
  intro x C hR _ hr
  show VK x G Z (0, 0) 3 (QM x G Z) (fun q : Int32 × MT => (some (.int q.1), q.2)) 0 [(0, .ref (ga G this))] [] μ _ some
  unfold m_X9_orders
  refine v_aload_n C (n := 0) rfl rfl dX9_orders_0 ?_
  refine v_iconst C (v := 0) (by decide) dX9_orders_1 ?_
  refine v_puti C fp_X9_71 rfl rfl ht dX9_orders_2 (fun ν1 => ?_)
  refine v_aload_n C (n := 0) rfl rfl dX9_orders_5 ?_
  refine v_geti C fl_X9_212 rfl ht dX9_orders_6 ?_
  refine v_ifne C (t := 16) dX9_orders_9 (by decide) ?_ ?_
  · refine v_aload_n C (n := 0) rfl rfl dX9_orders_16 ?_
    refine v_cvIv C (d := 0) (hR.le (by omega)) (c := 9) rfl cv_X9_286 (by decide) ht (by decide) [] rfl (fun _ hc => s_X9_layNumbers G Z hG hZ   ht hc) (Nat.le_of_ble_eq_true rfl) dX9_orders_17 rfl (fun ν2 => ?_)
    refine v_iconst C (v := 0) (by decide) dX9_orders_20 ?_
    refine v_istore_n C (lv' := [(1, .int 0), (0, .ref (ga G this))]) rfl (by decide) rfl dX9_orders_21 ?_
    refine v_iconst C (v := 1) (by decide) dX9_orders_22 ?_
    refine v_istore_n C (lv' := [(2, .int 1), (1, .int 0), (0, .ref (ga G this))]) rfl (by decide) rfl dX9_orders_23 ?_
    refine v_sub (lv' := [(0, .ref (ga G this)), (1, .int 0), (2, .int 1)]) [2, 1, 0] rfl ?_
    refine v_lp 24 51 (fun t : Int32 × Int32 × MT => [(0, .ref (ga G this)), (1, .int (t.1)), (2, .int (t.2.1))]) (fun t : Int32 × Int32 × MT => t.2.2) (fun t : Int32 × MT => [(1, .int (t.1))]) (fun t : Int32 × MT => t.2) ?_ ?_ LN (0, 1, ν2)
    · rintro ⟨y6, ν7⟩
      refine v_iload_n C (n := 0) rfl rfl dX9_orders_51 ?_
      exact v_iret C hr dX9_orders_52 (fun a h => by have h := Option.some.inj h; subst h; rfl)
    · intro X8 F10 hX9 hF11
      rintro ⟨y3, y4, ν5⟩
      refine v_iload_n C (n := 2) rfl rfl dX9_orders_24 ?_
      refine v_ifeq C (t := 51) dX9_orders_25 (by decide) ?_ ?_
      · refine v_sub (lv' := [(1, .int y3)]) [1] rfl ?_
        exact v_leaf (hF11 (y3, ν5))
      · refine v_iload_n C (n := 1) rfl rfl dX9_orders_28 ?_
        refine v_aload_n C (n := 0) rfl rfl dX9_orders_29 ?_
        refine v_cvRi C (d := 0) (hR.le (by omega)) (c := 9) rfl cv_X9_292 (by decide) ht (by decide) [] rfl (fun _ hc => s_X9_fits G Z hG hZ   ht hc) (Nat.le_of_ble_eq_true rfl) dX9_orders_30 rfl (fun r12 => ?_)
        refine v_join 41 (fun t : Int32 => [(0, .ref (ga G this))]) (fun t : Int32 => [.int t, .int y3]) (fun t : Int32 => ν5) ?_ ?_
        · intro z13
          refine v_iadd C dX9_orders_41 ?_
          refine v_istore_n C (lv' := [(1, .int (y3 + z13)), (0, .ref (ga G this))]) rfl (by decide) rfl dX9_orders_42 ?_
          refine v_let (y := (y3 + z13)) (fun x16 => [(1, .int x16), (0, .ref (ga G this))]) (fun x16 => []) (fun x16 => ?_)
          refine v_aload_n C (n := 1) rfl rfl dX9_orders_43 ?_
          refine v_cvIi C (d := 0) (hR.le (by omega)) (c := 9) rfl cv_X9_296 (by decide) ht (by decide) [] rfl (fun _ hc => s_X9_nextOrder G Z hG hZ   ht hc) (Nat.le_of_ble_eq_true rfl) dX9_orders_44 rfl (fun r17 ν18 => ?_)
          refine v_istore_n C (lv' := [(2, .int r17), (1, .int x16), (0, .ref (ga G this))]) rfl (by decide) rfl dX9_orders_47 ?_
          refine v_goto C (t := 24) (by decide) dX9_orders_48 ?_
          refine v_sub (lv' := [(0, .ref (ga G this)), (1, .int x16), (2, .int r17)]) [2, 1, 0] rfl ?_
          exact v_leaf (hX9 (x16, r17, ν18))
        intro F15 hF14
        refine v_ifeq C (t := 40) dX9_orders_33 (by decide) ?_ ?_
        · refine v_iconst C (v := 0) (by decide) dX9_orders_40 ?_
          refine v_sub (lv' := [(0, .ref (ga G this))]) [0] rfl ?_
          exact v_leaf (hF14 0)
        · refine v_iconst C (v := 1) (by decide) dX9_orders_36 ?_
          refine v_goto C (t := 41) (by decide) dX9_orders_37 ?_
          refine v_sub (lv' := [(0, .ref (ga G this))]) [0] rfl ?_
          exact v_leaf (hF14 1)
  · refine v_ldcw C (v := (-1000002)) (w15 61 rfl) dX9_orders_12 ?_
    exact v_iret C hr dX9_orders_15 (fun a h => by have h := Option.some.inj h; subst h; rfl)
set_option maxRecDepth 20000 in
set_option maxHeartbeats 4000000 in
theorem s_X9_isOf {l : Launch} (G : GT) (Z : ZT) (hG : DA G) (hZ : WT G Z) {a0 : Int32} {a1 : Int32} {μ : MT} {q : Int32}  (hq : m_X9_isOf Z a0 a1 μ = some q) : MZ l G Z yX9_isOf cX9_isOf 2 (some .boolean) 1 [.int a0, .int a1] μ (some (.int q)) μ := by
  refine v_met (J := (fun r : Int32 => (some (.int r), μ))) hG hZ (by decide) (Nat.le_of_ble_eq_true rfl) hq ?_
  intro x C hR _ hr
  show VK x G Z (0, 0) 2 (QM x G Z) (fun r : Int32 => (some (.int r), μ)) 0 [(0, .int a0), (1, .int a1)] [] μ _ some
  unfold m_X9_isOf
  refine v_iload_n C (n := 1) rfl rfl dX9_isOf_0 ?_
  refine v_joinm 38 (fun t : Unit => []) (fun t : Unit => []) (fun t : Unit => μ) ?_ ?_
  · rintro ⟨⟩
    refine v_iconst C (v := 1) (by decide) dX9_isOf_38 ?_
    refine v_goto C (t := 43) (by decide) dX9_isOf_39 ?_
    exact v_zret C (Or.inr rfl) hr dX9_isOf_43 (fun a h => by have h := Option.some.inj h; subst h; rfl)
  intro F2 e3 hF1
  refine v_ifeq C (t := 38) dX9_isOf_1 (by decide) ?_ ?_
  · refine v_sub (lv' := []) [] rfl ?_
    exact v_leaf (hF1 ())
  · refine v_iload_n C (n := 0) rfl rfl dX9_isOf_4 ?_
    refine v_iload_n C (n := 1) rfl rfl dX9_isOf_5 ?_
    refine v_iceq C (t := 38) dX9_isOf_6 (by decide) ?_ ?_
    · refine v_sub (lv' := []) [] rfl ?_
      exact v_leaf (hF1 ())
    · refine v_iload_n C (n := 1) rfl rfl dX9_isOf_9 ?_
      refine v_iconst C (v := 2) (by decide) dX9_isOf_10 ?_
      refine v_joinm 28 (fun t : Unit => [(0, .int a0), (1, .int a1)]) (fun t : Unit => []) (fun t : Unit => μ) ?_ ?_
      · rintro ⟨⟩
        refine v_iload_n C (n := 1) rfl rfl dX9_isOf_28 ?_
        refine v_iconst C (v := 3) (by decide) dX9_isOf_29 ?_
        refine v_icne C (t := 42) dX9_isOf_30 (by decide) ?_ ?_
        · refine v_iconst C (v := 0) (by decide) dX9_isOf_42 ?_
          exact v_zret C (Or.inl rfl) hr dX9_isOf_43 (fun a h => by simp only [ob_s, lq, e3] at h; have h := Option.some.inj h; subst h; rfl)
        · refine v_iload_n C (n := 0) rfl rfl dX9_isOf_33 ?_
          refine v_iconst C (v := 4) (by decide) dX9_isOf_34 ?_
          refine v_icne C (t := 42) dX9_isOf_35 (by decide) ?_ ?_
          · refine v_iconst C (v := 0) (by decide) dX9_isOf_42 ?_
            exact v_zret C (Or.inl rfl) hr dX9_isOf_43 (fun a h => by simp only [ob_s, lq, e3] at h; have h := Option.some.inj h; subst h; rfl)
          · refine v_sub (lv' := []) [] rfl ?_
            exact v_leaf (hF1 ())
      intro F5 e6 hF4
      refine v_icne C (t := 28) dX9_isOf_11 (by decide) ?_ ?_
      · exact v_leaf (hF4 ())
      · refine v_iload_n C (n := 0) rfl rfl dX9_isOf_14 ?_
        refine v_i2l C (v := (a0 : Int32).toInt64) rfl dX9_isOf_15 ?_
        refine v_ldc2 C (v := 3) (w15 47 rfl) dX9_isOf_16 ?_
        refine v_ldc2 C (v := 6) (w17 60 rfl) dX9_isOf_19 ?_
        refine v_csRi C (d := 0) (hR.le (by omega)) cs_X9_81 (by decide) [.long ((a0 : Int32).toInt64), .long 3, .long 6] rfl (fun _ hc => s_X9_in G Z hG hZ   hc) (Nat.le_of_ble_eq_true rfl) dX9_isOf_22 rfl (fun r7 => ?_)
        refine v_ifne C (t := 38) dX9_isOf_25 (by decide) ?_ ?_
        · refine v_sub (lv' := []) [] rfl ?_
          exact v_leaf (by rw [e6]; exact hF1 ())
        · exact v_leaf (hF4 ())
set_option maxRecDepth 20000 in
set_option maxHeartbeats 4000000 in
theorem s_X9_flameSize {l : Launch} (G : GT) (Z : ZT) (hG : DA G) (hZ : WT G Z) {this : Nat} {a0 : Int32} {μ : MT} {q : Int32 × MT} (ht : Ob G Z this 9) (hq : m_X9_flameSize Z this a0 μ = some q) : MZ l G Z yX9_flameSize cX9_flameSize 2 (some .int) 1 [.ref (ga G this), .int a0] μ (some (.int q.1)) q.2 := by
  refine v_met (J := (fun q : Int32 × MT => (some (.int q.1), q.2))) hG hZ (by decide) (Nat.le_of_ble_eq_true rfl) hq ?_
  intro x C hR _ hr
  show VK x G Z (0, 0) 2 (QM x G Z) (fun q : Int32 × MT => (some (.int q.1), q.2)) 0 [(0, .ref (ga G this)), (1, .int a0)] [] μ _ some
  unfold m_X9_flameSize
  refine v_aload_n C (n := 0) rfl rfl dX9_flameSize_0 ?_
  refine v_bipush C (v := 14) (by decide) dX9_flameSize_1 ?_
  refine v_cvIv C (d := 0) (hR.le (by omega)) (c := 9) rfl cv_X9_335 (by decide) ht (by decide) [.int 14] rfl (fun _ hc => s_X9_began G Z hG hZ   ht hc) (Nat.le_of_ble_eq_true rfl) dX9_flameSize_3 rfl (fun ν1 => ?_)
  refine v_aload_n C (n := 0) rfl rfl dX9_flameSize_6 ?_
  refine v_bipush C (v := 10) (by decide) dX9_flameSize_7 ?_
  refine v_cvIv C (d := 0) (hR.le (by omega)) (c := 9) rfl cv_X9_335 (by decide) ht (by decide) [.int 10] rfl (fun _ hc => s_X9_began G Z hG hZ   ht hc) (Nat.le_of_ble_eq_true rfl) dX9_flameSize_9 rfl (fun ν2 => ?_)
  refine v_aload_n C (n := 0) rfl rfl dX9_flameSize_12 ?_
  refine v_getr C (t := 20) fl_X9_19 rfl rfl ht dX9_flameSize_13 (fun h3 => ?_)
  refine v_iconst C (v := 4) (by decide) dX9_flameSize_16 ?_
  refine v_iload_n C (n := 1) rfl rfl dX9_flameSize_17 ?_
  refine v_imul C dX9_flameSize_18 ?_
  refine v_iconst C (v := 2) (by decide) dX9_flameSize_19 ?_
  refine v_iadd C dX9_flameSize_20 ?_
  refine v_iald C h3.oa dX9_flameSize_21 (fun x4 => ?_)
  refine v_ineg C dX9_flameSize_22 ?_
  exact v_iret C hr dX9_flameSize_23 (fun a h => by have h := Option.some.inj h; subst h; rfl)
set_option maxRecDepth 20000 in
set_option maxHeartbeats 4000000 in
theorem s_X9_trace {l : Launch} (G : GT) (Z : ZT) (hG : DA G) (hZ : WT G Z) {this : Nat} {a0 : Int32} {μ : MT} {q : Int32 × MT} (ht : Ob G Z this 9) (hq : m_X9_trace Z this a0 μ = some q) : MZ l G Z yX9_trace cX9_trace 2 (some .int) 1 [.ref (ga G this), .int a0] μ (some (.int q.1)) q.2 := by
  refine v_met (J := (fun q : Int32 × MT => (some (.int q.1), q.2))) hG hZ (by decide) (Nat.le_of_ble_eq_true rfl) hq ?_
  intro x C hR _ hr
  show VK x G Z (0, 0) 2 (QM x G Z) (fun q : Int32 × MT => (some (.int q.1), q.2)) 0 [(0, .ref (ga G this)), (1, .int a0)] [] μ _ some
  unfold m_X9_trace
  refine v_aload_n C (n := 0) rfl rfl dX9_trace_0 ?_
  refine v_iconst C (v := 0) (by decide) dX9_trace_1 ?_
  refine v_puti C fp_X9_71 rfl rfl ht dX9_trace_2 (fun ν1 => ?_)
  refine v_iload_n C (n := 1) rfl rfl dX9_trace_5 ?_
  refine v_i2l C (v := (a0 : Int32).toInt64) rfl dX9_trace_6 ?_
  refine v_lconst C (v := 0) (by decide) dX9_trace_7 ?_
  refine v_aload_n C (n := 0) rfl rfl dX9_trace_8 ?_
  refine v_geti C fl_X9_332 rfl ht dX9_trace_9 ?_
  refine v_iconst C (v := 1) (by decide) dX9_trace_12 ?_
  refine v_isub C dX9_trace_13 ?_
  refine v_i2l C (v := ((ν1 this 42) - 1 : Int32).toInt64) rfl dX9_trace_14 ?_
  refine v_csRi C (d := 0) (hR.le (by omega)) cs_X9_81 (by decide) [.long ((a0 : Int32).toInt64), .long 0, .long (((ν1 this 42) - 1 : Int32).toInt64)] rfl (fun _ hc => s_X9_in G Z hG hZ   hc) (Nat.le_of_ble_eq_true rfl) dX9_trace_15 rfl (fun r2 => ?_)
  refine v_ifeq C (t := 30) dX9_trace_18 (by decide) ?_ ?_
  · refine v_ldc C (v := (-1000000)) (w14 52 rfl) dX9_trace_30 ?_
    exact v_iret C hr dX9_trace_32 (fun a h => by have h := Option.some.inj h; subst h; rfl)
  · refine v_aload_n C (n := 0) rfl rfl dX9_trace_21 ?_
    refine v_getr C (t := 20) fl_X9_68 rfl rfl ht dX9_trace_22 (fun h3 => ?_)
    refine v_iload_n C (n := 1) rfl rfl dX9_trace_25 ?_
    refine v_iald C h3.oa dX9_trace_26 (fun x4 => ?_)
    refine v_goto C (t := 32) (by decide) dX9_trace_27 ?_
    exact v_iret C hr dX9_trace_32 (fun a h => by have h := Option.some.inj h; subst h; rfl)
