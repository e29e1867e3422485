set_option maxRecDepth 20000 in
set_option maxHeartbeats 4000000 in
theorem s_X9_bendBy {l : Launch} (G : GT) (Z : ZT) (hG : DA G) (hZ : WT G Z) {this : Nat} {a0 : Int32} {a1 : Int32} {μ : MT} {q : Int32} (ht : Ob G Z this 9) (hq : m_X9_bendBy Z this a0 a1 μ = some q) : MZ l G Z yX9_bendBy cX9_bendBy 4 (some .int) 0 [.ref (ga G this), .int a0, .int a1] μ (some (.int q)) μ := by
  refine v_met (J := (fun r : Int32 => (some (.int r), μ))) hG hZ (by decide) (Nat.le_of_ble_eq_true rfl) hq ?_
  intro x C hR _ hr
  show VK x G Z (0, 0) 4 (QM x G Z) (fun r : Int32 => (some (.int r), μ)) 0 [(0, .ref (ga G this)), (1, .int a0), (2, .int a1)] [] μ _ some
  unfold m_X9_bendBy
  refine v_aload_n C (n := 0) rfl rfl dX9_bendBy_0 ?_
  refine v_getr C (t := 20) fl_X9_16 rfl rfl ht dX9_bendBy_1 (fun h1 => ?_)
  refine v_iload_n C (n := 1) rfl rfl dX9_bendBy_4 ?_
  refine v_iload_n C (n := 2) rfl rfl dX9_bendBy_5 ?_
  refine v_iadd C dX9_bendBy_6 ?_
  refine v_iconst C (v := 1) (by decide) dX9_bendBy_7 ?_
  refine v_iadd C dX9_bendBy_8 ?_
  refine v_iald C h1.oa dX9_bendBy_9 (fun x2 => ?_)
  refine v_aload_n C (n := 0) rfl rfl dX9_bendBy_10 ?_
  refine v_getr C (t := 20) fl_X9_16 rfl rfl ht dX9_bendBy_11 (fun h3 => ?_)
  refine v_iload_n C (n := 1) rfl rfl dX9_bendBy_14 ?_
  refine v_iload_n C (n := 2) rfl rfl dX9_bendBy_15 ?_
  refine v_iadd C dX9_bendBy_16 ?_
  refine v_iald C h3.oa dX9_bendBy_17 (fun x4 => ?_)
  refine v_isub C dX9_bendBy_18 ?_
  refine v_istore_n C (lv' := [(3, .int (x2 - x4)), (0, .ref (ga G this)), (1, .int a0), (2, .int a1)]) rfl (by decide) rfl dX9_bendBy_19 ?_
  refine v_let (y := (x2 - x4)) (fun x5 => [(3, .int x5), (0, .ref (ga G this)), (1, .int a0), (2, .int a1)]) (fun x5 => []) (fun x5 => ?_)
  refine v_iload_n C (n := 3) rfl rfl dX9_bendBy_20 ?_
  refine v_ifne C (t := 28) dX9_bendBy_21 (by decide) ?_ ?_
  · refine v_iload_n C (n := 0) rfl rfl dX9_bendBy_28 ?_
    refine v_aload_n C (n := 1) rfl rfl dX9_bendBy_29 ?_
    refine v_getr C (t := 20) fl_X9_16 rfl rfl ht dX9_bendBy_30 (fun h6 => ?_)
    refine v_iload_n C (n := 2) rfl rfl dX9_bendBy_33 ?_
    refine v_iload_n C (n := 3) rfl rfl dX9_bendBy_34 ?_
    refine v_iadd C dX9_bendBy_35 ?_
    refine v_iald C h6.oa dX9_bendBy_36 (fun x7 => ?_)
    refine v_aload_n C (n := 1) rfl rfl dX9_bendBy_37 ?_
    refine v_getr C (t := 20) fl_X9_16 rfl rfl ht dX9_bendBy_38 (fun h8 => ?_)
    refine v_iload_n C (n := 2) rfl rfl dX9_bendBy_41 ?_
    refine v_iload_n C (n := 3) rfl rfl dX9_bendBy_42 ?_
    refine v_iadd C dX9_bendBy_43 ?_
    refine v_iconst C (v := 1) (by decide) dX9_bendBy_44 ?_
    refine v_isub C dX9_bendBy_45 ?_
    refine v_iald C h8.oa dX9_bendBy_46 (fun x9 => ?_)
    refine v_isub C dX9_bendBy_47 ?_
    refine v_isub C dX9_bendBy_48 ?_
    exact v_iret C hr dX9_bendBy_49 (fun a h => by have h := Option.some.inj h; subst h; rfl)
  · refine v_iload_n C (n := 0) rfl rfl dX9_bendBy_24 ?_
    refine v_goto C (t := 49) (by decide) dX9_bendBy_25 ?_
    exact v_iret C hr dX9_bendBy_49 (fun a h => by have h := Option.some.inj h; subst h; rfl)
set_option maxRecDepth 20000 in
set_option maxHeartbeats 4000000 in
theorem s_X9_began {l : Launch} (G : GT) (Z : ZT) (hG : DA G) (hZ : WT G Z) {this : Nat} {a0 : Int32} {μ : MT} {q : MT} (ht : Ob G Z this 9) (hq : m_X9_began Z this a0 μ = some q) : MZ l G Z yX9_began cX9_began 2 none 0 [.ref (ga G this), .int a0] μ none q := by
  refine v_met (J := (fun ν : MT => ((none : Option Value), ν))) hG hZ (by decide) (Nat.le_of_ble_eq_true rfl) hq ?_
  intro x C hR _ hr
  show VK x G Z (0, 0) 2 (QM x G Z) (fun ν : MT => ((none : Option Value), ν)) 0 [(0, .ref (ga G this)), (1, .int a0)] [] μ _ some
  unfold m_X9_began
  refine v_aload_n C (n := 0) rfl rfl dX9_began_0 ?_
  refine v_geti C fl_X9_332 rfl ht dX9_began_1 ?_
  refine v_bipush C (v := 16) (by decide) dX9_began_4 ?_
  refine v_icge C (t := 29) dX9_began_6 (by decide) ?_ ?_
  · exact v_vret C hr dX9_began_29 (fun a h => by have h := Option.some.inj h; subst h; rfl)
  · refine v_aload_n C (n := 0) rfl rfl dX9_began_9 ?_
    refine v_getr C (t := 20) fl_X9_68 rfl rfl ht dX9_began_10 (fun h1 => ?_)
    refine v_aload_n C (n := 0) rfl rfl dX9_began_13 ?_
    refine v_geti C fl_X9_332 rfl ht dX9_began_14 ?_
    refine v_iload_n C (n := 1) rfl rfl dX9_began_17 ?_
    refine v_iast C h1 dX9_began_18 (fun ν2 => ?_)
    refine v_aload_n C (n := 0) rfl rfl dX9_began_19 ?_
    refine v_dup C rfl dX9_began_20 ?_
    refine v_geti C fl_X9_332 rfl ht dX9_began_21 ?_
    refine v_iconst C (v := 1) (by decide) dX9_began_24 ?_
    refine v_iadd C dX9_began_25 ?_
    refine v_puti C fp_X9_332 rfl rfl ht dX9_began_26 (fun ν3 => ?_)
    exact v_vret C hr dX9_began_29 (fun a h => by have h := Option.some.inj h; subst h; rfl)
set_option maxRecDepth 20000 in
set_option maxHeartbeats 4000000 in
theorem s_X9_count {l : Launch} (G : GT) (Z : ZT) (hG : DA G) (hZ : WT G Z) {this : Nat} {a0 : Int32} {μ : MT} {q : Int32 × MT} (ht : Ob G Z this 9) (hq : m_X9_count Z this a0 μ = some q) : MZ l G Z yX9_count cX9_count 4 (some .int) 0 [.ref (ga G this), .int a0] μ (some (.int q.1)) q.2 := by
  refine v_met (J := (fun q : Int32 × MT => (some (.int q.1), q.2))) hG hZ (by decide) (Nat.le_of_ble_eq_true rfl) hq ?_
  intro x C hR _ hr
  show VK x G Z (0, 0) 4 (QM x G Z) (fun q : Int32 × MT => (some (.int q.1), q.2)) 0 [(0, .ref (ga G this)), (1, .int a0)] [] μ _ some
  unfold m_X9_count
  refine v_aload_n C (n := 0) rfl rfl dX9_count_0 ?_
  refine v_iconst C (v := 0) (by decide) dX9_count_1 ?_
  refine v_puti C fp_X9_71 rfl rfl ht dX9_count_2 (fun ν1 => ?_)
  refine v_iconst C (v := 0) (by decide) dX9_count_5 ?_
  refine v_istore_n C (lv' := [(2, .int 0), (0, .ref (ga G this)), (1, .int a0)]) rfl (by decide) rfl dX9_count_6 ?_
  refine v_iload_n C (n := 2) rfl rfl dX9_count_7 ?_
  refine v_case (fun c2 => ?_) (fun c2 => ?_)
  · refine v_tin C (t := 48) (k := 0) c2 dX9_count_8 (by decide) (by decide) rfl (by decide) ?_
    refine v_iconst C (v := 0) (by decide) dX9_count_48 ?_
    refine v_istore_n C (lv' := [(3, .int 0), (2, .int 0), (0, .ref (ga G this)), (1, .int a0)]) rfl (by decide) rfl dX9_count_49 ?_
    refine v_sub (lv' := [(0, .ref (ga G this)), (2, .int 0), (3, .int 0)]) [2, 1, 0] rfl ?_
    refine v_lp 50 79 (fun t : Int32 × Int32 => [(0, .ref (ga G this)), (2, .int (t.1)), (3, .int (t.2))]) (fun t : Int32 × Int32 => ν1) (fun t : Int32 => [(2, .int t)]) (fun t : Int32 => ν1) ?_ ?_ LN (0, 0)
    · intro y5
      refine v_iload_n C (n := 0) rfl rfl dX9_count_79 ?_
      exact v_iret C hr dX9_count_80 (fun a h => by have h := Option.some.inj h; subst h; rfl)
    · intro X6 F8 hX7 hF9
      rintro ⟨y3, y4⟩
      refine v_iload_n C (n := 2) rfl rfl dX9_count_50 ?_
      refine v_bipush C (v := 8) (by decide) dX9_count_51 ?_
      refine v_icge C (t := 79) dX9_count_53 (by decide) ?_ ?_
      · refine v_sub (lv' := [(2, .int y3)]) [1] rfl ?_
        exact v_leaf (hF9 y3)
      · refine v_iload_n C (n := 1) rfl rfl dX9_count_56 ?_
        refine v_aload_n C (n := 0) rfl rfl dX9_count_57 ?_
        refine v_getr C (t := 20) fl_X9_7 rfl rfl ht dX9_count_58 (fun h10 => ?_)
        refine v_iload_n C (n := 2) rfl rfl dX9_count_61 ?_
        refine v_iald C h10.oa dX9_count_62 (fun x11 => ?_)
        refine v_join 71 (fun t : Int32 => [(0, .ref (ga G this)), (3, .int y4)]) (fun t : Int32 => [.int t, .int y3]) (fun t : Int32 => ν1) ?_ ?_
        · intro z12
          refine v_iadd C dX9_count_71 ?_
          refine v_istore_n C (lv' := [(2, .int (y3 + z12)), (0, .ref (ga G this)), (3, .int y4)]) rfl (by decide) rfl dX9_count_72 ?_
          refine v_let (y := (y3 + z12)) (fun x15 => [(2, .int x15), (0, .ref (ga G this)), (3, .int y4)]) (fun x15 => []) (fun x15 => ?_)
          refine v_iinc C (n := 2) (v := y4 + 1) (lv' := [(3, .int (y4 + 1)), (2, .int x15), (0, .ref (ga G this))]) rfl (congrArg (y4 + ·) (by decide : Int32.ofInt (1) = (1 : Int32))) (by decide) rfl dX9_count_73 ?_
          refine v_let (y := y4 + 1) (fun x16 => [(3, .int x16), (2, .int x15), (0, .ref (ga G this))]) (fun x16 => []) (fun x16 => ?_)
          refine v_goto C (t := 50) (by decide) dX9_count_76 ?_
          refine v_sub (lv' := [(0, .ref (ga G this)), (2, .int x15), (3, .int x16)]) [2, 1, 0] rfl ?_
          exact v_leaf (hX7 (x15, x16))
        intro F14 hF13
        refine v_iflt C (t := 70) dX9_count_63 (by decide) ?_ ?_
        · refine v_iconst C (v := 0) (by decide) dX9_count_70 ?_
          refine v_sub (lv' := [(0, .ref (ga G this)), (3, .int y4)]) [0, 2] rfl ?_
          exact v_leaf (hF13 0)
        · refine v_iconst C (v := 1) (by decide) dX9_count_66 ?_
          refine v_goto C (t := 71) (by decide) dX9_count_67 ?_
          refine v_sub (lv' := [(0, .ref (ga G this)), (3, .int y4)]) [0, 2] rfl ?_
          exact v_leaf (hF13 1)
  refine v_case (fun c17 => ?_) (fun c17 => ?_)
  · refine v_tin C (t := 81) (k := 1) c17 dX9_count_8 (by decide) (by decide) rfl (by decide) ?_
    refine v_aload_n C (n := 1) rfl rfl dX9_count_81 ?_
    refine v_geti C fl_X9_212 rfl ht dX9_count_82 ?_
    exact v_iret C hr dX9_count_85 (fun a h => by have h := Option.some.inj h; subst h; rfl)
  refine v_case (fun c18 => ?_) (fun c18 => ?_)
  · refine v_tin C (t := 86) (k := 2) c18 dX9_count_8 (by decide) (by decide) rfl (by decide) ?_
    refine v_aload_n C (n := 1) rfl rfl dX9_count_86 ?_
    refine v_geti C fl_X9_215 rfl ht dX9_count_87 ?_
    exact v_iret C hr dX9_count_90 (fun a h => by have h := Option.some.inj h; subst h; rfl)
  refine v_case (fun c19 => ?_) (fun c19 => ?_)
  · refine v_tin C (t := 91) (k := 3) c19 dX9_count_8 (by decide) (by decide) rfl (by decide) ?_
    refine v_aload_n C (n := 1) rfl rfl dX9_count_91 ?_
    refine v_geti C fl_X9_218 rfl ht dX9_count_92 ?_
    exact v_iret C hr dX9_count_95 (fun a h => by have h := Option.some.inj h; subst h; rfl)
  refine v_case (fun c20 => ?_) (fun c20 => ?_)
  · refine v_tin C (t := 96) (k := 4) c20 dX9_count_8 (by decide) (by decide) rfl (by decide) ?_
    refine v_aload_n C (n := 1) rfl rfl dX9_count_96 ?_
    refine v_geti C fl_X9_221 rfl ht dX9_count_97 ?_
    exact v_iret C hr dX9_count_100 (fun a h => by have h := Option.some.inj h; subst h; rfl)
  refine v_case (fun c21 => ?_) (fun c21 => ?_)
  · refine v_tin C (t := 101) (k := 5) c21 dX9_count_8 (by decide) (by decide) rfl (by decide) ?_
    refine v_aload_n C (n := 1) rfl rfl dX9_count_101 ?_
    refine v_geti C fl_X9_98 rfl ht dX9_count_102 ?_
    exact v_iret C hr dX9_count_105 (fun a h => by have h := Option.some.inj h; subst h; rfl)
  have nc2 := lv_neT (k := 0) (a := 0) c2 (by decide)
  have nc17 := lv_neT (k := 1) (a := 1) c17 (by decide)
  have nc18 := lv_neT (k := 2) (a := 2) c18 (by decide)
  have nc19 := lv_neT (k := 3) (a := 3) c19 (by decide)
  have nc20 := lv_neT (k := 4) (a := 4) c20 (by decide)
  have nc21 := lv_neT (k := 5) (a := 5) c21 (by decide)
  refine v_tout C (t := 106) dX9_count_8 (by omega) (by decide) ?_
  refine v_ldc C (v := (-1000001)) (w14 18 rfl) dX9_count_106 ?_
  exact v_iret C hr dX9_count_108 (fun a h => by have h := Option.some.inj h; subst h; rfl)
set_option maxRecDepth 20000 in
set_option maxHeartbeats 4000000 in
theorem s_X9_status {l : Launch} (G : GT) (Z : ZT) (hG : DA G) (hZ : WT G Z) {this : Nat} {μ : MT} {q : Int32 × MT} (ht : Ob G Z this 9) (hq : m_X9_status Z this μ = some q) : MZ l G Z yX9_status cX9_status 1 (some .int) 0 [.ref (ga G this)] μ (some (.int q.1)) q.2 := by
  refine v_met (J := (fun q : Int32 × MT => (some (.int q.1), q.2))) hG hZ (by decide) (Nat.le_of_ble_eq_true rfl) hq ?_
  intro x C hR _ hr
  show VK x G Z (0, 0) 1 (QM x G Z) (fun q : Int32 × MT => (some (.int q.1), q.2)) 0 [(0, .ref (ga G this))] [] μ _ some
  unfold m_X9_status
  refine v_aload_n C (n := 0) rfl rfl dX9_status_0 ?_
  refine v_iconst C (v := 0) (by decide) dX9_status_1 ?_
  refine v_puti C fp_X9_71 rfl rfl ht dX9_status_2 (fun ν1 => ?_)
  refine v_aload_n C (n := 0) rfl rfl dX9_status_5 ?_
  refine v_geti C fl_X9_75 rfl ht dX9_status_6 ?_
  exact v_iret C hr dX9_status_9 (fun a h => by have h := Option.some.inj h; subst h; rfl)
set_option maxRecDepth 20000 in
set_option maxHeartbeats 4000000 in
theorem s_J6_bitCount_0f7a4 {l : Launch} (G : GT) (Z : ZT) (hG : DA G) (hZ : WT G Z) {a0 : Int32} {μ : MT} {q : Int32}  (hq : m_J6_bitCount_0f7a4 Z a0 μ = some q) : MZ l G Z yJ6_bitCount_0f7a4 cJ6_bitCount_0f7a4 1 (some .int) 0 [.int a0] μ (some (.int q)) μ := by
  refine v_met (J := (fun r : Int32 => (some (.int r), μ))) hG hZ (by decide) (Nat.le_of_ble_eq_true rfl) hq ?_
  intro x C hR _ hr
  show VK x G Z (0, 0) 1 (QM x G Z) (fun r : Int32 => (some (.int r), μ)) 0 [(0, .int a0)] [] μ _ some
  unfold m_J6_bitCount_0f7a4
  refine v_iload_n C (n := 0) rfl rfl dJ6_bitCount_0f7a4_0 ?_
  refine v_iload_n C (n := 0) rfl rfl dJ6_bitCount_0f7a4_1 ?_
  refine v_iconst C (v := 1) (by decide) dJ6_bitCount_0f7a4_2 ?_
  refine v_iushr C (v := (a0.toUInt32 >>> ((1 : Int32).toUInt32 &&& Int32.toUInt32 31)).toInt32) rfl dJ6_bitCount_0f7a4_3 ?_
  refine v_ldcw C (v := 1431655765) (w10 62 rfl) dJ6_bitCount_0f7a4_4 ?_
  refine v_iand C dJ6_bitCount_0f7a4_7 ?_
  refine v_isub C dJ6_bitCount_0f7a4_8 ?_
  refine v_istore_n C (lv' := [(0, .int (a0 - (((a0.toUInt32 >>> ((1 : Int32).toUInt32 &&& Int32.toUInt32 31)).toInt32) &&& 1431655765)))]) rfl (by decide) rfl dJ6_bitCount_0f7a4_9 ?_
  refine v_let (y := (a0 - (((a0.toUInt32 >>> ((1 : Int32).toUInt32 &&& Int32.toUInt32 31)).toInt32) &&& 1431655765))) (fun x1 => [(0, .int x1)]) (fun x1 => []) (fun x1 => ?_)
  refine v_iload_n C (n := 0) rfl rfl dJ6_bitCount_0f7a4_10 ?_
  refine v_ldcw C (v := 858993459) (w10 63 rfl) dJ6_bitCount_0f7a4_11 ?_
  refine v_iand C dJ6_bitCount_0f7a4_14 ?_
  refine v_iload_n C (n := 0) rfl rfl dJ6_bitCount_0f7a4_15 ?_
  refine v_iconst C (v := 2) (by decide) dJ6_bitCount_0f7a4_16 ?_
  refine v_iushr C (v := (x1.toUInt32 >>> ((2 : Int32).toUInt32 &&& Int32.toUInt32 31)).toInt32) rfl dJ6_bitCount_0f7a4_17 ?_
  refine v_ldcw C (v := 858993459) (w10 63 rfl) dJ6_bitCount_0f7a4_18 ?_
  refine v_iand C dJ6_bitCount_0f7a4_21 ?_
  refine v_iadd C dJ6_bitCount_0f7a4_22 ?_
  refine v_istore_n C (lv' := [(0, .int ((x1 &&& 858993459) + (((x1.toUInt32 >>> ((2 : Int32).toUInt32 &&& Int32.toUInt32 31)).toInt32) &&& 858993459)))]) rfl (by decide) rfl dJ6_bitCount_0f7a4_23 ?_
  refine v_let (y := ((x1 &&& 858993459) + (((x1.toUInt32 >>> ((2 : Int32).toUInt32 &&& Int32.toUInt32 31)).toInt32) &&& 858993459))) (fun x2 => [(0, .int x2)]) (fun x2 => []) (fun x2 => ?_)
  refine v_iload_n C (n := 0) rfl rfl dJ6_bitCount_0f7a4_24 ?_
  refine v_iload_n C (n := 0) rfl rfl dJ6_bitCount_0f7a4_25 ?_
  refine v_iconst C (v := 4) (by decide) dJ6_bitCount_0f7a4_26 ?_
  refine v_iushr C (v := (x2.toUInt32 >>> ((4 : Int32).toUInt32 &&& Int32.toUInt32 31)).toInt32) rfl dJ6_bitCount_0f7a4_27 ?_
  refine v_iadd C dJ6_bitCount_0f7a4_28 ?_
  refine v_ldcw C (v := 252645135) (w11 0 rfl) dJ6_bitCount_0f7a4_29 ?_
  refine v_iand C dJ6_bitCount_0f7a4_32 ?_
  refine v_istore_n C (lv' := [(0, .int ((x2 + ((x2.toUInt32 >>> ((4 : Int32).toUInt32 &&& Int32.toUInt32 31)).toInt32)) &&& 252645135))]) rfl (by decide) rfl dJ6_bitCount_0f7a4_33 ?_
  refine v_let (y := ((x2 + ((x2.toUInt32 >>> ((4 : Int32).toUInt32 &&& Int32.toUInt32 31)).toInt32)) &&& 252645135)) (fun x3 => [(0, .int x3)]) (fun x3 => []) (fun x3 => ?_)
  refine v_iload_n C (n := 0) rfl rfl dJ6_bitCount_0f7a4_34 ?_
  refine v_iload_n C (n := 0) rfl rfl dJ6_bitCount_0f7a4_35 ?_
  refine v_bipush C (v := 8) (by decide) dJ6_bitCount_0f7a4_36 ?_
  refine v_iushr C (v := (x3.toUInt32 >>> ((8 : Int32).toUInt32 &&& Int32.toUInt32 31)).toInt32) rfl dJ6_bitCount_0f7a4_38 ?_
  refine v_iadd C dJ6_bitCount_0f7a4_39 ?_
  refine v_istore_n C (lv' := [(0, .int (x3 + ((x3.toUInt32 >>> ((8 : Int32).toUInt32 &&& Int32.toUInt32 31)).toInt32)))]) rfl (by decide) rfl dJ6_bitCount_0f7a4_40 ?_
  refine v_let (y := (x3 + ((x3.toUInt32 >>> ((8 : Int32).toUInt32 &&& Int32.toUInt32 31)).toInt32))) (fun x4 => [(0, .int x4)]) (fun x4 => []) (fun x4 => ?_)
  refine v_iload_n C (n := 0) rfl rfl dJ6_bitCount_0f7a4_41 ?_
  refine v_iload_n C (n := 0) rfl rfl dJ6_bitCount_0f7a4_42 ?_
  refine v_bipush C (v := 16) (by decide) dJ6_bitCount_0f7a4_43 ?_
  refine v_iushr C (v := (x4.toUInt32 >>> ((16 : Int32).toUInt32 &&& Int32.toUInt32 31)).toInt32) rfl dJ6_bitCount_0f7a4_45 ?_
  refine v_iadd C dJ6_bitCount_0f7a4_46 ?_
  refine v_istore_n C (lv' := [(0, .int (x4 + ((x4.toUInt32 >>> ((16 : Int32).toUInt32 &&& Int32.toUInt32 31)).toInt32)))]) rfl (by decide) rfl dJ6_bitCount_0f7a4_47 ?_
  refine v_let (y := (x4 + ((x4.toUInt32 >>> ((16 : Int32).toUInt32 &&& Int32.toUInt32 31)).toInt32))) (fun x5 => [(0, .int x5)]) (fun x5 => []) (fun x5 => ?_)
  refine v_iload_n C (n := 0) rfl rfl dJ6_bitCount_0f7a4_48 ?_
  refine v_bipush C (v := 63) (by decide) dJ6_bitCount_0f7a4_49 ?_
  refine v_iand C dJ6_bitCount_0f7a4_51 ?_
  exact v_iret C hr dJ6_bitCount_0f7a4_52 (fun a h => by have h := Option.some.inj h; subst h; rfl)
set_option maxRecDepth 20000 in
set_option maxHeartbeats 4000000 in
theorem s_J0_coder_7d493 {l : Launch} (G : GT) (Z : ZT) (hG : DA G) (hZ : WT G Z) {this : Nat} {μ : MT} {q : Int32} (ht : 2000 ≤ this ∧ this < 2014) (hq : m_J0_coder_7d493 Z this μ = some q) : MZ l G Z yJ0_coder_7d493 cJ0_coder_7d493 1 (some .byte) 0 [.ref (ga G this)] μ (some (.int q)) μ := by
  refine v_met (J := (fun r : Int32 => (some (.int r), μ))) hG hZ (by decide) (Nat.le_of_ble_eq_true rfl) hq ?_
  intro x C hR _ hr
  show VK x G Z (0, 0) 1 (QM x G Z) (fun r : Int32 => (some (.int r), μ)) 0 [(0, .ref (ga G this))] [] μ _ some
  unfold m_J0_coder_7d493
  refine v_compact C (w5 62 rfl) dJ0_coder_7d493_0 ?_
  refine v_ifeq C (t := 13) dJ0_coder_7d493_3 (by decide) ?_ ?_
  · refine v_iconst C (v := 1) (by decide) dJ0_coder_7d493_13 ?_
    exact v_cret C rfl hr dJ0_coder_7d493_14 (fun a h => by have h := Option.some.inj h; subst h; rfl)
  · refine v_aload_n C (n := 0) rfl rfl dJ0_coder_7d493_6 ?_
    refine v_strc C ht (w18 27 rfl) dJ0_coder_7d493_7 ?_
    refine v_goto C (t := 14) (by decide) dJ0_coder_7d493_10 ?_
    exact v_cret C rfl hr dJ0_coder_7d493_14 (fun a h => by have h := Option.some.inj h; subst h; rfl)
set_option maxRecDepth 20000 in
set_option maxHeartbeats 4000000 in
theorem s_J0_isLatin1_aae02 {l : Launch} (G : GT) (Z : ZT) (hG : DA G) (hZ : WT G Z) {this : Nat} {μ : MT} {q : Int32} (ht : 2000 ≤ this ∧ this < 2014) (hq : m_J0_isLatin1_aae02 Z this μ = some q) : MZ l G Z yJ0_isLatin1_aae02 cJ0_isLatin1_aae02 1 (some .boolean) 0 [.ref (ga G this)] μ (some (.int q)) μ := by
  refine v_met (J := (fun r : Int32 => (some (.int r), μ))) hG hZ (by decide) (Nat.le_of_ble_eq_true rfl) hq ?_
  intro x C hR _ hr
  show VK x G Z (0, 0) 1 (QM x G Z) (fun r : Int32 => (some (.int r), μ)) 0 [(0, .ref (ga G this))] [] μ _ some
  unfold m_J0_isLatin1_aae02
  refine v_compact C (w5 62 rfl) dJ0_isLatin1_aae02_0 ?_
  refine v_ifeq C (t := 17) dJ0_isLatin1_aae02_3 (by decide) ?_ ?_
  · refine v_iconst C (v := 0) (by decide) dJ0_isLatin1_aae02_17 ?_
    exact v_zret C (Or.inl rfl) hr dJ0_isLatin1_aae02_18 (fun a h => by have h := Option.some.inj h; subst h; rfl)
  · refine v_aload_n C (n := 0) rfl rfl dJ0_isLatin1_aae02_6 ?_
    refine v_strc C ht (w18 27 rfl) dJ0_isLatin1_aae02_7 ?_
    refine v_ifne C (t := 17) dJ0_isLatin1_aae02_10 (by decide) ?_ ?_
    · refine v_iconst C (v := 0) (by decide) dJ0_isLatin1_aae02_17 ?_
      exact v_zret C (Or.inl rfl) hr dJ0_isLatin1_aae02_18 (fun a h => by have h := Option.some.inj h; subst h; rfl)
    · refine v_iconst C (v := 1) (by decide) dJ0_isLatin1_aae02_13 ?_
      refine v_goto C (t := 18) (by decide) dJ0_isLatin1_aae02_14 ?_
      exact v_zret C (Or.inr rfl) hr dJ0_isLatin1_aae02_18 (fun a h => by have h := Option.some.inj h; subst h; rfl)
set_option maxRecDepth 20000 in
set_option maxHeartbeats 4000000 in
theorem s_J1_charAt_3b067 {l : Launch} (G : GT) (Z : ZT) (hG : DA G) (hZ : WT G Z) {a0 : Nat} {a1 : Int32} {μ : MT} {q : Int32} (ha0 : 2100 ≤ a0 ∧ a0 < 2114) (hq : m_J1_charAt_3b067 Z a0 a1 μ = some q) : MZ l G Z yJ1_charAt_3b067 cJ1_charAt_3b067 2 (some .char) 2 [.ref (ga G a0), .int a1] μ (some (.int q)) μ := by
  refine v_met (J := (fun r : Int32 => (some (.int r), μ))) hG hZ (by decide) (Nat.le_of_ble_eq_true rfl) hq ?_
  intro x C hR _ hr
  show VK x G Z (0, 0) 2 (QM x G Z) (fun r : Int32 => (some (.int r), μ)) 0 [(0, .ref (ga G a0)), (1, .int a1)] [] μ _ some
  unfold m_J1_charAt_3b067
  refine v_iload_n C (n := 1) rfl rfl dJ1_charAt_3b067_0 ?_
  refine v_aload_n C (n := 0) rfl rfl dJ1_charAt_3b067_1 ?_
  refine v_strl C ha0 dJ1_charAt_3b067_2 ?_
  refine v_csRv C (d := 1) (hR.le (by omega)) cs_J1_9 (by decide) [.int a1, .int (Int32.ofNat (slen a0))] rfl (fun _ hc => s_J0_checkIndex_df160 G Z hG hZ   hc) (Nat.le_of_ble_eq_true rfl) dJ1_charAt_3b067_3 rfl (fun _ => ?_)
  refine v_aload_n C (n := 0) rfl rfl dJ1_charAt_3b067_6 ?_
  refine v_iload_n C (n := 1) rfl rfl dJ1_charAt_3b067_7 ?_
  refine v_strb C ha0 dJ1_charAt_3b067_8 (fun x1 => ?_)
  refine v_sipush C (v := 255) (by decide) dJ1_charAt_3b067_9 ?_
  refine v_iand C dJ1_charAt_3b067_12 ?_
  refine v_i2c C (v := ((x1 &&& 255).toUInt32 % 65536).toInt32) rfl dJ1_charAt_3b067_13 ?_
  exact v_cret C (pk_nc _) hr dJ1_charAt_3b067_14 (fun a h => by have h := Option.some.inj h; subst h; rfl)
set_option maxRecDepth 20000 in
set_option maxHeartbeats 4000000 in
theorem s_J7_fill_53178 {l : Launch} (G : GT) (Z : ZT) (hG : DA G) (hZ : WT G Z) {a0 : Nat} {a1 : Int32} {μ : MT} {q : MT} (ha0 : Ob G Z a0 20) (hq : m_J7_fill_53178 Z a0 a1 μ = some q) : MZ l G Z yJ7_fill_53178 cJ7_fill_53178 4 none 0 [.ref (ga G a0), .int a1] μ none q := by
  refine v_met (J := (fun ν : MT => ((none : Option Value), ν))) hG hZ (by decide) (Nat.le_of_ble_eq_true rfl) hq ?_
  intro x C hR _ hr
  show VK x G Z (0, 0) 4 (QM x G Z) (fun ν : MT => ((none : Option Value), ν)) 0 [(0, .ref (ga G a0)), (1, .int a1)] [] μ _ some
  unfold m_J7_fill_53178
  refine v_iconst C (v := 0) (by decide) dJ7_fill_53178_0 ?_
  refine v_istore_n C (lv' := [(2, .int 0), (0, .ref (ga G a0)), (1, .int a1)]) rfl (by decide) rfl dJ7_fill_53178_1 ?_
  refine v_aload_n C (n := 1) rfl rfl dJ7_fill_53178_2 ?_
  refine v_alena C ha0.oa dJ7_fill_53178_3 ?_
  refine v_istore_n C (lv' := [(3, .int (Int32.ofNat (zl Z a0))), (2, .int 0), (0, .ref (ga G a0)), (1, .int a1)]) rfl (by decide) rfl dJ7_fill_53178_4 ?_
  refine v_let (y := (Int32.ofNat (zl Z a0))) (fun x1 => [(3, .int x1), (2, .int 0), (0, .ref (ga G a0)), (1, .int a1)]) (fun x1 => []) (fun x1 => ?_)
  refine v_sub (lv' := [(0, .ref (ga G a0)), (1, .int a1), (2, .int 0), (3, .int x1)]) [2, 3, 1, 0] rfl ?_
  refine v_lp 5 20 (fun t : Int32 × MT => [(0, .ref (ga G a0)), (1, .int a1), (2, .int (t.1)), (3, .int x1)]) (fun t : Int32 × MT => t.2) (fun t : MT => []) (fun t : MT => t) ?_ ?_ LN (0, μ)
  · intro ν4
    exact v_vret C hr dJ7_fill_53178_20 (fun a h => by have h := Option.some.inj h; subst h; rfl)
  · intro X5 F7 hX6 hF8
    rintro ⟨y2, ν3⟩
    refine v_iload_n C (n := 2) rfl rfl dJ7_fill_53178_5 ?_
    refine v_iload_n C (n := 3) rfl rfl dJ7_fill_53178_6 ?_
    refine v_icge C (t := 20) dJ7_fill_53178_7 (by decide) ?_ ?_
    · refine v_sub (lv' := []) [] rfl ?_
      exact v_leaf (hF8 ν3)
    · refine v_aload_n C (n := 0) rfl rfl dJ7_fill_53178_10 ?_
      refine v_iload_n C (n := 2) rfl rfl dJ7_fill_53178_11 ?_
      refine v_iload_n C (n := 1) rfl rfl dJ7_fill_53178_12 ?_
      refine v_iast C ha0 dJ7_fill_53178_13 (fun ν9 => ?_)
      refine v_iinc C (n := 2) (v := y2 + 1) (lv' := [(2, .int (y2 + 1)), (0, .ref (ga G a0)), (1, .int a1), (3, .int x1)]) rfl (congrArg (y2 + ·) (by decide : Int32.ofInt (1) = (1 : Int32))) (by decide) rfl dJ7_fill_53178_14 ?_
      refine v_let (y := y2 + 1) (fun x10 => [(2, .int x10), (0, .ref (ga G a0)), (1, .int a1), (3, .int x1)]) (fun x10 => []) (fun x10 => ?_)
      refine v_goto C (t := 5) (by decide) dJ7_fill_53178_17 ?_
      refine v_sub (lv' := [(0, .ref (ga G a0)), (1, .int a1), (2, .int x10), (3, .int x1)]) [1, 2, 0, 3] rfl ?_
      exact v_leaf (hX6 (x10, ν9))
set_option maxRecDepth 20000 in
set_option maxHeartbeats 4000000 in
theorem s_X0_isOfKind {l : Launch} (G : GT) (Z : ZT) (hG : DA G) (hZ : WT G Z) {a0 : Int32} {a1 : Int32} {μ : MT} {q : Int32}  (hq : m_X0_isOfKind Z a0 a1 μ = some q) : MZ l G Z yX0_isOfKind cX0_isOfKind 4 (some .boolean) 1 [.int a0, .int a1] μ (some (.int q)) μ := by
  refine v_met (J := (fun r : Int32 => (some (.int r), μ))) hG hZ (by decide) (Nat.le_of_ble_eq_true rfl) hq ?_
  intro x C hR _ hr
  show VK x G Z (0, 0) 4 (QM x G Z) (fun r : Int32 => (some (.int r), μ)) 0 [(0, .int a0), (1, .int a1)] [] μ _ some
  unfold m_X0_isOfKind
  refine v_iload_n C (n := 0) rfl rfl dX0_isOfKind_0 ?_
  refine v_istore_n C (lv' := [(2, .int a0), (0, .int a0), (1, .int a1)]) rfl (by decide) rfl dX0_isOfKind_1 ?_
  refine v_iconst C (v := 0) (by decide) dX0_isOfKind_2 ?_
  refine v_istore_n C (lv' := [(3, .int 0), (2, .int a0), (0, .int a0), (1, .int a1)]) rfl (by decide) rfl dX0_isOfKind_3 ?_
  refine v_sub (lv' := [(1, .int a1), (2, .int a0), (3, .int 0)]) [3, 1, 0] rfl ?_
  refine v_lp 4 38 (fun t : Int32 × Int32 => [(1, .int a1), (2, .int (t.1)), (3, .int (t.2))]) (fun t : Int32 × Int32 => μ) (fun t : Int32 => [(1, .int a1), (2, .int t)]) (fun t : Int32 => μ) ?_ ?_ LN (a0, 0)
  · intro y3
    refine v_iload_n C (n := 1) rfl rfl dX0_isOfKind_38 ?_
    refine v_iload_n C (n := 0) rfl rfl dX0_isOfKind_39 ?_
    refine v_icne C (t := 47) dX0_isOfKind_40 (by decide) ?_ ?_
    · refine v_iconst C (v := 0) (by decide) dX0_isOfKind_47 ?_
      exact v_zret C (Or.inl rfl) hr dX0_isOfKind_48 (fun a h => by have h := Option.some.inj h; subst h; rfl)
    · refine v_iconst C (v := 1) (by decide) dX0_isOfKind_43 ?_
      refine v_goto C (t := 48) (by decide) dX0_isOfKind_44 ?_
      exact v_zret C (Or.inr rfl) hr dX0_isOfKind_48 (fun a h => by have h := Option.some.inj h; subst h; rfl)
  · intro X4 F6 hX5 hF7
    rintro ⟨y1, y2⟩
    refine v_iload_n C (n := 2) rfl rfl dX0_isOfKind_4 ?_
    refine v_bipush C (v := 8) (by decide) dX0_isOfKind_5 ?_
    refine v_icge C (t := 38) dX0_isOfKind_7 (by decide) ?_ ?_
    · refine v_sub (lv' := [(1, .int a1), (2, .int y1)]) [0, 1] rfl ?_
      exact v_leaf (hF7 y1)
    · refine v_iload_n C (n := 1) rfl rfl dX0_isOfKind_10 ?_
      refine v_csRi C (d := 0) (hR.le (by omega)) cs_X0_19 (by decide) [.int y1] rfl (fun _ hc => s_X0_hasKind G Z hG hZ   hc) (Nat.le_of_ble_eq_true rfl) dX0_isOfKind_11 rfl (fun r8 => ?_)
      refine v_ifeq C (t := 38) dX0_isOfKind_14 (by decide) ?_ ?_
      · refine v_sub (lv' := [(1, .int a1), (2, .int y1)]) [0, 1] rfl ?_
        exact v_leaf (hF7 y1)
      · refine v_iload_n C (n := 1) rfl rfl dX0_isOfKind_17 ?_
        refine v_ifeq C (t := 38) dX0_isOfKind_18 (by decide) ?_ ?_
        · refine v_sub (lv' := [(1, .int a1), (2, .int y1)]) [0, 1] rfl ?_
          exact v_leaf (hF7 y1)
        · refine v_iload_n C (n := 1) rfl rfl dX0_isOfKind_21 ?_
          refine v_iload_n C (n := 0) rfl rfl dX0_isOfKind_22 ?_
          refine v_iceq C (t := 38) dX0_isOfKind_23 (by decide) ?_ ?_
          · refine v_sub (lv' := [(1, .int a1), (2, .int y1)]) [0, 1] rfl ?_
            exact v_leaf (hF7 y1)
          · refine v_gets C (k := 1001) C.2.2.2.2.2.2.1.2.1 (w11 60 rfl) dX0_isOfKind_26 ?_
            refine v_iload_n C (n := 1) rfl rfl dX0_isOfKind_29 ?_
            refine v_iald C (C.2.2.2.2.2.2.2.2.1.2.2.2.2 1 (by decide)) dX0_isOfKind_30 (fun x9 => ?_)
            refine v_istore_n C (lv' := [(2, .int x9), (1, .int a1), (3, .int y2)]) rfl (by decide) rfl dX0_isOfKind_31 ?_
            refine v_iinc C (n := 2) (v := y2 + 1) (lv' := [(3, .int (y2 + 1)), (2, .int x9), (1, .int a1)]) rfl (congrArg (y2 + ·) (by decide : Int32.ofInt (1) = (1 : Int32))) (by decide) rfl dX0_isOfKind_32 ?_
            refine v_let (y := y2 + 1) (fun x10 => [(3, .int x10), (2, .int x9), (1, .int a1)]) (fun x10 => []) (fun x10 => ?_)
            refine v_goto C (t := 4) (by decide) dX0_isOfKind_35 ?_
            refine v_sub (lv' := [(1, .int a1), (2, .int x9), (3, .int x10)]) [2, 1, 0] rfl ?_
            exact v_leaf (hX5 (x9, x10))
set_option maxRecDepth 20000 in
set_option maxHeartbeats 4000000 in
theorem s_X0_bodyFor {l : Launch} (G : GT) (Z : ZT) (hG : DA G) (hZ : WT G Z) {a0 : Int32} {a1 : Int32} {μ : MT} {q : Int32}  (hq : m_X0_bodyFor Z a0 a1 μ = some q) : MZ l G Z yX0_bodyFor cX0_bodyFor 5 (some .int) 1 [.int a0, .int a1] μ (some (.int q)) μ := by
  refine v_met (J := (fun r : Int32 => (some (.int r), μ))) hG hZ (by decide) (Nat.le_of_ble_eq_true rfl) hq ?_
  intro x C hR _ hr
  show VK x G Z (0, 0) 5 (QM x G Z) (fun r : Int32 => (some (.int r), μ)) 0 [(0, .int a0), (1, .int a1)] [] μ _ some
  unfold m_X0_bodyFor
  refine v_iload_n C (n := 0) rfl rfl dX0_bodyFor_0 ?_
  refine v_istore_n C (lv' := [(2, .int a0), (0, .int a0), (1, .int a1)]) rfl (by decide) rfl dX0_bodyFor_1 ?_
  refine v_iconst C (v := 0) (by decide) dX0_bodyFor_2 ?_
  refine v_istore_n C (lv' := [(3, .int 0), (2, .int a0), (0, .int a0), (1, .int a1)]) rfl (by decide) rfl dX0_bodyFor_3 ?_
  refine v_sub (lv' := [(1, .int a1), (2, .int a0), (3, .int 0)]) [3, 1, 0] rfl ?_
  refine v_lpm 4 60 (fun t : Int32 × Int32 => [(1, .int a1), (2, .int (t.1)), (3, .int (t.2))]) (fun t : Int32 × Int32 => μ) (fun t : Unit => [(1, .int a1)]) (fun t : Unit => μ) ?_ ?_ LN (a0, 0)
  · rintro ⟨⟩
    refine v_iload_n C (n := 0) rfl rfl dX0_bodyFor_60 ?_
    refine v_ifne C (t := 69) dX0_bodyFor_61 (by decide) ?_ ?_
    · refine v_bipush C (v := 20) (by decide) dX0_bodyFor_69 ?_
      exact v_iret C hr dX0_bodyFor_71 (fun a h => by have h := Option.some.inj h; subst h; rfl)
    · refine v_bipush C (v := 10) (by decide) dX0_bodyFor_64 ?_
      refine v_goto C (t := 71) (by decide) dX0_bodyFor_66 ?_
      exact v_iret C hr dX0_bodyFor_71 (fun a h => by have h := Option.some.inj h; subst h; rfl)
  · intro X3 F5 e7 hX4 hF6
    rintro ⟨y1, y2⟩
    refine v_iload_n C (n := 2) rfl rfl dX0_bodyFor_4 ?_
    refine v_bipush C (v := 8) (by decide) dX0_bodyFor_5 ?_
    refine v_icge C (t := 60) dX0_bodyFor_7 (by decide) ?_ ?_
    · refine v_sub (lv' := [(1, .int a1)]) [0] rfl ?_
      exact v_leaf (hF6 ())
    · refine v_iload_n C (n := 1) rfl rfl dX0_bodyFor_10 ?_
      refine v_csRi C (d := 0) (hR.le (by omega)) cs_X0_19 (by decide) [.int y1] rfl (fun _ hc => s_X0_hasKind G Z hG hZ   hc) (Nat.le_of_ble_eq_true rfl) dX0_bodyFor_11 rfl (fun r8 => ?_)
      refine v_ifeq C (t := 60) dX0_bodyFor_14 (by decide) ?_ ?_
      · refine v_sub (lv' := [(1, .int a1)]) [0] rfl ?_
        exact v_leaf (hF6 ())
      · refine v_iload_n C (n := 1) rfl rfl dX0_bodyFor_17 ?_
        refine v_ifeq C (t := 60) dX0_bodyFor_18 (by decide) ?_ ?_
        · refine v_sub (lv' := [(1, .int a1)]) [0] rfl ?_
          exact v_leaf (hF6 ())
        · refine v_iload_n C (n := 0) rfl rfl dX0_bodyFor_21 ?_
          refine v_join 38 (fun t : Int32 => [(1, .int a1), (2, .int y1), (3, .int y2)]) (fun t : Int32 => [.int t]) (fun t : Int32 => μ) ?_ ?_
          · intro z9
            refine v_istore C (lv' := [(4, .int z9), (1, .int a1), (2, .int y1), (3, .int y2)]) (by decide) rfl dX0_bodyFor_38 ?_
            refine v_iload C (n := 0) rfl dX0_bodyFor_40 ?_
            refine v_ifeq C (t := 48) dX0_bodyFor_42 (by decide) ?_ ?_
            · refine v_gets C (k := 1001) C.2.2.2.2.2.2.1.2.1 (w11 60 rfl) dX0_bodyFor_48 ?_
              refine v_iload_n C (n := 2) rfl rfl dX0_bodyFor_51 ?_
              refine v_iald C (C.2.2.2.2.2.2.2.2.1.2.2.2.2 1 (by decide)) dX0_bodyFor_52 (fun x12 => ?_)
              refine v_istore_n C (lv' := [(2, .int x12), (4, .int z9), (1, .int a1), (3, .int y2)]) rfl (by decide) rfl dX0_bodyFor_53 ?_
              refine v_iinc C (n := 3) (v := y2 + 1) (lv' := [(3, .int (y2 + 1)), (2, .int x12), (4, .int z9), (1, .int a1)]) rfl (congrArg (y2 + ·) (by decide : Int32.ofInt (1) = (1 : Int32))) (by decide) rfl dX0_bodyFor_54 ?_
              refine v_let (y := y2 + 1) (fun x13 => [(3, .int x13), (2, .int x12), (4, .int z9), (1, .int a1)]) (fun x13 => []) (fun x13 => ?_)
              refine v_goto C (t := 4) (by decide) dX0_bodyFor_57 ?_
              refine v_sub (lv' := [(1, .int a1), (2, .int x12), (3, .int x13)]) [3, 1, 0] rfl ?_
              exact v_leaf (hX4 (x12, x13))
            · refine v_iload C (n := 0) rfl dX0_bodyFor_45 ?_
              exact v_iret C hr dX0_bodyFor_47 (fun a h => by simp only [ob_s, lq, e7] at h; have h := Option.some.inj h; subst h; rfl)
          intro F11 hF10
          refine v_ifne C (t := 33) dX0_bodyFor_22 (by decide) ?_ ?_
          · refine v_gets C (k := 1003) C.2.2.2.2.2.2.1.2.2.2.1 (w12 13 rfl) dX0_bodyFor_33 ?_
            refine v_iload_n C (n := 1) rfl rfl dX0_bodyFor_36 ?_
            refine v_iald C (C.2.2.2.2.2.2.2.2.1.2.2.2.2 3 (by decide)) dX0_bodyFor_37 (fun x14 => ?_)
            exact v_leaf (hF10 x14)
          · refine v_gets C (k := 1002) C.2.2.2.2.2.2.1.2.2.1 (w12 12 rfl) dX0_bodyFor_25 ?_
            refine v_iload_n C (n := 1) rfl rfl dX0_bodyFor_28 ?_
            refine v_iald C (C.2.2.2.2.2.2.2.2.1.2.2.2.2 2 (by decide)) dX0_bodyFor_29 (fun x15 => ?_)
            refine v_goto C (t := 38) (by decide) dX0_bodyFor_30 ?_
            exact v_leaf (hF10 x15)
set_option maxRecDepth 20000 in
set_option maxHeartbeats 4000000 in
theorem s_X2_begin {l : Launch} (G : GT) (Z : ZT) (hG : DA G) (hZ : WT G Z) {this : Nat} {a0 : Int32} {a1 : Nat} {μ : MT} {q : MT} (ht : Ob G Z this 2) (ha1 : Oa G Z a1) (hq : m_X2_begin Z this a0 a1 μ = some q) : MZ l G Z yX2_begin cX2_begin 3 none 1 [.ref (ga G this), .int a0, .ref (ga G a1)] μ none q := by
  refine v_met (J := (fun ν : MT => ((none : Option Value), ν))) hG hZ (by decide) (Nat.le_of_ble_eq_true rfl) hq ?_
  intro x C hR _ hr
  show VK x G Z (0, 0) 3 (QM x G Z) (fun ν : MT => ((none : Option Value), ν)) 0 [(0, .ref (ga G this)), (1, .int a0), (2, .ref (ga G a1))] [] μ _ some
  unfold m_X2_begin
  refine v_aload_n C (n := 0) rfl rfl dX2_begin_0 ?_
  refine v_iload_n C (n := 1) rfl rfl dX2_begin_1 ?_
  refine v_bipush C (v := 12) (by decide) dX2_begin_2 ?_
  refine v_mmin C (hR.le (by omega)) cm_X2_43 (Nat.le_of_ble_eq_true rfl) dX2_begin_4 ?_
  refine v_puti C fp_X2_34 rfl rfl ht dX2_begin_7 (fun ν1 => ?_)
  refine v_aload_n C (n := 0) rfl rfl dX2_begin_10 ?_
  refine v_iconst C (v := 0) (by decide) dX2_begin_11 ?_
  refine v_puti C fp_X2_37 rfl rfl ht dX2_begin_12 (fun ν2 => ?_)
  refine v_aload_n C (n := 0) rfl rfl dX2_begin_15 ?_
  refine v_iconst C (v := 0) (by decide) dX2_begin_16 ?_
  refine v_puti C fp_X2_40 rfl rfl ht dX2_begin_17 (fun ν3 => ?_)
  refine v_aload_n C (n := 0) rfl rfl dX2_begin_20 ?_
  refine v_iconst C (v := 0) (by decide) dX2_begin_21 ?_
  refine v_puti C fp_X2_30 rfl rfl ht dX2_begin_22 (fun ν4 => ?_)
  refine v_aload_n C (n := 0) rfl rfl dX2_begin_25 ?_
  refine v_getr C (t := 20) fl_X2_9 rfl rfl ht dX2_begin_26 (fun h5 => ?_)
  refine v_iconst C (v := 0) (by decide) dX2_begin_29 ?_
  refine v_csIv C (d := 0) (hR.le (by omega)) cs_X2_49 (by decide) [.ref (ga G (zr Z this 0)), .int 0] rfl (fun _ hc => s_J7_fill_53178 G Z hG hZ   h5 hc) (Nat.le_of_ble_eq_true rfl) dX2_begin_30 rfl (fun ν6 => ?_)
  refine v_aload_n C (n := 0) rfl rfl dX2_begin_33 ?_
  refine v_getr C (t := 20) fl_X2_15 rfl rfl ht dX2_begin_34 (fun h7 => ?_)
  refine v_iconst C (v := 0) (by decide) dX2_begin_37 ?_
  refine v_csIv C (d := 0) (hR.le (by omega)) cs_X2_49 (by decide) [.ref (ga G (zr Z this 1)), .int 0] rfl (fun _ hc => s_J7_fill_53178 G Z hG hZ   h7 hc) (Nat.le_of_ble_eq_true rfl) dX2_begin_38 rfl (fun ν8 => ?_)
  refine v_aload_n C (n := 0) rfl rfl dX2_begin_41 ?_
  refine v_getr C (t := 20) fl_X2_18 rfl rfl ht dX2_begin_42 (fun h9 => ?_)
  refine v_iconst C (v := 0) (by decide) dX2_begin_45 ?_
  refine v_csIv C (d := 0) (hR.le (by omega)) cs_X2_49 (by decide) [.ref (ga G (zr Z this 2)), .int 0] rfl (fun _ hc => s_J7_fill_53178 G Z hG hZ   h9 hc) (Nat.le_of_ble_eq_true rfl) dX2_begin_46 rfl (fun ν10 => ?_)
  refine v_aload_n C (n := 0) rfl rfl dX2_begin_49 ?_
  refine v_getr C (t := 20) fl_X2_24 rfl rfl ht dX2_begin_50 (fun h11 => ?_)
  refine v_iconst C (v := 0) (by decide) dX2_begin_53 ?_
  refine v_csIv C (d := 0) (hR.le (by omega)) cs_X2_49 (by decide) [.ref (ga G (zr Z this 4)), .int 0] rfl (fun _ hc => s_J7_fill_53178 G Z hG hZ   h11 hc) (Nat.le_of_ble_eq_true rfl) dX2_begin_54 rfl (fun ν12 => ?_)
  refine v_aload_n C (n := 0) rfl rfl dX2_begin_57 ?_
  refine v_getr C (t := 20) fl_X2_27 rfl rfl ht dX2_begin_58 (fun h13 => ?_)
  refine v_iconst C (v := 0) (by decide) dX2_begin_61 ?_
  refine v_csIv C (d := 0) (hR.le (by omega)) cs_X2_49 (by decide) [.ref (ga G (zr Z this 5)), .int 0] rfl (fun _ hc => s_J7_fill_53178 G Z hG hZ   h13 hc) (Nat.le_of_ble_eq_true rfl) dX2_begin_62 rfl (fun ν14 => ?_)
  refine v_aload_n C (n := 2) rfl rfl dX2_begin_65 ?_
  refine v_iconst C (v := 0) (by decide) dX2_begin_66 ?_
  refine v_aload_n C (n := 0) rfl rfl dX2_begin_67 ?_
  refine v_getr C (t := 20) fl_X2_21 rfl rfl ht dX2_begin_68 (fun h15 => ?_)
  refine v_iconst C (v := 0) (by decide) dX2_begin_71 ?_
  refine v_bipush C (v := 12) (by decide) dX2_begin_72 ?_
  refine v_copy C (hR.le (by omega)) cy_X2_55 ha1 h15 (Nat.le_of_ble_eq_true rfl) dX2_begin_74 (fun ν16 => ?_)
  exact v_vret C hr dX2_begin_77 (fun a h => by have h := Option.some.inj h; subst h; rfl)
set_option maxRecDepth 20000 in
set_option maxHeartbeats 4000000 in
theorem s_X2_shrinkageOf {l : Launch} (G : GT) (Z : ZT) (hG : DA G) (hZ : WT G Z) {this : Nat} {a0 : Int32} {a1 : Int32} {a2 : Int32} {μ : MT} {q : Int32} (ht : Ob G Z this 2) (hq : m_X2_shrinkageOf Z this a0 a1 a2 μ = some q) : MZ l G Z yX2_shrinkageOf cX2_shrinkageOf 5 (some .int) 1 [.ref (ga G this), .int a0, .int a1, .int a2] μ (some (.int q)) μ := by
  refine v_met (J := (fun r : Int32 => (some (.int r), μ))) hG hZ (by decide) (Nat.le_of_ble_eq_true rfl) hq ?_
  intro x C hR _ hr
  show VK x G Z (0, 0) 5 (QM x G Z) (fun r : Int32 => (some (.int r), μ)) 0 [(0, .ref (ga G this)), (1, .int a0), (2, .int a1), (3, .int a2)] [] μ _ some
  unfold m_X2_shrinkageOf
  refine v_aload_n C (n := 0) rfl rfl dX2_shrinkageOf_0 ?_
  refine v_iload_n C (n := 2) rfl rfl dX2_shrinkageOf_1 ?_
  refine v_iconst C (v := 1) (by decide) dX2_shrinkageOf_2 ?_
  refine v_iadd C dX2_shrinkageOf_3 ?_
  refine v_cvRi C (d := 0) (hR.le (by omega)) (c := 2) rfl cv_X2_125 (by decide) ht (by decide) [.int (a1 + 1)] rfl (fun _ hc => s_X2_holds G Z hG hZ   ht hc) (Nat.le_of_ble_eq_true rfl) dX2_shrinkageOf_4 rfl (fun r1 => ?_)
  refine v_join 17 (fun t : Int32 => [(0, .ref (ga G this)), (1, .int a0), (2, .int a1), (3, .int a2)]) (fun t : Int32 => [.int t]) (fun t : Int32 => μ) ?_ ?_
  · intro z2
    refine v_istore C (lv' := [(4, .int z2), (0, .ref (ga G this)), (1, .int a0), (2, .int a1), (3, .int a2)]) (by decide) rfl dX2_shrinkageOf_17 ?_
    refine v_iload_n C (n := 2) rfl rfl dX2_shrinkageOf_19 ?_
    refine v_case (fun c5 => ?_) (fun c5 => ?_)
    · refine v_tin C (t := 64) (k := 0) c5 dX2_shrinkageOf_20 (by decide) (by decide) rfl (by decide) ?_
      refine v_iconst C (v := 1) (by decide) dX2_shrinkageOf_64 ?_
      exact v_iret C hr dX2_shrinkageOf_65 (fun a h => by have h := Option.some.inj h; subst h; rfl)
    refine v_case (fun c6 => ?_) (fun c6 => ?_)
    · refine v_tin C (t := 66) (k := 2) c6 dX2_shrinkageOf_20 (by decide) (by decide) rfl (by decide) ?_
      refine v_iload C (n := 0) rfl dX2_shrinkageOf_66 ?_
      exact v_iret C hr dX2_shrinkageOf_68 (fun a h => by have h := Option.some.inj h; subst h; rfl)
    refine v_case (fun c7 => ?_) (fun c7 => ?_)
    · refine v_tin C (t := 69) (k := 3) c7 dX2_shrinkageOf_20 (by decide) (by decide) rfl (by decide) ?_
      refine v_aload_n C (n := 1) rfl rfl dX2_shrinkageOf_69 ?_
      refine v_iload_n C (n := 3) rfl rfl dX2_shrinkageOf_70 ?_
      refine v_iconst C (v := 1) (by decide) dX2_shrinkageOf_71 ?_
      refine v_isub C dX2_shrinkageOf_72 ?_
      refine v_cvRi C (d := 0) (hR.le (by omega)) (c := 2) rfl cv_X2_125 (by decide) ht (by decide) [.int (a1 - 1)] rfl (fun _ hc => s_X2_holds G Z hG hZ   ht hc) (Nat.le_of_ble_eq_true rfl) dX2_shrinkageOf_73 rfl (fun r8 => ?_)
      refine v_joinm 89 (fun t : Unit => [(4, .int z2)]) (fun t : Unit => []) (fun t : Unit => μ) ?_ ?_
      · rintro ⟨⟩
        refine v_iload C (n := 0) rfl dX2_shrinkageOf_89 ?_
        refine v_goto C (t := 98) (by decide) dX2_shrinkageOf_91 ?_
        exact v_iret C hr dX2_shrinkageOf_98 (fun a h => by have h := Option.some.inj h; subst h; rfl)
      intro F10 e11 hF9
      refine v_ifne C (t := 89) dX2_shrinkageOf_76 (by decide) ?_ ?_
      · refine v_sub (lv' := [(4, .int z2)]) [0] rfl ?_
        exact v_leaf (hF9 ())
      · refine v_aload_n C (n := 1) rfl rfl dX2_shrinkageOf_79 ?_
        refine v_iload_n C (n := 3) rfl rfl dX2_shrinkageOf_80 ?_
        refine v_iconst C (v := 1) (by decide) dX2_shrinkageOf_81 ?_
        refine v_iadd C dX2_shrinkageOf_82 ?_
        refine v_cvRi C (d := 0) (hR.le (by omega)) (c := 2) rfl cv_X2_125 (by decide) ht (by decide) [.int (a1 + 1)] rfl (fun _ hc => s_X2_holds G Z hG hZ   ht hc) (Nat.le_of_ble_eq_true rfl) dX2_shrinkageOf_83 rfl (fun r12 => ?_)
        refine v_ifeq C (t := 94) dX2_shrinkageOf_86 (by decide) ?_ ?_
        · refine v_iload C (n := 0) rfl dX2_shrinkageOf_94 ?_
          refine v_iconst C (v := 1) (by decide) dX2_shrinkageOf_96 ?_
          refine v_isub C dX2_shrinkageOf_97 ?_
          exact v_iret C hr dX2_shrinkageOf_98 (fun a h => by simp only [ob_s, lq, e11] at h; have h := Option.some.inj h; subst h; rfl)
        · refine v_sub (lv' := [(4, .int z2)]) [0] rfl ?_
          exact v_leaf (hF9 ())
    refine v_case (fun c13 => ?_) (fun c13 => ?_)
    · refine v_tin C (t := 99) (k := 4) c13 dX2_shrinkageOf_20 (by decide) (by decide) rfl (by decide) ?_
      refine v_aload_n C (n := 1) rfl rfl dX2_shrinkageOf_99 ?_
      refine v_iload_n C (n := 3) rfl rfl dX2_shrinkageOf_100 ?_
      refine v_cvRi C (d := 0) (hR.le (by omega)) (c := 2) rfl cv_X2_125 (by decide) ht (by decide) [.int a1] rfl (fun _ hc => s_X2_holds G Z hG hZ   ht hc) (Nat.le_of_ble_eq_true rfl) dX2_shrinkageOf_101 rfl (fun r14 => ?_)
      refine v_ifeq C (t := 113) dX2_shrinkageOf_104 (by decide) ?_ ?_
      · refine v_iload_n C (n := 4) rfl rfl dX2_shrinkageOf_113 ?_
        exact v_iret C hr dX2_shrinkageOf_114 (fun a h => by have h := Option.some.inj h; subst h; rfl)
      · refine v_iload_n C (n := 4) rfl rfl dX2_shrinkageOf_107 ?_
        refine v_iconst C (v := 2) (by decide) dX2_shrinkageOf_108 ?_
        refine v_idiv C dX2_shrinkageOf_109 (fun x15 => ?_)
        refine v_goto C (t := 114) (by decide) dX2_shrinkageOf_110 ?_
        exact v_iret C hr dX2_shrinkageOf_114 (fun a h => by have h := Option.some.inj h; subst h; rfl)
    refine v_case (fun c16 => ?_) (fun c16 => ?_)
    · refine v_tin C (t := 115) (k := 5) c16 dX2_shrinkageOf_20 (by decide) (by decide) rfl (by decide) ?_
      refine v_iload_n C (n := 4) rfl rfl dX2_shrinkageOf_115 ?_
      refine v_ineg C dX2_shrinkageOf_116 ?_
      exact v_iret C hr dX2_shrinkageOf_117 (fun a h => by have h := Option.some.inj h; subst h; rfl)
    refine v_case (fun c17 => ?_) (fun c17 => ?_)
    · refine v_tin C (t := 118) (k := 6) c17 dX2_shrinkageOf_20 (by decide) (by decide) rfl (by decide) ?_
      refine v_aload_n C (n := 1) rfl rfl dX2_shrinkageOf_118 ?_
      refine v_getr C (t := 20) fl_X2_21 rfl rfl ht dX2_shrinkageOf_119 (fun h18 => ?_)
      refine v_iload_n C (n := 3) rfl rfl dX2_shrinkageOf_122 ?_
      refine v_iald C h18.oa dX2_shrinkageOf_123 (fun x19 => ?_)
      refine v_ifle C (t := 132) dX2_shrinkageOf_124 (by decide) ?_ ?_
      · refine v_iload_n C (n := 4) rfl rfl dX2_shrinkageOf_132 ?_
        exact v_iret C hr dX2_shrinkageOf_133 (fun a h => by have h := Option.some.inj h; subst h; rfl)
      · refine v_iload_n C (n := 4) rfl rfl dX2_shrinkageOf_127 ?_
        refine v_ineg C dX2_shrinkageOf_128 ?_
        refine v_goto C (t := 133) (by decide) dX2_shrinkageOf_129 ?_
        exact v_iret C hr dX2_shrinkageOf_133 (fun a h => by have h := Option.some.inj h; subst h; rfl)
    have nc5 := lv_neT (k := 0) (a := 0) c5 (by decide)
    have nc6 := lv_neT (k := 2) (a := 2) c6 (by decide)
    have nc7 := lv_neT (k := 3) (a := 3) c7 (by decide)
    have nc13 := lv_neT (k := 4) (a := 4) c13 (by decide)
    have nc16 := lv_neT (k := 5) (a := 5) c16 (by decide)
    have nc17 := lv_neT (k := 6) (a := 6) c17 (by decide)
    refine v_tout2 C (t := 134) dX2_shrinkageOf_20 (by
      by_cases k1 : a0 = 1
      · exact Or.inr ⟨by rw [k1]; decide, by rw [k1]; decide, by rw [k1]; rfl⟩
      have nk1 := lv_neT (k := 1) (a := 1) k1 (by decide)
      exact Or.inl (by omega)) (by decide) ?_
    refine v_iload_n C (n := 4) rfl rfl dX2_shrinkageOf_134 ?_
    exact v_iret C hr dX2_shrinkageOf_135 (fun a h => by have h := Option.some.inj h; subst h; rfl)
  intro F4 hF3
  refine v_ifeq C (t := 16) dX2_shrinkageOf_7 (by decide) ?_ ?_
  · refine v_iload_n C (n := 3) rfl rfl dX2_shrinkageOf_16 ?_
    exact v_leaf (hF3 a2)
  · refine v_iload_n C (n := 3) rfl rfl dX2_shrinkageOf_10 ?_
    refine v_iconst C (v := 1) (by decide) dX2_shrinkageOf_11 ?_
    refine v_isub C dX2_shrinkageOf_12 ?_
    refine v_goto C (t := 17) (by decide) dX2_shrinkageOf_13 ?_
    exact v_leaf (hF3 (a2 - 1))
set_option maxRecDepth 20000 in
set_option maxHeartbeats 4000000 in
theorem s_X2_freeOne {l : Launch} (G : GT) (Z : ZT) (hG : DA G) (hZ : WT G Z) {this : Nat} {a0 : Int32} {μ : MT} {q : MT} (ht : Ob G Z this 2) (hq : m_X2_freeOne Z this a0 μ = some q) : MZ l G Z yX2_freeOne cX2_freeOne 2 none 1 [.ref (ga G this), .int a0] μ none q := by
  refine v_met (J := (fun ν : MT => ((none : Option Value), ν))) hG hZ (by decide) (Nat.le_of_ble_eq_true rfl) hq ?_
  intro x C hR _ hr
  show VK x G Z (0, 0) 2 (QM x G Z) (fun ν : MT => ((none : Option Value), ν)) 0 [(0, .ref (ga G this)), (1, .int a0)] [] μ _ some
  unfold m_X2_freeOne
  refine v_aload_n C (n := 0) rfl rfl dX2_freeOne_0 ?_
  refine v_iload_n C (n := 1) rfl rfl dX2_freeOne_1 ?_
  refine v_cvRi C (d := 0) (hR.le (by omega)) (c := 2) rfl cv_X2_102 (by decide) ht (by decide) [.int a0] rfl (fun _ hc => s_X2_has G Z hG hZ   ht hc) (Nat.le_of_ble_eq_true rfl) dX2_freeOne_2 rfl (fun r1 => ?_)
  refine v_ifeq C (t := 54) dX2_freeOne_5 (by decide) ?_ ?_
  · exact v_vret C hr dX2_freeOne_54 (fun a h => by have h := Option.some.inj h; subst h; rfl)
  · refine v_aload_n C (n := 0) rfl rfl dX2_freeOne_8 ?_
    refine v_iload_n C (n := 1) rfl rfl dX2_freeOne_9 ?_
    refine v_cvRi C (d := 0) (hR.le (by omega)) (c := 2) rfl cv_X2_116 (by decide) ht (by decide) [.int a0] rfl (fun _ hc => s_X2_isClamped G Z hG hZ   ht hc) (Nat.le_of_ble_eq_true rfl) dX2_freeOne_10 rfl (fun r2 => ?_)
    refine v_ifeq C (t := 54) dX2_freeOne_13 (by decide) ?_ ?_
    · exact v_vret C hr dX2_freeOne_54 (fun a h => by have h := Option.some.inj h; subst h; rfl)
    · refine v_aload_n C (n := 0) rfl rfl dX2_freeOne_16 ?_
      refine v_dup C rfl dX2_freeOne_17 ?_
      refine v_geti C fl_X2_30 rfl ht dX2_freeOne_18 ?_
      refine v_iconst C (v := 1) (by decide) dX2_freeOne_21 ?_
      refine v_iload_n C (n := 1) rfl rfl dX2_freeOne_22 ?_
      refine v_ishl C dX2_freeOne_23 ?_
      refine v_iconst C (v := (-1)) (by decide) dX2_freeOne_24 ?_
      refine v_ixor C dX2_freeOne_25 ?_
      refine v_iand C dX2_freeOne_26 ?_
      refine v_puti C fp_X2_30 rfl rfl ht dX2_freeOne_27 (fun ν3 => ?_)
      refine v_aload_n C (n := 0) rfl rfl dX2_freeOne_30 ?_
      refine v_getr C (t := 20) fl_X2_21 rfl rfl ht dX2_freeOne_31 (fun h4 => ?_)
      refine v_iload_n C (n := 1) rfl rfl dX2_freeOne_34 ?_
      refine v_dup2 C rfl rfl dX2_freeOne_35 ?_
      refine v_iald C h4.oa dX2_freeOne_36 (fun x5 => ?_)
      refine v_aload_n C (n := 0) rfl rfl dX2_freeOne_37 ?_
      refine v_getr C (t := 20) fl_X2_24 rfl rfl ht dX2_freeOne_38 (fun h6 => ?_)
      refine v_iload_n C (n := 1) rfl rfl dX2_freeOne_41 ?_
      refine v_iald C h6.oa dX2_freeOne_42 (fun x7 => ?_)
      refine v_iconst C (v := 2) (by decide) dX2_freeOne_43 ?_
      refine v_idiv C dX2_freeOne_44 (fun x8 => ?_)
      refine v_iadd C dX2_freeOne_45 ?_
      refine v_iast C h4 dX2_freeOne_46 (fun ν9 => ?_)
      refine v_aload_n C (n := 0) rfl rfl dX2_freeOne_47 ?_
      refine v_getr C (t := 20) fl_X2_24 rfl rfl ht dX2_freeOne_48 (fun h10 => ?_)
      refine v_iload_n C (n := 1) rfl rfl dX2_freeOne_51 ?_
      refine v_iconst C (v := 0) (by decide) dX2_freeOne_52 ?_
      refine v_iast C h10 dX2_freeOne_53 (fun ν11 => ?_)
      exact v_vret C hr dX2_freeOne_54 (fun a h => by have h := Option.some.inj h; subst h; rfl)
set_option maxRecDepth 20000 in
set_option maxHeartbeats 4000000 in
theorem s_X2_heatOf {l : Launch} (G : GT) (Z : ZT) (hG : DA G) (hZ : WT G Z) {this : Nat} {a0 : Int32} {μ : MT} {q : Int32 × MT} (ht : Ob G Z this 2) (hq : m_X2_heatOf Z this a0 μ = some q) : MZ l G Z yX2_heatOf cX2_heatOf 2 (some .int) 1 [.ref (ga G this), .int a0] μ (some (.int q.1)) q.2 := by
  refine v_met (J := (fun q : Int32 × MT => (some (.int q.1), q.2))) hG hZ (by decide) (Nat.le_of_ble_eq_true rfl) hq ?_
  intro x C hR _ hr
  show VK x G Z (0, 0) 2 (QM x G Z) (fun q : Int32 × MT => (some (.int q.1), q.2)) 0 [(0, .ref (ga G this)), (1, .int a0)] [] μ _ some
  unfold m_X2_heatOf
  refine v_aload_n C (n := 0) rfl rfl dX2_heatOf_0 ?_
  refine v_iload_n C (n := 1) rfl rfl dX2_heatOf_1 ?_
  refine v_cvRi C (d := 0) (hR.le (by omega)) (c := 2) rfl cv_X2_102 (by decide) ht (by decide) [.int a0] rfl (fun _ hc => s_X2_has G Z hG hZ   ht hc) (Nat.le_of_ble_eq_true rfl) dX2_heatOf_2 rfl (fun r1 => ?_)
  refine v_ifne C (t := 10) dX2_heatOf_5 (by decide) ?_ ?_
  · refine v_aload_n C (n := 0) rfl rfl dX2_heatOf_10 ?_
    refine v_iload_n C (n := 1) rfl rfl dX2_heatOf_11 ?_
    refine v_cvIv C (d := 0) (hR.le (by omega)) (c := 2) rfl cv_X2_106 (by decide) ht (by decide) [.int a0] rfl (fun _ hc => s_X2_cool G Z hG hZ   ht hc) (Nat.le_of_ble_eq_true rfl) dX2_heatOf_12 rfl (fun ν2 => ?_)
    refine v_aload_n C (n := 0) rfl rfl dX2_heatOf_15 ?_
    refine v_getr C (t := 20) fl_X2_9 rfl rfl ht dX2_heatOf_16 (fun h3 => ?_)
    refine v_iload_n C (n := 1) rfl rfl dX2_heatOf_19 ?_
    refine v_iald C h3.oa dX2_heatOf_20 (fun x4 => ?_)
    exact v_iret C hr dX2_heatOf_21 (fun a h => by have h := Option.some.inj h; subst h; rfl)
  · refine v_iconst C (v := 0) (by decide) dX2_heatOf_8 ?_
    exact v_iret C hr dX2_heatOf_9 (fun a h => by have h := Option.some.inj h; subst h; rfl)
set_option maxRecDepth 20000 in
set_option maxHeartbeats 4000000 in
theorem s_X2_pullOf {l : Launch} (G : GT) (Z : ZT) (hG : DA G) (hZ : WT G Z) {this : Nat} {a0 : Int32} {μ : MT} {q : Int32} (ht : Ob G Z this 2) (hq : m_X2_pullOf Z this a0 μ = some q) : MZ l G Z yX2_pullOf cX2_pullOf 2 (some .int) 1 [.ref (ga G this), .int a0] μ (some (.int q)) μ := by
  refine v_met (J := (fun r : Int32 => (some (.int r), μ))) hG hZ (by decide) (Nat.le_of_ble_eq_true rfl) hq ?_
  intro x C hR _ hr
  show VK x G Z (0, 0) 2 (QM x G Z) (fun r : Int32 => (some (.int r), μ)) 0 [(0, .ref (ga G this)), (1, .int a0)] [] μ _ some
  unfold m_X2_pullOf
  refine v_aload_n C (n := 0) rfl rfl dX2_pullOf_0 ?_
  refine v_iload_n C (n := 1) rfl rfl dX2_pullOf_1 ?_
  refine v_cvRi C (d := 0) (hR.le (by omega)) (c := 2) rfl cv_X2_102 (by decide) ht (by decide) [.int a0] rfl (fun _ hc => s_X2_has G Z hG hZ   ht hc) (Nat.le_of_ble_eq_true rfl) dX2_pullOf_2 rfl (fun r1 => ?_)
  refine v_ifeq C (t := 27) dX2_pullOf_5 (by decide) ?_ ?_
  · refine v_iconst C (v := 0) (by decide) dX2_pullOf_27 ?_
    exact v_iret C hr dX2_pullOf_28 (fun a h => by have h := Option.some.inj h; subst h; rfl)
  · refine v_aload_n C (n := 0) rfl rfl dX2_pullOf_8 ?_
    refine v_geti C fl_X2_34 rfl ht dX2_pullOf_9 ?_
    refine v_aload_n C (n := 0) rfl rfl dX2_pullOf_12 ?_
    refine v_getr C (t := 20) fl_X2_27 rfl rfl ht dX2_pullOf_13 (fun h2 => ?_)
    refine v_iload_n C (n := 1) rfl rfl dX2_pullOf_16 ?_
    refine v_iald C h2.oa dX2_pullOf_17 (fun x3 => ?_)
    refine v_imul C dX2_pullOf_18 ?_
    refine v_aload_n C (n := 0) rfl rfl dX2_pullOf_19 ?_
    refine v_geti C fl_X2_40 rfl ht dX2_pullOf_20 ?_
    refine v_isub C dX2_pullOf_23 ?_
    refine v_goto C (t := 28) (by decide) dX2_pullOf_24 ?_
    exact v_iret C hr dX2_pullOf_28 (fun a h => by have h := Option.some.inj h; subst h; rfl)
