set_option maxRecDepth 20000 in
set_option maxHeartbeats 4000000 in
theorem s_J0_length_8abf5 {l : Launch} (G : GT) (Z : ZT) (hG : DA G) (hZ : WT G Z) {this : Nat} {μ : MT} {q : Int32} (ht : 2000 ≤ this ∧ this < 2014) (hq : m_J0_length_8abf5 Z this μ = some q) : MZ l G Z yJ0_length_8abf5 cJ0_length_8abf5 1 (some .int) 1 [.ref (ga G this)] μ (some (.int q)) μ := by
  refine v_met (J := (fun r : Int32 => (some (.int r), μ))) hG hZ (by decide) (Nat.le_of_ble_eq_true rfl) hq ?_
  intro x C hR _ hr
  show VK x G Z (0, 0) 1 (QM x G Z) (fun r : Int32 => (some (.int r), μ)) 0 [(0, .ref (ga G this))] [] μ _ some
  unfold m_J0_length_8abf5
  refine v_aload_n C (n := 0) rfl rfl dJ0_length_8abf5_0 ?_
  refine v_strv C ht (w18 26 rfl) dJ0_length_8abf5_1 ?_
  refine v_strl C (by have := ht; omega) dJ0_length_8abf5_4 ?_
  refine v_aload_n C (n := 0) rfl rfl dJ0_length_8abf5_5 ?_
  refine v_cvS C (d := 0) (hR.le (by omega)) cv_J0_335 (by decide) ht [] rfl (fun _ hc => s_J0_coder_7d493 G Z hG hZ   ht hc) (Nat.le_of_ble_eq_true rfl) dJ0_length_8abf5_6 rfl (fun r1 => ?_)
  refine v_ishr C dJ0_length_8abf5_9 ?_
  exact v_iret C hr dJ0_length_8abf5_10 (fun a h => by have h := Option.some.inj h; subst h; rfl)
set_option maxRecDepth 20000 in
set_option maxHeartbeats 4000000 in
theorem s_J0_charAt_5068e {l : Launch} (G : GT) (Z : ZT) (hG : DA G) (hZ : WT G Z) {this : Nat} {a0 : Int32} {μ : MT} {q : Int32} (ht : 2000 ≤ this ∧ this < 2014) (hq : m_J0_charAt_5068e Z this a0 μ = some q) : MZ l G Z yJ0_charAt_5068e cJ0_charAt_5068e 2 (some .char) 3 [.ref (ga G this), .int a0] μ (some (.int q)) μ := by
  refine v_met (J := (fun r : Int32 => (some (.int r), μ))) hG hZ (by decide) (Nat.le_of_ble_eq_true rfl) hq ?_
  intro x C hR _ hr
  show VK x G Z (0, 0) 2 (QM x G Z) (fun r : Int32 => (some (.int r), μ)) 0 [(0, .ref (ga G this)), (1, .int a0)] [] μ _ some
  unfold m_J0_charAt_5068e
  refine v_aload_n C (n := 0) rfl rfl dJ0_charAt_5068e_0 ?_
  refine v_cvS C (d := 0) (hR.le (by omega)) cv_J0_492 (by decide) ht [] rfl (fun _ hc => s_J0_isLatin1_aae02 G Z hG hZ   ht hc) (Nat.le_of_ble_eq_true rfl) dJ0_charAt_5068e_1 rfl (fun r1 => ?_)
  refine v_ifeq C (t := 16) dJ0_charAt_5068e_4 (by decide) ?_ ?_
  · refine v_aload_n C (n := 0) rfl rfl dJ0_charAt_5068e_16 ?_
    refine v_strv C ht (w18 26 rfl) dJ0_charAt_5068e_17 ?_
    refine v_iload_n C (n := 1) rfl rfl dJ0_charAt_5068e_20 ?_
    exact v_none
  · refine v_aload_n C (n := 0) rfl rfl dJ0_charAt_5068e_7 ?_
    refine v_strv C ht (w18 26 rfl) dJ0_charAt_5068e_8 ?_
    refine v_iload_n C (n := 1) rfl rfl dJ0_charAt_5068e_11 ?_
    refine v_csRi C (d := 2) (hR.le (by omega)) cs_J0_495 (by decide) [.ref (ga G (this + 100)), .int a0] rfl (fun _ hc => s_J1_charAt_3b067 G Z hG hZ   (by have := ht; omega) hc) (Nat.le_of_ble_eq_true rfl) dJ0_charAt_5068e_12 rfl (fun r2 => ?_)
    refine v_cz (fun hb4 => ?_)
    exact v_cret C (cz_n hb4) hr dJ0_charAt_5068e_15 (fun a h => by have h := Option.some.inj h; subst h; rfl)
set_option maxRecDepth 20000 in
set_option maxHeartbeats 4000000 in
theorem s_X2_doStep {l : Launch} (G : GT) (Z : ZT) (hG : DA G) (hZ : WT G Z) {this : Nat} {a0 : Int32} {a1 : Int32} {a2 : Int32} {μ : MT} {q : MT} (ht : Ob G Z this 2) (hq : m_X2_doStep Z this a0 a1 a2 μ = some q) : MZ l G Z yX2_doStep cX2_doStep 5 none 2 [.ref (ga G this), .int a0, .int a1, .int a2] μ none q := by
  refine v_met (J := (fun ν : MT => ((none : Option Value), ν))) hG hZ (by decide) (Nat.le_of_ble_eq_true rfl) hq ?_
  intro x C hR _ hr
  show VK x G Z (0, 0) 5 (QM x G Z) (fun ν : MT => ((none : Option Value), ν)) 0 [(0, .ref (ga G this)), (1, .int a0), (2, .int a1), (3, .int a2)] [] μ _ some
  unfold m_X2_doStep
  refine v_aload_n C (n := 0) rfl rfl dX2_doStep_0 ?_
  refine v_iload_n C (n := 2) rfl rfl dX2_doStep_1 ?_
  refine v_cvRi C (d := 0) (hR.le (by omega)) (c := 2) rfl cv_X2_102 (by decide) ht (by decide) [.int a1] rfl (fun _ hc => s_X2_has G Z hG hZ   ht hc) (Nat.le_of_ble_eq_true rfl) dX2_doStep_2 rfl (fun r1 => ?_)
  refine v_ifne C (t := 9) dX2_doStep_5 (by decide) ?_ ?_
  · refine v_aload_n C (n := 0) rfl rfl dX2_doStep_9 ?_
    refine v_iload_n C (n := 2) rfl rfl dX2_doStep_10 ?_
    refine v_cvIv C (d := 0) (hR.le (by omega)) (c := 2) rfl cv_X2_106 (by decide) ht (by decide) [.int a1] rfl (fun _ hc => s_X2_cool G Z hG hZ   ht hc) (Nat.le_of_ble_eq_true rfl) dX2_doStep_11 rfl (fun ν2 => ?_)
    refine v_aload_n C (n := 0) rfl rfl dX2_doStep_14 ?_
    refine v_aload_n C (n := 0) rfl rfl dX2_doStep_15 ?_
    refine v_iload_n C (n := 1) rfl rfl dX2_doStep_16 ?_
    refine v_iload_n C (n := 2) rfl rfl dX2_doStep_17 ?_
    refine v_iload_n C (n := 3) rfl rfl dX2_doStep_18 ?_
    refine v_cvRi C (d := 1) (hR.le (by omega)) (c := 2) rfl cv_X2_109 (by decide) ht (by decide) [.int a0, .int a1, .int a2] rfl (fun _ hc => s_X2_shrinkageOf G Z hG hZ   ht hc) (Nat.le_of_ble_eq_true rfl) dX2_doStep_19 rfl (fun r3 => ?_)
    refine v_iload_n C (n := 2) rfl rfl dX2_doStep_22 ?_
    refine v_cvRi C (d := 0) (hR.le (by omega)) (c := 2) rfl cv_X2_113 (by decide) ht (by decide) [.int r3, .int a1] rfl (fun _ hc => s_X2_effectOf G Z hG hZ   ht hc) (Nat.le_of_ble_eq_true rfl) dX2_doStep_23 rfl (fun r4 => ?_)
    refine v_istore C (lv' := [(4, .int r4), (0, .ref (ga G this)), (1, .int a0), (2, .int a1), (3, .int a2)]) (by decide) rfl dX2_doStep_26 ?_
    refine v_aload_n C (n := 1) rfl rfl dX2_doStep_28 ?_
    refine v_iload_n C (n := 3) rfl rfl dX2_doStep_29 ?_
    refine v_cvRi C (d := 0) (hR.le (by omega)) (c := 2) rfl cv_X2_116 (by decide) ht (by decide) [.int a1] rfl (fun _ hc => s_X2_isClamped G Z hG hZ   ht hc) (Nat.le_of_ble_eq_true rfl) dX2_doStep_30 rfl (fun r5 => ?_)
    refine v_join 61 (fun t : MT => [(0, .ref (ga G this)), (1, .int a0), (2, .int a1), (3, .int a2), (4, .int r4)]) (fun t : MT => []) (fun t : MT => t) ?_ ?_
    · intro ν6
      refine v_aload_n C (n := 0) rfl rfl dX2_doStep_61 ?_
      refine v_getr C (t := 20) fl_X2_27 rfl rfl ht dX2_doStep_62 (fun h9 => ?_)
      refine v_iload_n C (n := 2) rfl rfl dX2_doStep_65 ?_
      refine v_dup2 C rfl rfl dX2_doStep_66 ?_
      refine v_iald C h9.oa dX2_doStep_67 (fun x10 => ?_)
      refine v_iload C (n := 4) rfl dX2_doStep_68 ?_
      refine v_iadd C dX2_doStep_70 ?_
      refine v_iast C h9 dX2_doStep_71 (fun ν11 => ?_)
      refine v_aload_n C (n := 0) rfl rfl dX2_doStep_72 ?_
      refine v_dup C rfl dX2_doStep_73 ?_
      refine v_geti C fl_X2_40 rfl ht dX2_doStep_74 ?_
      refine v_iload C (n := 4) rfl dX2_doStep_77 ?_
      refine v_iadd C dX2_doStep_79 ?_
      refine v_puti C fp_X2_40 rfl rfl ht dX2_doStep_80 (fun ν12 => ?_)
      refine v_aload_n C (n := 0) rfl rfl dX2_doStep_83 ?_
      refine v_getr C (t := 20) fl_X2_9 rfl rfl ht dX2_doStep_84 (fun h13 => ?_)
      refine v_iload_n C (n := 2) rfl rfl dX2_doStep_87 ?_
      refine v_dup2 C rfl rfl dX2_doStep_88 ?_
      refine v_iald C h13.oa dX2_doStep_89 (fun x14 => ?_)
      refine v_iload_n C (n := 1) rfl rfl dX2_doStep_90 ?_
      refine v_iload_n C (n := 3) rfl rfl dX2_doStep_91 ?_
      refine v_csRi C (d := 0) (hR.le (by omega)) cs_X2_119 (by decide) [.int a0, .int a2] rfl (fun _ hc => s_X2_heatOfStep G Z hG hZ   hc) (Nat.le_of_ble_eq_true rfl) dX2_doStep_92 rfl (fun r15 => ?_)
      refine v_iadd C dX2_doStep_95 ?_
      refine v_iast C h13 dX2_doStep_96 (fun ν16 => ?_)
      refine v_aload_n C (n := 0) rfl rfl dX2_doStep_97 ?_
      refine v_getr C (t := 20) fl_X2_18 rfl rfl ht dX2_doStep_98 (fun h17 => ?_)
      refine v_iload_n C (n := 2) rfl rfl dX2_doStep_101 ?_
      refine v_dup2 C rfl rfl dX2_doStep_102 ?_
      refine v_iald C h17.oa dX2_doStep_103 (fun x18 => ?_)
      refine v_iload_n C (n := 1) rfl rfl dX2_doStep_104 ?_
      refine v_csRi C (d := 0) (hR.le (by omega)) cs_X2_122 (by decide) [.int a0] rfl (fun _ hc => s_X2_holdOfStep G Z hG hZ   hc) (Nat.le_of_ble_eq_true rfl) dX2_doStep_105 rfl (fun r19 => ?_)
      refine v_iadd C dX2_doStep_108 ?_
      refine v_iast C h17 dX2_doStep_109 (fun ν20 => ?_)
      refine v_aload_n C (n := 0) rfl rfl dX2_doStep_110 ?_
      refine v_dup C rfl dX2_doStep_111 ?_
      refine v_geti C fl_X2_37 rfl ht dX2_doStep_112 ?_
      refine v_iconst C (v := 1) (by decide) dX2_doStep_115 ?_
      refine v_iadd C dX2_doStep_116 ?_
      refine v_puti C fp_X2_37 rfl rfl ht dX2_doStep_117 (fun ν21 => ?_)
      exact v_vret C hr dX2_doStep_120 (fun a h => by have h := Option.some.inj h; subst h; rfl)
    intro F8 hF7
    refine v_ifeq C (t := 50) dX2_doStep_33 (by decide) ?_ ?_
    · refine v_aload_n C (n := 1) rfl rfl dX2_doStep_50 ?_
      refine v_getr C (t := 20) fl_X2_21 rfl rfl ht dX2_doStep_51 (fun h22 => ?_)
      refine v_iload_n C (n := 3) rfl rfl dX2_doStep_54 ?_
      refine v_dup2 C rfl rfl dX2_doStep_55 ?_
      refine v_iald C h22.oa dX2_doStep_56 (fun x23 => ?_)
      refine v_iload C (n := 0) rfl dX2_doStep_57 ?_
      refine v_iadd C dX2_doStep_59 ?_
      refine v_iast C h22 dX2_doStep_60 (fun ν24 => ?_)
      refine v_sub (lv' := [(0, .ref (ga G this)), (1, .int a0), (2, .int a1), (3, .int a2), (4, .int r4)]) [1, 2, 3, 4, 0] rfl ?_
      exact v_leaf (hF7 ν24)
    · refine v_aload_n C (n := 1) rfl rfl dX2_doStep_36 ?_
      refine v_getr C (t := 20) fl_X2_24 rfl rfl ht dX2_doStep_37 (fun h25 => ?_)
      refine v_iload_n C (n := 3) rfl rfl dX2_doStep_40 ?_
      refine v_dup2 C rfl rfl dX2_doStep_41 ?_
      refine v_iald C h25.oa dX2_doStep_42 (fun x26 => ?_)
      refine v_iload C (n := 0) rfl dX2_doStep_43 ?_
      refine v_iadd C dX2_doStep_45 ?_
      refine v_iast C h25 dX2_doStep_46 (fun ν27 => ?_)
      refine v_goto C (t := 61) (by decide) dX2_doStep_47 ?_
      refine v_sub (lv' := [(0, .ref (ga G this)), (1, .int a0), (2, .int a1), (3, .int a2), (4, .int r4)]) [1, 2, 3, 4, 0] rfl ?_
      exact v_leaf (hF7 ν27)
  · exact v_vret C hr dX2_doStep_8 (fun a h => by have h := Option.some.inj h; subst h; rfl)
set_option maxRecDepth 20000 in
set_option maxHeartbeats 4000000 in
theorem s_X2_freeAll {l : Launch} (G : GT) (Z : ZT) (hG : DA G) (hZ : WT G Z) {this : Nat} {μ : MT} {q : MT} (ht : Ob G Z this 2) (hq : m_X2_freeAll Z this μ = some q) : MZ l G Z yX2_freeAll cX2_freeAll 2 none 2 [.ref (ga G this)] μ none q := by
  refine v_met (J := (fun ν : MT => ((none : Option Value), ν))) hG hZ (by decide) (Nat.le_of_ble_eq_true rfl) hq ?_
  intro x C hR _ hr
  show VK x G Z (0, 0) 2 (QM x G Z) (fun ν : MT => ((none : Option Value), ν)) 0 [(0, .ref (ga G this))] [] μ _ some
  unfold m_X2_freeAll
  refine v_iconst C (v := 0) (by decide) dX2_freeAll_0 ?_
  refine v_istore_n C (lv' := [(1, .int 0), (0, .ref (ga G this))]) rfl (by decide) rfl dX2_freeAll_1 ?_
  refine v_sub (lv' := [(0, .ref (ga G this)), (1, .int 0)]) [1, 0] rfl ?_
  refine v_lp 2 21 (fun t : Int32 × MT => [(0, .ref (ga G this)), (1, .int (t.1))]) (fun t : Int32 × MT => t.2) (fun t : MT => []) (fun t : MT => t) ?_ ?_ LN (0, μ)
  · intro ν3
    exact v_vret C hr dX2_freeAll_21 (fun a h => by have h := Option.some.inj h; subst h; rfl)
  · intro X4 F6 hX5 hF7
    rintro ⟨y1, ν2⟩
    refine v_iload_n C (n := 1) rfl rfl dX2_freeAll_2 ?_
    refine v_aload_n C (n := 0) rfl rfl dX2_freeAll_3 ?_
    refine v_geti C fl_X2_34 rfl ht dX2_freeAll_4 ?_
    refine v_icge C (t := 21) dX2_freeAll_7 (by decide) ?_ ?_
    · refine v_sub (lv' := []) [] rfl ?_
      exact v_leaf (hF7 ν2)
    · refine v_aload_n C (n := 0) rfl rfl dX2_freeAll_10 ?_
      refine v_iload_n C (n := 1) rfl rfl dX2_freeAll_11 ?_
      refine v_cvIv C (d := 1) (hR.le (by omega)) (c := 2) rfl cv_X2_91 (by decide) ht (by decide) [.int y1] rfl (fun _ hc => s_X2_freeOne G Z hG hZ   ht hc) (Nat.le_of_ble_eq_true rfl) dX2_freeAll_12 rfl (fun ν8 => ?_)
      refine v_iinc C (n := 1) (v := y1 + 1) (lv' := [(1, .int (y1 + 1)), (0, .ref (ga G this))]) rfl (congrArg (y1 + ·) (by decide : Int32.ofInt (1) = (1 : Int32))) (by decide) rfl dX2_freeAll_15 ?_
      refine v_let (y := y1 + 1) (fun x9 => [(1, .int x9), (0, .ref (ga G this))]) (fun x9 => []) (fun x9 => ?_)
      refine v_goto C (t := 2) (by decide) dX2_freeAll_18 ?_
      refine v_sub (lv' := [(0, .ref (ga G this)), (1, .int x9)]) [1, 0] rfl ?_
      exact v_leaf (hX5 (x9, ν8))
set_option maxRecDepth 20000 in
set_option maxHeartbeats 4000000 in
theorem s_X2_firstAbove {l : Launch} (G : GT) (Z : ZT) (hG : DA G) (hZ : WT G Z) {this : Nat} {a0 : Int32} {μ : MT} {q : Int32} (ht : Ob G Z this 2) (hq : m_X2_firstAbove Z this a0 μ = some q) : MZ l G Z yX2_firstAbove cX2_firstAbove 3 (some .int) 2 [.ref (ga G this), .int a0] μ (some (.int q)) μ := by
  refine v_met (J := (fun r : Int32 => (some (.int r), μ))) hG hZ (by decide) (Nat.le_of_ble_eq_true rfl) hq ?_
  intro x C hR _ hr
  show VK x G Z (0, 0) 3 (QM x G Z) (fun r : Int32 => (some (.int r), μ)) 0 [(0, .ref (ga G this)), (1, .int a0)] [] μ _ some
  unfold m_X2_firstAbove
  refine v_iconst C (v := 0) (by decide) dX2_firstAbove_0 ?_
  refine v_istore_n C (lv' := [(2, .int 0), (0, .ref (ga G this)), (1, .int a0)]) rfl (by decide) rfl dX2_firstAbove_1 ?_
  refine v_sub (lv' := [(0, .ref (ga G this)), (1, .int a0), (2, .int 0)]) [1, 2, 0] rfl ?_
  refine v_lpm 2 27 (fun t : Int32 => [(0, .ref (ga G this)), (1, .int a0), (2, .int t)]) (fun t : Int32 => μ) (fun t : Unit => []) (fun t : Unit => μ) ?_ ?_ LN 0
  · rintro ⟨⟩
    refine v_ldc C (v := (-1000000)) (w11 19 rfl) dX2_firstAbove_27 ?_
    exact v_iret C hr dX2_firstAbove_29 (fun a h => by have h := Option.some.inj h; subst h; rfl)
  · intro X2 F4 e6 hX3 hF5
    intro y1
    refine v_iload_n C (n := 2) rfl rfl dX2_firstAbove_2 ?_
    refine v_aload_n C (n := 0) rfl rfl dX2_firstAbove_3 ?_
    refine v_geti C fl_X2_34 rfl ht dX2_firstAbove_4 ?_
    refine v_icge C (t := 27) dX2_firstAbove_7 (by decide) ?_ ?_
    · refine v_sub (lv' := []) [] rfl ?_
      exact v_leaf (hF5 ())
    · refine v_aload_n C (n := 0) rfl rfl dX2_firstAbove_10 ?_
      refine v_iload_n C (n := 2) rfl rfl dX2_firstAbove_11 ?_
      refine v_cvRi C (d := 1) (hR.le (by omega)) (c := 2) rfl cv_X2_128 (by decide) ht (by decide) [.int y1] rfl (fun _ hc => s_X2_pullOf G Z hG hZ   ht hc) (Nat.le_of_ble_eq_true rfl) dX2_firstAbove_12 rfl (fun r7 => ?_)
      refine v_iload_n C (n := 1) rfl rfl dX2_firstAbove_15 ?_
      refine v_icle C (t := 21) dX2_firstAbove_16 (by decide) ?_ ?_
      · refine v_iinc C (n := 2) (v := y1 + 1) (lv' := [(2, .int (y1 + 1)), (0, .ref (ga G this)), (1, .int a0)]) rfl (congrArg (y1 + ·) (by decide : Int32.ofInt (1) = (1 : Int32))) (by decide) rfl dX2_firstAbove_21 ?_
        refine v_let (y := y1 + 1) (fun x8 => [(2, .int x8), (0, .ref (ga G this)), (1, .int a0)]) (fun x8 => []) (fun x8 => ?_)
        refine v_goto C (t := 2) (by decide) dX2_firstAbove_24 ?_
        refine v_sub (lv' := [(0, .ref (ga G this)), (1, .int a0), (2, .int x8)]) [1, 2, 0] rfl ?_
        exact v_leaf (hX3 x8)
      · refine v_iload_n C (n := 2) rfl rfl dX2_firstAbove_19 ?_
        exact v_iret C hr dX2_firstAbove_20 (fun a h => by simp only [ob_s, lq, e6] at h; have h := Option.some.inj h; subst h; rfl)
set_option maxRecDepth 20000 in
set_option maxHeartbeats 4000000 in
theorem s_X4_takeNumber {l : Launch} (G : GT) (Z : ZT) (hG : DA G) (hZ : WT G Z) {this : Nat} {a0 : Int32} {a1 : Int32} {μ : MT} {q : Int32 × MT} (ht : Ob G Z this 4) (hq : m_X4_takeNumber Z this a0 a1 μ = some q) : MZ l G Z yX4_takeNumber cX4_takeNumber 3 (some .int) 2 [.ref (ga G this), .int a0, .int a1] μ (some (.int q.1)) q.2 := by
  refine v_met (J := (fun q : Int32 × MT => (some (.int q.1), q.2))) hG hZ (by decide) (Nat.le_of_ble_eq_true rfl) hq ?_
  intro x C hR _ hr
  show VK x G Z (0, 0) 3 (QM x G Z) (fun q : Int32 × MT => (some (.int q.1), q.2)) 0 [(0, .ref (ga G this)), (1, .int a0), (2, .int a1)] [] μ _ some
  unfold m_X4_takeNumber
  refine v_aload_n C (n := 0) rfl rfl dX4_takeNumber_0 ?_
  refine v_getr C (t := 7) fl_X4_15 rfl rfl ht dX4_takeNumber_1 (fun h1 => ?_)
  refine v_cvRi C (d := 0) (hR.le (by omega)) (c := 7) rfl cv_X4_84 (by decide) h1 (by decide) [] rfl (fun _ hc => s_X7_atNumber G Z hG hZ   h1 hc) (Nat.le_of_ble_eq_true rfl) dX4_takeNumber_4 rfl (fun r2 => ?_)
  refine v_ifne C (t := 12) dX4_takeNumber_7 (by decide) ?_ ?_
  · refine v_aload_n C (n := 0) rfl rfl dX4_takeNumber_12 ?_
    refine v_aload_n C (n := 0) rfl rfl dX4_takeNumber_13 ?_
    refine v_getr C (t := 7) fl_X4_15 rfl rfl ht dX4_takeNumber_14 (fun h3 => ?_)
    refine v_cvRi C (d := 0) (hR.le (by omega)) (c := 7) rfl cv_X4_87 (by decide) h3 (by decide) [] rfl (fun _ hc => s_X7_numberHere G Z hG hZ   h3 hc) (Nat.le_of_ble_eq_true rfl) dX4_takeNumber_17 rfl (fun r4 => ?_)
    refine v_puti C fp_X4_9 rfl rfl ht dX4_takeNumber_20 (fun ν5 => ?_)
    refine v_aload_n C (n := 0) rfl rfl dX4_takeNumber_23 ?_
    refine v_geti C fl_X4_9 rfl ht dX4_takeNumber_24 ?_
    refine v_iload_n C (n := 1) rfl rfl dX4_takeNumber_27 ?_
    refine v_iclt C (t := 39) dX4_takeNumber_28 (by decide) ?_ ?_
    · refine v_iconst C (v := 2) (by decide) dX4_takeNumber_39 ?_
      exact v_iret C hr dX4_takeNumber_40 (fun a h => by have h := Option.some.inj h; subst h; rfl)
    · refine v_aload_n C (n := 0) rfl rfl dX4_takeNumber_31 ?_
      refine v_geti C fl_X4_9 rfl ht dX4_takeNumber_32 ?_
      refine v_iload_n C (n := 2) rfl rfl dX4_takeNumber_35 ?_
      refine v_icle C (t := 41) dX4_takeNumber_36 (by decide) ?_ ?_
      · refine v_aload_n C (n := 0) rfl rfl dX4_takeNumber_41 ?_
        refine v_getr C (t := 7) fl_X4_15 rfl rfl ht dX4_takeNumber_42 (fun h6 => ?_)
        refine v_cvIv C (d := 1) (hR.le (by omega)) (c := 7) rfl cv_X4_47 (by decide) h6 (by decide) [] rfl (fun _ hc => s_X7_toNext G Z hG hZ   h6 hc) (Nat.le_of_ble_eq_true rfl) dX4_takeNumber_45 rfl (fun ν7 => ?_)
        refine v_iconst C (v := 0) (by decide) dX4_takeNumber_48 ?_
        exact v_iret C hr dX4_takeNumber_49 (fun a h => by have h := Option.some.inj h; subst h; rfl)
      · refine v_iconst C (v := 2) (by decide) dX4_takeNumber_39 ?_
        exact v_iret C hr dX4_takeNumber_40 (fun a h => by have h := Option.some.inj h; subst h; rfl)
  · refine v_iconst C (v := 1) (by decide) dX4_takeNumber_10 ?_
    exact v_iret C hr dX4_takeNumber_11 (fun a h => by have h := Option.some.inj h; subst h; rfl)
set_option maxRecDepth 20000 in
set_option maxHeartbeats 4000000 in
theorem s_X4_takeSign {l : Launch} (G : GT) (Z : ZT) (hG : DA G) (hZ : WT G Z) {this : Nat} {μ : MT} {q : Int32 × MT} (ht : Ob G Z this 4) (hq : m_X4_takeSign Z this μ = some q) : MZ l G Z yX4_takeSign cX4_takeSign 1 (some .int) 2 [.ref (ga G this)] μ (some (.int q.1)) q.2 := by
  refine v_met (J := (fun q : Int32 × MT => (some (.int q.1), q.2))) hG hZ (by decide) (Nat.le_of_ble_eq_true rfl) hq ?_
  intro x C hR _ hr
  show VK x G Z (0, 0) 1 (QM x G Z) (fun q : Int32 × MT => (some (.int q.1), q.2)) 0 [(0, .ref (ga G this))] [] μ _ some
  unfold m_X4_takeSign
  refine v_aload_n C (n := 0) rfl rfl dX4_takeSign_0 ?_
  refine v_getr C (t := 7) fl_X4_15 rfl rfl ht dX4_takeSign_1 (fun h1 => ?_)
  refine v_cvRi C (d := 0) (hR.le (by omega)) (c := 7) rfl cv_X4_94 (by decide) h1 (by decide) [] rfl (fun _ hc => s_X7_atSign G Z hG hZ   h1 hc) (Nat.le_of_ble_eq_true rfl) dX4_takeSign_4 rfl (fun r2 => ?_)
  refine v_ifne C (t := 12) dX4_takeSign_7 (by decide) ?_ ?_
  · refine v_aload_n C (n := 0) rfl rfl dX4_takeSign_12 ?_
    refine v_getr C (t := 7) fl_X4_15 rfl rfl ht dX4_takeSign_13 (fun h3 => ?_)
    refine v_cvIv C (d := 1) (hR.le (by omega)) (c := 7) rfl cv_X4_47 (by decide) h3 (by decide) [] rfl (fun _ hc => s_X7_toNext G Z hG hZ   h3 hc) (Nat.le_of_ble_eq_true rfl) dX4_takeSign_16 rfl (fun ν4 => ?_)
    refine v_iconst C (v := 0) (by decide) dX4_takeSign_19 ?_
    exact v_iret C hr dX4_takeSign_20 (fun a h => by have h := Option.some.inj h; subst h; rfl)
  · refine v_iconst C (v := 1) (by decide) dX4_takeSign_10 ?_
    exact v_iret C hr dX4_takeSign_11 (fun a h => by have h := Option.some.inj h; subst h; rfl)
set_option maxRecDepth 20000 in
set_option maxHeartbeats 4000000 in
theorem s_X5_howManyFit {l : Launch} (G : GT) (Z : ZT) (hG : DA G) (hZ : WT G Z) {this : Nat} {a0 : Nat} {μ : MT} {q : Int32 × MT} (ht : Ob G Z this 5) (ha0 : Ob G Z a0 3) (hq : m_X5_howManyFit Z this a0 μ = some q) : MZ l G Z yX5_howManyFit cX5_howManyFit 5 (some .int) 2 [.ref (ga G this), .ref (ga G a0)] μ (some (.int q.1)) q.2 := by
  refine v_met (J := (fun q : Int32 × MT => (some (.int q.1), q.2))) hG hZ (by decide) (Nat.le_of_ble_eq_true rfl) hq ?_
  intro x C hR _ hr
  show VK x G Z (0, 0) 5 (QM x G Z) (fun q : Int32 × MT => (some (.int q.1), q.2)) 0 [(0, .ref (ga G this)), (1, .ref (ga G a0))] [] μ _ some
  unfold m_X5_howManyFit
  refine v_iconst C (v := 1) (by decide) dX5_howManyFit_0 ?_
  refine v_aload_n C (n := 1) rfl rfl dX5_howManyFit_1 ?_
  refine v_getiN C fn_X5_52 rfl ha0 dX5_howManyFit_2 ?_
  refine v_ishl C dX5_howManyFit_5 ?_
  refine v_iconst C (v := 1) (by decide) dX5_howManyFit_6 ?_
  refine v_isub C dX5_howManyFit_7 ?_
  refine v_istore_n C (lv' := [(2, .int ((1 <<< ((μ a0 1) &&& 31)) - 1)), (0, .ref (ga G this)), (1, .ref (ga G a0))]) rfl (by decide) rfl dX5_howManyFit_8 ?_
  refine v_let (y := ((1 <<< ((μ a0 1) &&& 31)) - 1)) (fun x1 => [(2, .int x1), (0, .ref (ga G this)), (1, .ref (ga G a0))]) (fun x1 => []) (fun x1 => ?_)
  refine v_aload_n C (n := 1) rfl rfl dX5_howManyFit_9 ?_
  refine v_getr C (t := 20) fl_X5_24 rfl rfl ht dX5_howManyFit_10 (fun h2 => ?_)
  refine v_iconst C (v := 0) (by decide) dX5_howManyFit_13 ?_
  refine v_csIv C (d := 0) (hR.le (by omega)) cs_X5_84 (by decide) [.ref (ga G (zr Z this 3)), .int 0] rfl (fun _ hc => s_J7_fill_53178 G Z hG hZ   h2 hc) (Nat.le_of_ble_eq_true rfl) dX5_howManyFit_14 rfl (fun ν3 => ?_)
  refine v_aload_n C (n := 1) rfl rfl dX5_howManyFit_17 ?_
  refine v_getr C (t := 20) fl_X5_24 rfl rfl ht dX5_howManyFit_18 (fun h4 => ?_)
  refine v_iconst C (v := 0) (by decide) dX5_howManyFit_21 ?_
  refine v_iconst C (v := 1) (by decide) dX5_howManyFit_22 ?_
  refine v_iast C h4 dX5_howManyFit_23 (fun ν5 => ?_)
  refine v_iconst C (v := 0) (by decide) dX5_howManyFit_24 ?_
  refine v_istore_n C (lv' := [(3, .int 0), (2, .int x1), (0, .ref (ga G this)), (1, .ref (ga G a0))]) rfl (by decide) rfl dX5_howManyFit_25 ?_
  refine v_sub (lv' := [(0, .ref (ga G this)), (1, .ref (ga G a0)), (2, .int x1), (3, .int 0)]) [2, 3, 1, 0] rfl ?_
  refine v_lp 26 85 (fun t : Int32 × MT => [(0, .ref (ga G this)), (1, .ref (ga G a0)), (2, .int x1), (3, .int (t.1))]) (fun t : Int32 × MT => t.2) (fun t : MT => [(0, .ref (ga G this)), (2, .int x1)]) (fun t : MT => t) ?_ ?_ LN (0, ν5)
  · intro ν8
    refine v_aload_n C (n := 0) rfl rfl dX5_howManyFit_85 ?_
    refine v_getr C (t := 20) fl_X5_24 rfl rfl ht dX5_howManyFit_86 (fun h13 => ?_)
    refine v_iload_n C (n := 1) rfl rfl dX5_howManyFit_89 ?_
    refine v_iald C h13.oa dX5_howManyFit_90 (fun x14 => ?_)
    exact v_iret C hr dX5_howManyFit_91 (fun a h => by have h := Option.some.inj h; subst h; rfl)
  · intro X9 F11 hX10 hF12
    rintro ⟨y6, ν7⟩
    refine v_iload_n C (n := 3) rfl rfl dX5_howManyFit_26 ?_
    refine v_iload_n C (n := 2) rfl rfl dX5_howManyFit_27 ?_
    refine v_icge C (t := 85) dX5_howManyFit_28 (by decide) ?_ ?_
    · refine v_sub (lv' := [(0, .ref (ga G this)), (2, .int x1)]) [0, 2] rfl ?_
      exact v_leaf (hF12 ν7)
    · refine v_iconst C (v := 0) (by decide) dX5_howManyFit_31 ?_
      refine v_istore C (lv' := [(4, .int 0), (0, .ref (ga G this)), (1, .ref (ga G a0)), (2, .int x1), (3, .int y6)]) (by decide) rfl dX5_howManyFit_32 ?_
      refine v_sub (lv' := [(0, .ref (ga G this)), (1, .ref (ga G a0)), (2, .int x1), (3, .int y6), (4, .int 0)]) [1, 2, 3, 4, 0] rfl ?_
      refine v_lp 34 79 (fun t : Int32 × MT => [(0, .ref (ga G this)), (1, .ref (ga G a0)), (2, .int x1), (3, .int y6), (4, .int (t.1))]) (fun t : Int32 × MT => t.2) (fun t : MT => [(0, .ref (ga G this)), (1, .ref (ga G a0)), (2, .int x1), (3, .int y6)]) (fun t : MT => t) ?_ ?_ LN (0, ν7)
      · intro ν17
        refine v_iinc C (n := 3) (v := y6 + 1) (lv' := [(3, .int (y6 + 1)), (0, .ref (ga G this)), (1, .ref (ga G a0)), (2, .int x1)]) rfl (congrArg (y6 + ·) (by decide : Int32.ofInt (1) = (1 : Int32))) (by decide) rfl dX5_howManyFit_79 ?_
        refine v_let (y := y6 + 1) (fun x22 => [(3, .int x22), (0, .ref (ga G this)), (1, .ref (ga G a0)), (2, .int x1)]) (fun x22 => []) (fun x22 => ?_)
        refine v_goto C (t := 26) (by decide) dX5_howManyFit_82 ?_
        refine v_sub (lv' := [(0, .ref (ga G this)), (1, .ref (ga G a0)), (2, .int x1), (3, .int x22)]) [1, 2, 3, 0] rfl ?_
        exact v_leaf (hX10 (x22, ν17))
      · intro X18 F20 hX19 hF21
        rintro ⟨y15, ν16⟩
        refine v_iload C (n := 4) rfl dX5_howManyFit_34 ?_
        refine v_aload_n C (n := 1) rfl rfl dX5_howManyFit_36 ?_
        refine v_getiN C fn_X5_52 rfl ha0 dX5_howManyFit_37 ?_
        refine v_icge C (t := 79) dX5_howManyFit_40 (by decide) ?_ ?_
        · refine v_sub (lv' := [(0, .ref (ga G this)), (1, .ref (ga G a0)), (2, .int x1), (3, .int y6)]) [0, 1, 2, 3] rfl ?_
          exact v_leaf (hF21 ν16)
        · refine v_aload_n C (n := 1) rfl rfl dX5_howManyFit_43 ?_
          refine v_iload C (n := 4) rfl dX5_howManyFit_44 ?_
          refine v_iload_n C (n := 3) rfl rfl dX5_howManyFit_46 ?_
          refine v_cvRi C (d := 1) (hR.le (by omega)) (c := 3) rfl cv_X5_59 (by decide) ha0 (by decide) [.int y15, .int y6] rfl (fun _ hc => s_X3_mayFollow G Z hG hZ   ha0 hc) (Nat.le_of_ble_eq_true rfl) dX5_howManyFit_47 rfl (fun r23 => ?_)
          refine v_join 73 (fun t : MT => [(0, .ref (ga G this)), (1, .ref (ga G a0)), (2, .int x1), (3, .int y6), (4, .int y15)]) (fun t : MT => []) (fun t : MT => t) ?_ ?_
          · intro ν24
            refine v_iinc C (n := 4) (v := y15 + 1) (lv' := [(4, .int (y15 + 1)), (0, .ref (ga G this)), (1, .ref (ga G a0)), (2, .int x1), (3, .int y6)]) rfl (congrArg (y15 + ·) (by decide : Int32.ofInt (1) = (1 : Int32))) (by decide) rfl dX5_howManyFit_73 ?_
            refine v_let (y := y15 + 1) (fun x27 => [(4, .int x27), (0, .ref (ga G this)), (1, .ref (ga G a0)), (2, .int x1), (3, .int y6)]) (fun x27 => []) (fun x27 => ?_)
            refine v_goto C (t := 34) (by decide) dX5_howManyFit_76 ?_
            refine v_sub (lv' := [(0, .ref (ga G this)), (1, .ref (ga G a0)), (2, .int x1), (3, .int y6), (4, .int x27)]) [1, 2, 3, 4, 0] rfl ?_
            exact v_leaf (hX19 (x27, ν24))
          intro F26 hF25
          refine v_ifeq C (t := 73) dX5_howManyFit_50 (by decide) ?_ ?_
          · exact v_leaf (hF25 ν16)
          · refine v_aload_n C (n := 0) rfl rfl dX5_howManyFit_53 ?_
            refine v_getr C (t := 20) fl_X5_24 rfl rfl ht dX5_howManyFit_54 (fun h28 => ?_)
            refine v_iload_n C (n := 3) rfl rfl dX5_howManyFit_57 ?_
            refine v_iconst C (v := 1) (by decide) dX5_howManyFit_58 ?_
            refine v_iload C (n := 4) rfl dX5_howManyFit_59 ?_
            refine v_ishl C dX5_howManyFit_61 ?_
            refine v_ior C dX5_howManyFit_62 ?_
            refine v_dup2 C rfl rfl dX5_howManyFit_63 ?_
            refine v_iald C h28.oa dX5_howManyFit_64 (fun x29 => ?_)
            refine v_aload_n C (n := 0) rfl rfl dX5_howManyFit_65 ?_
            refine v_getr C (t := 20) fl_X5_24 rfl rfl ht dX5_howManyFit_66 (fun h30 => ?_)
            refine v_iload_n C (n := 3) rfl rfl dX5_howManyFit_69 ?_
            refine v_iald C h30.oa dX5_howManyFit_70 (fun x31 => ?_)
            refine v_iadd C dX5_howManyFit_71 ?_
            refine v_iast C h28 dX5_howManyFit_72 (fun ν32 => ?_)
            exact v_leaf (hF25 ν32)
set_option maxRecDepth 20000 in
set_option maxHeartbeats 4000000 in
theorem s_X6_itemAt {l : Launch} (G : GT) (Z : ZT) (hG : DA G) (hZ : WT G Z) {this : Nat} {a0 : Int32} {a1 : Int32} {μ : MT} {q : Int32} (ht : Ob G Z this 6) (hq : m_X6_itemAt Z this a0 a1 μ = some q) : MZ l G Z yX6_itemAt cX6_itemAt 3 (some .int) 2 [.ref (ga G this), .int a0, .int a1] μ (some (.int q)) μ := by
  refine v_met (J := (fun r : Int32 => (some (.int r), μ))) hG hZ (by decide) (Nat.le_of_ble_eq_true rfl) hq ?_
  intro x C hR _ hr
  show VK x G Z (0, 0) 3 (QM x G Z) (fun r : Int32 => (some (.int r), μ)) 0 [(0, .ref (ga G this)), (1, .int a0), (2, .int a1)] [] μ _ some
  unfold m_X6_itemAt
  refine v_aload_n C (n := 0) rfl rfl dX6_itemAt_0 ?_
  refine v_iload_n C (n := 1) rfl rfl dX6_itemAt_1 ?_
  refine v_iload_n C (n := 2) rfl rfl dX6_itemAt_2 ?_
  refine v_iconst C (v := 1) (by decide) dX6_itemAt_3 ?_
  refine v_cvRi C (d := 1) (hR.le (by omega)) (c := 6) rfl cv_X6_43 (by decide) ht (by decide) [.int a0, .int a1, .int 1] rfl (fun _ hc => s_X6_findingAt G Z hG hZ   ht hc) (Nat.le_of_ble_eq_true rfl) dX6_itemAt_4 rfl (fun r1 => ?_)
  refine v_ifne C (t := 21) dX6_itemAt_7 (by decide) ?_ ?_
  · refine v_iconst C (v := 0) (by decide) dX6_itemAt_21 ?_
    exact v_iret C hr dX6_itemAt_22 (fun a h => by have h := Option.some.inj h; subst h; rfl)
  · refine v_aload_n C (n := 0) rfl rfl dX6_itemAt_10 ?_
    refine v_getr C (t := 23) fl_X6_20 rfl rfl ht dX6_itemAt_11 (fun h2 => ?_)
    refine v_iload_n C (n := 1) rfl rfl dX6_itemAt_14 ?_
    refine v_aaldI C h2 dX6_itemAt_15 (fun q3 h4 => ?_)
    refine v_iload_n C (n := 2) rfl rfl dX6_itemAt_16 ?_
    refine v_iald C h4.oa dX6_itemAt_17 (fun x5 => ?_)
    refine v_goto C (t := 22) (by decide) dX6_itemAt_18 ?_
    exact v_iret C hr dX6_itemAt_22 (fun a h => by have h := Option.some.inj h; subst h; rfl)
set_option maxRecDepth 20000 in
set_option maxHeartbeats 4000000 in
theorem s_X7_toFirst {l : Launch} (G : GT) (Z : ZT) (hG : DA G) (hZ : WT G Z) {this : Nat} {μ : MT} {q : MT} (ht : Ob G Z this 7) (hq : m_X7_toFirst Z this μ = some q) : MZ l G Z yX7_toFirst cX7_toFirst 1 none 2 [.ref (ga G this)] μ none q := by
  refine v_met (J := (fun ν : MT => ((none : Option Value), ν))) hG hZ (by decide) (Nat.le_of_ble_eq_true rfl) hq ?_
  intro x C hR _ hr
  show VK x G Z (0, 0) 1 (QM x G Z) (fun ν : MT => ((none : Option Value), ν)) 0 [(0, .ref (ga G this))] [] μ _ some
  unfold m_X7_toFirst
  refine v_aload_n C (n := 0) rfl rfl dX7_toFirst_0 ?_
  refine v_iconst C (v := 0) (by decide) dX7_toFirst_1 ?_
  refine v_puti C fp_X7_22 rfl rfl ht dX7_toFirst_2 (fun ν1 => ?_)
  refine v_aload_n C (n := 0) rfl rfl dX7_toFirst_5 ?_
  refine v_cvIv C (d := 1) (hR.le (by omega)) (c := 7) rfl cv_X7_28 (by decide) ht (by decide) [] rfl (fun _ hc => s_X7_toNext G Z hG hZ   ht hc) (Nat.le_of_ble_eq_true rfl) dX7_toFirst_6 rfl (fun ν2 => ?_)
  exact v_vret C hr dX7_toFirst_9 (fun a h => by have h := Option.some.inj h; subst h; rfl)
set_option maxRecDepth 20000 in
set_option maxHeartbeats 4000000 in
theorem s_X7_spells {l : Launch} (G : GT) (Z : ZT) (hG : DA G) (hZ : WT G Z) {this : Nat} {a0 : Nat} {μ : MT} {q : Int32} (ht : Ob G Z this 7) (ha0 : 2000 ≤ a0 ∧ a0 < 2014) (hq : m_X7_spells Z this a0 μ = some q) : MZ l G Z yX7_spells cX7_spells 3 (some .boolean) 4 [.ref (ga G this), .ref (ga G a0)] μ (some (.int q)) μ := by
  refine v_met (J := (fun r : Int32 => (some (.int r), μ))) hG hZ (by decide) (Nat.le_of_ble_eq_true rfl) hq ?_
  intro x C hR _ hr
  show VK x G Z (0, 0) 3 (QM x G Z) (fun r : Int32 => (some (.int r), μ)) 0 [(0, .ref (ga G this)), (1, .ref (ga G a0))] [] μ _ some
  unfold m_X7_spells
  refine v_aload_n C (n := 1) rfl rfl dX7_spells_0 ?_
  refine v_cvS C (d := 1) (hR.le (by omega)) cv_X7_35 (by decide) ha0 [] rfl (fun _ hc => s_J0_length_8abf5 G Z hG hZ   ha0 hc) (Nat.le_of_ble_eq_true rfl) dX7_spells_1 rfl (fun r1 => ?_)
  refine v_aload_n C (n := 0) rfl rfl dX7_spells_4 ?_
  refine v_geti C fl_X7_22 rfl ht dX7_spells_5 ?_
  refine v_aload_n C (n := 0) rfl rfl dX7_spells_8 ?_
  refine v_geti C fl_X7_19 rfl ht dX7_spells_9 ?_
  refine v_isub C dX7_spells_12 ?_
  refine v_iceq C (t := 18) dX7_spells_13 (by decide) ?_ ?_
  · refine v_iconst C (v := 0) (by decide) dX7_spells_18 ?_
    refine v_istore_n C (lv' := [(2, .int 0), (0, .ref (ga G this)), (1, .ref (ga G a0))]) rfl (by decide) rfl dX7_spells_19 ?_
    refine v_sub (lv' := [(0, .ref (ga G this)), (1, .ref (ga G a0)), (2, .int 0)]) [1, 2, 0] rfl ?_
    refine v_lpm 20 55 (fun t : Int32 => [(0, .ref (ga G this)), (1, .ref (ga G a0)), (2, .int t)]) (fun t : Int32 => μ) (fun t : Unit => []) (fun t : Unit => μ) ?_ ?_ LN 0
    · rintro ⟨⟩
      refine v_iconst C (v := 1) (by decide) dX7_spells_55 ?_
      exact v_zret C (Or.inr rfl) hr dX7_spells_56 (fun a h => by have h := Option.some.inj h; subst h; rfl)
    · intro X3 F5 e7 hX4 hF6
      intro y2
      refine v_iload_n C (n := 2) rfl rfl dX7_spells_20 ?_
      refine v_aload_n C (n := 1) rfl rfl dX7_spells_21 ?_
      refine v_cvS C (d := 1) (hR.le (by omega)) cv_X7_35 (by decide) ha0 [] rfl (fun _ hc => s_J0_length_8abf5 G Z hG hZ   ha0 hc) (Nat.le_of_ble_eq_true rfl) dX7_spells_22 rfl (fun r8 => ?_)
      refine v_icge C (t := 55) dX7_spells_25 (by decide) ?_ ?_
      · refine v_sub (lv' := []) [] rfl ?_
        exact v_leaf (hF6 ())
      · refine v_aload_n C (n := 1) rfl rfl dX7_spells_28 ?_
        refine v_iload_n C (n := 2) rfl rfl dX7_spells_29 ?_
        refine v_cvS C (d := 3) (hR.le (by omega)) cv_X7_41 (by decide) ha0 [.int y2] rfl (fun _ hc => s_J0_charAt_5068e G Z hG hZ   ha0 hc) (Nat.le_of_ble_eq_true rfl) dX7_spells_30 rfl (fun r9 => ?_)
        refine v_aload_n C (n := 0) rfl rfl dX7_spells_33 ?_
        refine v_getr C (t := 21) fl_X7_9 rfl rfl ht dX7_spells_34 (fun h10 => ?_)
        refine v_aload_n C (n := 0) rfl rfl dX7_spells_37 ?_
        refine v_geti C fl_X7_19 rfl ht dX7_spells_38 ?_
        refine v_iload_n C (n := 2) rfl rfl dX7_spells_41 ?_
        refine v_iadd C dX7_spells_42 ?_
        refine v_bald C h10 dX7_spells_43 (fun x11 => ?_)
        refine v_iceq C (t := 49) dX7_spells_44 (by decide) ?_ ?_
        · refine v_iinc C (n := 2) (v := y2 + 1) (lv' := [(2, .int (y2 + 1)), (0, .ref (ga G this)), (1, .ref (ga G a0))]) rfl (congrArg (y2 + ·) (by decide : Int32.ofInt (1) = (1 : Int32))) (by decide) rfl dX7_spells_49 ?_
          refine v_let (y := y2 + 1) (fun x12 => [(2, .int x12), (0, .ref (ga G this)), (1, .ref (ga G a0))]) (fun x12 => []) (fun x12 => ?_)
          refine v_goto C (t := 20) (by decide) dX7_spells_52 ?_
          refine v_sub (lv' := [(0, .ref (ga G this)), (1, .ref (ga G a0)), (2, .int x12)]) [1, 2, 0] rfl ?_
          exact v_leaf (hX4 x12)
        · refine v_iconst C (v := 0) (by decide) dX7_spells_47 ?_
          exact v_zret C (Or.inl rfl) hr dX7_spells_48 (fun a h => by simp only [ob_s, lq, e7] at h; have h := Option.some.inj h; subst h; rfl)
  · refine v_iconst C (v := 0) (by decide) dX7_spells_16 ?_
    exact v_zret C (Or.inl rfl) hr dX7_spells_17 (fun a h => by have h := Option.some.inj h; subst h; rfl)
set_option maxRecDepth 20000 in
set_option maxHeartbeats 4000000 in
theorem s_X8_sheet {l : Launch} (G : GT) (Z : ZT) (hG : DA G) (hZ : WT G Z) {this : Nat} {a0 : Int32} {a1 : Int32} {a2 : Int32} {μ : MT} {q : Int32 × MT} (ht : Ob G Z this 8) (hq : m_X8_sheet Z this a0 a1 a2 μ = some q) : MZ l G Z yX8_sheet cX8_sheet 4 (some .int) 2 [.ref (ga G this), .int a0, .int a1, .int a2] μ (some (.int q.1)) q.2 := by
  refine v_met (J := (fun q : Int32 × MT => (some (.int q.1), q.2))) hG hZ (by decide) (Nat.le_of_ble_eq_true rfl) hq ?_
  intro x C hR _ hr
  show VK x G Z (0, 0) 4 (QM x G Z) (fun q : Int32 × MT => (some (.int q.1), q.2)) 0 [(0, .ref (ga G this)), (1, .int a0), (2, .int a1), (3, .int a2)] [] μ _ some
  unfold m_X8_sheet
  refine v_aload_n C (n := 0) rfl rfl dX8_sheet_0 ?_
  refine v_getr C (t := 6) fl_X8_10 rfl rfl ht dX8_sheet_1 (fun h1 => ?_)
  refine v_iload_n C (n := 1) rfl rfl dX8_sheet_4 ?_
  refine v_cvRi C (d := 0) (hR.le (by omega)) (c := 6) rfl cv_X8_94 (by decide) h1 (by decide) [.int a0] rfl (fun _ hc => s_X6_hasNumber G Z hG hZ   h1 hc) (Nat.le_of_ble_eq_true rfl) dX8_sheet_5 rfl (fun r2 => ?_)
  refine v_ifeq C (t := 26) dX8_sheet_8 (by decide) ?_ ?_
  · refine v_ldc C (v := (-1000001)) (w4 13 rfl) dX8_sheet_26 ?_
    exact v_iret C hr dX8_sheet_28 (fun a h => by have h := Option.some.inj h; subst h; rfl)
  · refine v_iload_n C (n := 2) rfl rfl dX8_sheet_11 ?_
    refine v_iflt C (t := 26) dX8_sheet_12 (by decide) ?_ ?_
    · refine v_ldc C (v := (-1000001)) (w4 13 rfl) dX8_sheet_26 ?_
      exact v_iret C hr dX8_sheet_28 (fun a h => by have h := Option.some.inj h; subst h; rfl)
    · refine v_iload_n C (n := 2) rfl rfl dX8_sheet_15 ?_
      refine v_iconst C (v := 3) (by decide) dX8_sheet_16 ?_
      refine v_icge C (t := 26) dX8_sheet_17 (by decide) ?_ ?_
      · refine v_ldc C (v := (-1000001)) (w4 13 rfl) dX8_sheet_26 ?_
        exact v_iret C hr dX8_sheet_28 (fun a h => by have h := Option.some.inj h; subst h; rfl)
      · refine v_iload_n C (n := 3) rfl rfl dX8_sheet_20 ?_
        refine v_bipush C (v := 40) (by decide) dX8_sheet_21 ?_
        refine v_icle C (t := 29) dX8_sheet_23 (by decide) ?_ ?_
        · refine v_iload_n C (n := 3) rfl rfl dX8_sheet_29 ?_
          refine v_ifge C (t := 39) dX8_sheet_30 (by decide) ?_ ?_
          · refine v_aload_n C (n := 0) rfl rfl dX8_sheet_39 ?_
            refine v_getr C (t := 6) fl_X8_10 rfl rfl ht dX8_sheet_40 (fun h3 => ?_)
            refine v_iload_n C (n := 1) rfl rfl dX8_sheet_43 ?_
            refine v_iload_n C (n := 2) rfl rfl dX8_sheet_44 ?_
            refine v_iload_n C (n := 3) rfl rfl dX8_sheet_45 ?_
            refine v_cvIv C (d := 1) (hR.le (by omega)) (c := 6) rfl cv_X8_103 (by decide) h3 (by decide) [.int a0, .int a1, .int a2] rfl (fun _ hc => s_X6_lay G Z hG hZ   h3 hc) (Nat.le_of_ble_eq_true rfl) dX8_sheet_46 rfl (fun ν4 => ?_)
            refine v_aload_n C (n := 0) rfl rfl dX8_sheet_49 ?_
            refine v_iload_n C (n := 3) rfl rfl dX8_sheet_50 ?_
            refine v_cvIi C (d := 0) (hR.le (by omega)) (c := 8) rfl cv_X8_107 (by decide) ht (by decide) [.int a2] rfl (fun _ hc => s_X8_fine G Z hG hZ   ht hc) (Nat.le_of_ble_eq_true rfl) dX8_sheet_51 rfl (fun r5 ν6 => ?_)
            exact v_iret C hr dX8_sheet_54 (fun a h => by have h := Option.some.inj h; subst h; rfl)
          · refine v_aload_n C (n := 0) rfl rfl dX8_sheet_33 ?_
            refine v_iconst C (v := 4) (by decide) dX8_sheet_34 ?_
            refine v_cvIi C (d := 0) (hR.le (by omega)) (c := 8) rfl cv_X8_99 (by decide) ht (by decide) [.int 4] rfl (fun _ hc => s_X8_found G Z hG hZ   ht hc) (Nat.le_of_ble_eq_true rfl) dX8_sheet_35 rfl (fun r7 ν8 => ?_)
            exact v_iret C hr dX8_sheet_38 (fun a h => by have h := Option.some.inj h; subst h; rfl)
        · refine v_ldc C (v := (-1000001)) (w4 13 rfl) dX8_sheet_26 ?_
          exact v_iret C hr dX8_sheet_28 (fun a h => by have h := Option.some.inj h; subst h; rfl)
set_option maxRecDepth 20000 in
set_option maxHeartbeats 4000000 in
theorem s_X8_set {l : Launch} (G : GT) (Z : ZT) (hG : DA G) (hZ : WT G Z) {this : Nat} {a0 : Int32} {a1 : Int32} {a2 : Int32} {μ : MT} {q : Int32 × MT} (ht : Ob G Z this 8) (hq : m_X8_set Z this a0 a1 a2 μ = some q) : MZ l G Z yX8_set cX8_set 5 (some .int) 2 [.ref (ga G this), .int a0, .int a1, .int a2] μ (some (.int q.1)) q.2 := by
  refine v_met (J := (fun q : Int32 × MT => (some (.int q.1), q.2))) hG hZ (by decide) (Nat.le_of_ble_eq_true rfl) hq ?_
  intro x C hR _ hr
  show VK x G Z (0, 0) 5 (QM x G Z) (fun q : Int32 × MT => (some (.int q.1), q.2)) 0 [(0, .ref (ga G this)), (1, .int a0), (2, .int a1), (3, .int a2)] [] μ _ some
  unfold m_X8_set
  refine v_aload_n C (n := 0) rfl rfl dX8_set_0 ?_
  refine v_getr C (t := 6) fl_X8_10 rfl rfl ht dX8_set_1 (fun h1 => ?_)
  refine v_iload_n C (n := 1) rfl rfl dX8_set_4 ?_
  refine v_cvRi C (d := 0) (hR.le (by omega)) (c := 6) rfl cv_X8_94 (by decide) h1 (by decide) [.int a0] rfl (fun _ hc => s_X6_hasNumber G Z hG hZ   h1 hc) (Nat.le_of_ble_eq_true rfl) dX8_set_5 rfl (fun r2 => ?_)
  refine v_ifne C (t := 14) dX8_set_8 (by decide) ?_ ?_
  · refine v_aload_n C (n := 0) rfl rfl dX8_set_14 ?_
    refine v_getr C (t := 6) fl_X8_10 rfl rfl ht dX8_set_15 (fun h3 => ?_)
    refine v_iload_n C (n := 1) rfl rfl dX8_set_18 ?_
    refine v_iload_n C (n := 2) rfl rfl dX8_set_19 ?_
    refine v_iconst C (v := 1) (by decide) dX8_set_20 ?_
    refine v_cvRi C (d := 1) (hR.le (by omega)) (c := 6) rfl cv_X8_110 (by decide) h3 (by decide) [.int a0, .int a1, .int 1] rfl (fun _ hc => s_X6_findingAt G Z hG hZ   h3 hc) (Nat.le_of_ble_eq_true rfl) dX8_set_21 rfl (fun r4 => ?_)
    refine v_istore C (lv' := [(4, .int r4), (0, .ref (ga G this)), (1, .int a0), (2, .int a1), (3, .int a2)]) (by decide) rfl dX8_set_24 ?_
    refine v_iload C (n := 0) rfl dX8_set_26 ?_
    refine v_ifeq C (t := 38) dX8_set_28 (by decide) ?_ ?_
    · refine v_aload_n C (n := 1) rfl rfl dX8_set_38 ?_
      refine v_aload_n C (n := 1) rfl rfl dX8_set_39 ?_
      refine v_getr C (t := 6) fl_X8_10 rfl rfl ht dX8_set_40 (fun h5 => ?_)
      refine v_iload_n C (n := 2) rfl rfl dX8_set_43 ?_
      refine v_iload_n C (n := 3) rfl rfl dX8_set_44 ?_
      refine v_iload_n C (n := 4) rfl rfl dX8_set_45 ?_
      refine v_cvIi C (d := 1) (hR.le (by omega)) (c := 6) rfl cv_X8_114 (by decide) h5 (by decide) [.int a0, .int a1, .int a2] rfl (fun _ hc => s_X6_put G Z hG hZ   h5 hc) (Nat.le_of_ble_eq_true rfl) dX8_set_46 rfl (fun r6 ν7 => ?_)
      refine v_cvIi C (d := 0) (hR.le (by omega)) (c := 8) rfl cv_X8_107 (by decide) ht (by decide) [.int r6] rfl (fun _ hc => s_X8_fine G Z hG hZ   ht hc) (Nat.le_of_ble_eq_true rfl) dX8_set_49 rfl (fun r8 ν9 => ?_)
      exact v_iret C hr dX8_set_52 (fun a h => by have h := Option.some.inj h; subst h; rfl)
    · refine v_aload_n C (n := 1) rfl rfl dX8_set_31 ?_
      refine v_iload C (n := 0) rfl dX8_set_32 ?_
      refine v_cvIi C (d := 0) (hR.le (by omega)) (c := 8) rfl cv_X8_99 (by decide) ht (by decide) [.int r4] rfl (fun _ hc => s_X8_found G Z hG hZ   ht hc) (Nat.le_of_ble_eq_true rfl) dX8_set_34 rfl (fun r10 ν11 => ?_)
      exact v_iret C hr dX8_set_37 (fun a h => by have h := Option.some.inj h; subst h; rfl)
  · refine v_ldc C (v := (-1000001)) (w4 13 rfl) dX8_set_11 ?_
    exact v_iret C hr dX8_set_13 (fun a h => by have h := Option.some.inj h; subst h; rfl)
set_option maxRecDepth 20000 in
set_option maxHeartbeats 4000000 in
theorem s_X8_copy {l : Launch} (G : GT) (Z : ZT) (hG : DA G) (hZ : WT G Z) {this : Nat} {a0 : Int32} {a1 : Int32} {a2 : Int32} {a3 : Int32} {a4 : Int32} {μ : MT} {q : Int32 × MT} (ht : Ob G Z this 8) (hq : m_X8_copy Z this a0 a1 a2 a3 a4 μ = some q) : MZ l G Z yX8_copy cX8_copy 7 (some .int) 2 [.ref (ga G this), .int a0, .int a1, .int a2, .int a3, .int a4] μ (some (.int q.1)) q.2 := by
  refine v_met (J := (fun q : Int32 × MT => (some (.int q.1), q.2))) hG hZ (by decide) (Nat.le_of_ble_eq_true rfl) hq ?_
  intro x C hR _ hr
  show VK x G Z (0, 0) 7 (QM x G Z) (fun q : Int32 × MT => (some (.int q.1), q.2)) 0 [(0, .ref (ga G this)), (1, .int a0), (2, .int a1), (3, .int a2), (4, .int a3), (5, .int a4)] [] μ _ some
  unfold m_X8_copy
  refine v_aload_n C (n := 0) rfl rfl dX8_copy_0 ?_
  refine v_getr C (t := 6) fl_X8_10 rfl rfl ht dX8_copy_1 (fun h1 => ?_)
  refine v_iload_n C (n := 1) rfl rfl dX8_copy_4 ?_
  refine v_cvRi C (d := 0) (hR.le (by omega)) (c := 6) rfl cv_X8_94 (by decide) h1 (by decide) [.int a0] rfl (fun _ hc => s_X6_hasNumber G Z hG hZ   h1 hc) (Nat.le_of_ble_eq_true rfl) dX8_copy_5 rfl (fun r2 => ?_)
  refine v_ifeq C (t := 22) dX8_copy_8 (by decide) ?_ ?_
  · refine v_ldc C (v := (-1000001)) (w4 13 rfl) dX8_copy_22 ?_
    exact v_iret C hr dX8_copy_24 (fun a h => by have h := Option.some.inj h; subst h; rfl)
  · refine v_aload_n C (n := 0) rfl rfl dX8_copy_11 ?_
    refine v_getr C (t := 6) fl_X8_10 rfl rfl ht dX8_copy_12 (fun h3 => ?_)
    refine v_iload_n C (n := 3) rfl rfl dX8_copy_15 ?_
    refine v_cvRi C (d := 0) (hR.le (by omega)) (c := 6) rfl cv_X8_94 (by decide) h3 (by decide) [.int a2] rfl (fun _ hc => s_X6_hasNumber G Z hG hZ   h3 hc) (Nat.le_of_ble_eq_true rfl) dX8_copy_16 rfl (fun r4 => ?_)
    refine v_ifne C (t := 25) dX8_copy_19 (by decide) ?_ ?_
    · refine v_aload_n C (n := 0) rfl rfl dX8_copy_25 ?_
      refine v_getr C (t := 6) fl_X8_10 rfl rfl ht dX8_copy_26 (fun h5 => ?_)
      refine v_iload_n C (n := 1) rfl rfl dX8_copy_29 ?_
      refine v_iload_n C (n := 3) rfl rfl dX8_copy_30 ?_
      refine v_cvRi C (d := 1) (hR.le (by omega)) (c := 6) rfl cv_X8_117 (by decide) h5 (by decide) [.int a0, .int a2] rfl (fun _ hc => s_X6_findingBetween G Z hG hZ   h5 hc) (Nat.le_of_ble_eq_true rfl) dX8_copy_31 rfl (fun r6 => ?_)
      refine v_istore C (lv' := [(6, .int r6), (0, .ref (ga G this)), (1, .int a0), (2, .int a1), (3, .int a2), (4, .int a3), (5, .int a4)]) (by decide) rfl dX8_copy_34 ?_
      refine v_iload C (n := 0) rfl dX8_copy_36 ?_
      refine v_join 54 (fun t : Int32 => [(0, .ref (ga G this)), (1, .int a0), (2, .int a1), (3, .int a2), (4, .int a3), (5, .int a4), (6, .int t)]) (fun t : Int32 => []) (fun t : Int32 => μ) ?_ ?_
      · intro y7
        refine v_iload C (n := 6) rfl dX8_copy_54 ?_
        refine v_join 73 (fun t : Int32 => [(0, .ref (ga G this)), (1, .int a0), (2, .int a1), (3, .int a2), (4, .int a3), (5, .int a4), (6, .int t)]) (fun t : Int32 => []) (fun t : Int32 => μ) ?_ ?_
        · intro y10
          refine v_iload C (n := 6) rfl dX8_copy_73 ?_
          refine v_ifeq C (t := 85) dX8_copy_75 (by decide) ?_ ?_
          · refine v_aload_n C (n := 0) rfl rfl dX8_copy_85 ?_
            refine v_getr C (t := 6) fl_X8_10 rfl rfl ht dX8_copy_86 (fun h13 => ?_)
            refine v_iload_n C (n := 1) rfl rfl dX8_copy_89 ?_
            refine v_iload_n C (n := 2) rfl rfl dX8_copy_90 ?_
            refine v_iload_n C (n := 3) rfl rfl dX8_copy_91 ?_
            refine v_iload C (n := 4) rfl dX8_copy_92 ?_
            refine v_iload C (n := 5) rfl dX8_copy_94 ?_
            refine v_cvIv C (d := 1) (hR.le (by omega)) (c := 6) rfl cv_X8_121 (by decide) h13 (by decide) [.int a0, .int a1, .int a2, .int a3, .int a4] rfl (fun _ hc => s_X6_carry G Z hG hZ   h13 hc) (Nat.le_of_ble_eq_true rfl) dX8_copy_96 rfl (fun ν14 => ?_)
            refine v_aload_n C (n := 0) rfl rfl dX8_copy_99 ?_
            refine v_iload C (n := 5) rfl dX8_copy_100 ?_
            refine v_cvIi C (d := 0) (hR.le (by omega)) (c := 8) rfl cv_X8_107 (by decide) ht (by decide) [.int a4] rfl (fun _ hc => s_X8_fine G Z hG hZ   ht hc) (Nat.le_of_ble_eq_true rfl) dX8_copy_102 rfl (fun r15 ν16 => ?_)
            exact v_iret C hr dX8_copy_105 (fun a h => by have h := Option.some.inj h; subst h; rfl)
          · refine v_aload_n C (n := 0) rfl rfl dX8_copy_78 ?_
            refine v_iload C (n := 6) rfl dX8_copy_79 ?_
            refine v_cvIi C (d := 0) (hR.le (by omega)) (c := 8) rfl cv_X8_99 (by decide) ht (by decide) [.int y10] rfl (fun _ hc => s_X8_found G Z hG hZ   ht hc) (Nat.le_of_ble_eq_true rfl) dX8_copy_81 rfl (fun r17 ν18 => ?_)
            exact v_iret C hr dX8_copy_84 (fun a h => by have h := Option.some.inj h; subst h; rfl)
        intro F12 hF11
        refine v_ifne C (t := 73) dX8_copy_56 (by decide) ?_ ?_
        · exact v_leaf (hF11 y7)
        · refine v_aload_n C (n := 0) rfl rfl dX8_copy_59 ?_
          refine v_getr C (t := 6) fl_X8_10 rfl rfl ht dX8_copy_60 (fun h19 => ?_)
          refine v_iload_n C (n := 3) rfl rfl dX8_copy_63 ?_
          refine v_iload C (n := 4) rfl dX8_copy_64 ?_
          refine v_iload C (n := 5) rfl dX8_copy_66 ?_
          refine v_cvRi C (d := 1) (hR.le (by omega)) (c := 6) rfl cv_X8_110 (by decide) h19 (by decide) [.int a2, .int a3, .int a4] rfl (fun _ hc => s_X6_findingAt G Z hG hZ   h19 hc) (Nat.le_of_ble_eq_true rfl) dX8_copy_68 rfl (fun r20 => ?_)
          refine v_istore C (lv' := [(6, .int r20), (0, .ref (ga G this)), (1, .int a0), (2, .int a1), (3, .int a2), (4, .int a3), (5, .int a4)]) (by decide) rfl dX8_copy_71 ?_
          refine v_sub (lv' := [(0, .ref (ga G this)), (1, .int a0), (2, .int a1), (3, .int a2), (4, .int a3), (5, .int a4), (6, .int r20)]) [1, 2, 3, 4, 5, 6, 0] rfl ?_
          exact v_leaf (hF11 r20)
      intro F9 hF8
      refine v_ifne C (t := 54) dX8_copy_38 (by decide) ?_ ?_
      · refine v_sub (lv' := [(0, .ref (ga G this)), (1, .int a0), (2, .int a1), (3, .int a2), (4, .int a3), (5, .int a4), (6, .int r6)]) [1, 2, 3, 4, 5, 6, 0] rfl ?_
        exact v_leaf (hF8 r6)
      · refine v_aload_n C (n := 1) rfl rfl dX8_copy_41 ?_
        refine v_getr C (t := 6) fl_X8_10 rfl rfl ht dX8_copy_42 (fun h21 => ?_)
        refine v_iload_n C (n := 2) rfl rfl dX8_copy_45 ?_
        refine v_iload_n C (n := 3) rfl rfl dX8_copy_46 ?_
        refine v_iload C (n := 6) rfl dX8_copy_47 ?_
        refine v_cvRi C (d := 1) (hR.le (by omega)) (c := 6) rfl cv_X8_110 (by decide) h21 (by decide) [.int a0, .int a1, .int a4] rfl (fun _ hc => s_X6_findingAt G Z hG hZ   h21 hc) (Nat.le_of_ble_eq_true rfl) dX8_copy_49 rfl (fun r22 => ?_)
        refine v_istore C (lv' := [(6, .int r22), (0, .ref (ga G this)), (1, .int a0), (2, .int a1), (3, .int a2), (4, .int a3), (5, .int a4)]) (by decide) rfl dX8_copy_52 ?_
        refine v_sub (lv' := [(0, .ref (ga G this)), (1, .int a0), (2, .int a1), (3, .int a2), (4, .int a3), (5, .int a4), (6, .int r22)]) [1, 2, 3, 4, 5, 6, 0] rfl ?_
        exact v_leaf (hF8 r22)
    · refine v_ldc C (v := (-1000001)) (w4 13 rfl) dX8_copy_22 ?_
      exact v_iret C hr dX8_copy_24 (fun a h => by have h := Option.some.inj h; subst h; rfl)
set_option maxRecDepth 20000 in
set_option maxHeartbeats 4000000 in
theorem s_X8_beginPlan {l : Launch} (G : GT) (Z : ZT) (hG : DA G) (hZ : WT G Z) {this : Nat} {μ : MT} {q : MT} (ht : Ob G Z this 8) (hq : m_X8_beginPlan Z (gn G) this μ = some q) : MZ l G Z yX8_beginPlan cX8_beginPlan 1 none 2 [.ref (ga G this)] μ none q := by
  refine v_met (J := (fun ν : MT => ((none : Option Value), ν))) hG hZ (by decide) (Nat.le_of_ble_eq_true rfl) hq ?_
  intro x C hR _ hr
  show VK x G Z (0, 0) 1 (QM x G Z) (fun ν : MT => ((none : Option Value), ν)) 0 [(0, .ref (ga G this))] [] μ _ some
  unfold m_X8_beginPlan
  refine v_aload_n C (n := 0) rfl rfl dX8_beginPlan_0 ?_
  refine v_iconst C (v := 0) (by decide) dX8_beginPlan_1 ?_
  refine v_putz C (Or.inl rfl) fp_X8_83 rfl rfl ht dX8_beginPlan_2 (fun ν1 => ?_)
  refine v_aload_n C (n := 0) rfl rfl dX8_beginPlan_5 ?_
  refine v_getr C (t := 20) fl_X8_32 rfl rfl ht dX8_beginPlan_6 (fun h2 => ?_)
  refine v_iconst C (v := 0) (by decide) dX8_beginPlan_9 ?_
  refine v_csIv C (d := 0) (hR.le (by omega)) cs_X8_157 (by decide) [.ref (ga G (zr Z this 3)), .int 0] rfl (fun _ hc => s_J7_fill_53178 G Z hG hZ   h2 hc) (Nat.le_of_ble_eq_true rfl) dX8_beginPlan_10 rfl (fun ν3 => ?_)
  refine v_gets C (k := 1000) C.2.2.2.2.2.2.1.1 (w7 35 rfl) dX8_beginPlan_13 ?_
  refine v_iconst C (v := 0) (by decide) dX8_beginPlan_16 ?_
  refine v_aload_n C (n := 0) rfl rfl dX8_beginPlan_17 ?_
  refine v_getr C (t := 20) fl_X8_36 rfl rfl ht dX8_beginPlan_18 (fun h4 => ?_)
  refine v_iconst C (v := 0) (by decide) dX8_beginPlan_21 ?_
  refine v_bipush C (v := 6) (by decide) dX8_beginPlan_22 ?_
  refine v_copy C (hR.le (by omega)) cy_X8_166 (C.2.2.2.2.2.2.2.2.1.2.2.2.2 0 (by decide)) h4 (Nat.le_of_ble_eq_true rfl) dX8_beginPlan_24 (fun ν5 => ?_)
  refine v_aload_n C (n := 0) rfl rfl dX8_beginPlan_27 ?_
  refine v_getr C (t := 2) fl_X8_45 rfl rfl ht dX8_beginPlan_28 (fun h6 => ?_)
  refine v_aload_n C (n := 0) rfl rfl dX8_beginPlan_31 ?_
  refine v_getm C fl_X8_76 rfl ht dX8_beginPlan_32 (fun q7 h8 => ?_)
  refine v_getiN C fn_X8_172 rfl h8 dX8_beginPlan_35 ?_
  refine v_aload_n C (n := 0) rfl rfl dX8_beginPlan_38 ?_
  refine v_getr C (t := 20) fl_X8_32 rfl rfl ht dX8_beginPlan_39 (fun h9 => ?_)
  refine v_cvIv C (d := 1) (hR.le (by omega)) (c := 2) rfl cv_X8_175 (by decide) h6 (by decide) [.int (ν5 q7 0), .ref (ga G (zr Z this 3))] rfl (fun _ hc => s_X2_begin G Z hG hZ   h6 h9.oa hc) (Nat.le_of_ble_eq_true rfl) dX8_beginPlan_42 rfl (fun ν10 => ?_)
  refine v_aload_n C (n := 0) rfl rfl dX8_beginPlan_45 ?_
  refine v_getr C (t := 5) fl_X8_55 rfl rfl ht dX8_beginPlan_46 (fun h11 => ?_)
  refine v_cvIv C (d := 0) (hR.le (by omega)) (c := 5) rfl cv_X8_179 (by decide) h11 (by decide) [] rfl (fun _ hc => s_X5_forget G Z hG hZ   h11 hc) (Nat.le_of_ble_eq_true rfl) dX8_beginPlan_49 rfl (fun ν12 => ?_)
  refine v_aload_n C (n := 0) rfl rfl dX8_beginPlan_52 ?_
  refine v_getr C (t := 1) fl_X8_62 rfl rfl ht dX8_beginPlan_53 (fun h13 => ?_)
  refine v_cvIv C (d := 0) (hR.le (by omega)) (c := 1) rfl cv_X8_182 (by decide) h13 (by decide) [] rfl (fun _ hc => s_X1_forget G Z hG hZ   h13 hc) (Nat.le_of_ble_eq_true rfl) dX8_beginPlan_56 rfl (fun ν14 => ?_)
  exact v_vret C hr dX8_beginPlan_59 (fun a h => by have h := Option.some.inj h; subst h; rfl)
