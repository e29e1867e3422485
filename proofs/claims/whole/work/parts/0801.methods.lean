def m_X2_shrinkageOf (Z : ZT) (this : Nat) (a0 : Int32) (a1 : Int32) (a2 : Int32) (μ : MT) : Option (Int32) :=
  (m_X2_holds Z this (a1 + 1) μ).bind fun r1 => (((if r1 = 0 then some a2 else some (a2 - 1)) : Option (Int32))).bind (fun z2 => (if a0 = 0 then some 1 else if a0 = 2 then some z2 else if a0 = 3 then (m_X2_holds Z this (a1 - 1) μ).bind fun r8 => (((if r8 = 0 then (m_X2_holds Z this (a1 + 1) μ).bind fun r12 => (if r12 = 0 then some (Sum.inl (z2 - 1)) else some (Sum.inr ())) else some (Sum.inr ())) : Option ((Int32) ⊕ (Unit)))).bind (jn (fun (_ : Unit) => some z2)) else if a0 = 4 then (m_X2_holds Z this a1 μ).bind fun r14 => (if r14 = 0 then some a2 else (idv a2 2).bind fun x15 => some x15) else if a0 = 5 then some (-a2) else if a0 = 6 then (ald Z μ (zr Z this 3) a1).bind fun x19 => (if x19 ≤ 0 then some a2 else some (-a2)) else some a2))
set_option maxRecDepth 20000 in
set_option maxHeartbeats 4000000 in
theorem s_X2_shrinkageOf {l : Launch} (G : GT) (Z : ZT) (hG : DA G) (hZ : WT G Z) {this : Nat} {a0 : Int32} {a1 : Int32} {a2 : Int32} {μ : MT} {q : Int32} (ht : Ob G Z this 2) (hq : m_X2_shrinkageOf Z this a0 a1 a2 μ = some q) : MZ l G Z yX2_shrinkageOf cX2_shrinkageOf 5 (some .int) 1 [.ref (ga G this), .int a0, .int a1, .int a2] μ (some (.int q)) μ := by
  refine v_met (J := (fun r : Int32 => (some (.int r), μ))) hG hZ (by decide) (Nat.le_of_ble_eq_true rfl) hq ?_
  intro x C hR _ hr
  show VK x G Z (0, 0) 5 (QM x G Z) (fun r : Int32 => (some (.int r), μ)) 0 [(0, .ref (ga G this)), (1, .int a0), (2, .int a1), (3, .int a2)] [] μ _ some
  unfold m_X2_shrinkageOf
  refine v_aload_n C (n := 0) rfl rfl dX2_shrinkageOf_0 ?_
  refine v_iload_n C (n := 2) rfl rfl dX2_shrinkageOf_1 ?_
  refine v_iconst C (v := 1) (by decide) dX2_shrinkageOf_2 ?_
  refine v_iadd C dX2_shrinkageOf_3 ?_
  refine v_cvRi C (d := 0) (hR.le (by decide)) (c := 2) rfl cv_X2_125 (by decide) ht (by decide) [.int (a1 + 1)] rfl (fun _ hc => s_X2_holds G Z hG hZ   ht hc) (Nat.le_of_ble_eq_true rfl) dX2_shrinkageOf_4 rfl (fun r1 => ?_)
  refine v_join 17 (fun t => [(0, .ref (ga G this)), (1, .int a0), (2, .int a1), (3, .int a2)]) (fun t => [.int t]) (fun t => μ) ?_ ?_
  · intro z2
    refine v_istore C (lv' := [(4, .int z2), (0, .ref (ga G this)), (1, .int a0), (2, .int a1), (3, .int a2)]) (by decide) rfl dX2_shrinkageOf_17 ?_
    refine v_iload_n C (n := 2) rfl rfl dX2_shrinkageOf_19 ?_
    refine v_case (fun c5 => ?_) (fun c5 => ?_)
    · refine v_tin C (t := 64) (k := 0) c5 dX2_shrinkageOf_20 (by decide) (by decide) rfl (by decide) ?_
      refine v_iconst C (v := 1) (by decide) dX2_shrinkageOf_64 ?_
      exact v_iret C hr dX2_shrinkageOf_65 (fun a h => by cases h; rfl)
    refine v_case (fun c6 => ?_) (fun c6 => ?_)
    · refine v_tin C (t := 66) (k := 2) c6 dX2_shrinkageOf_20 (by decide) (by decide) rfl (by decide) ?_
      refine v_iload C (n := 0) rfl dX2_shrinkageOf_66 ?_
      exact v_iret C hr dX2_shrinkageOf_68 (fun a h => by cases h; rfl)
    refine v_case (fun c7 => ?_) (fun c7 => ?_)
    · refine v_tin C (t := 69) (k := 3) c7 dX2_shrinkageOf_20 (by decide) (by decide) rfl (by decide) ?_
      refine v_aload_n C (n := 1) rfl rfl dX2_shrinkageOf_69 ?_
      refine v_iload_n C (n := 3) rfl rfl dX2_shrinkageOf_70 ?_
      refine v_iconst C (v := 1) (by decide) dX2_shrinkageOf_71 ?_
      refine v_isub C dX2_shrinkageOf_72 ?_
      refine v_cvRi C (d := 0) (hR.le (by decide)) (c := 2) rfl cv_X2_125 (by decide) ht (by decide) [.int (a1 - 1)] rfl (fun _ hc => s_X2_holds G Z hG hZ   ht hc) (Nat.le_of_ble_eq_true rfl) dX2_shrinkageOf_73 rfl (fun r8 => ?_)
      refine v_joinm 89 (fun t => [(4, .int z2)]) (fun t => []) (fun t => μ) ?_ ?_
      · rintro ⟨⟩
        refine v_iload C (n := 0) rfl dX2_shrinkageOf_89 ?_
        refine v_goto C (t := 98) (by decide) dX2_shrinkageOf_91 ?_
        exact v_iret C hr dX2_shrinkageOf_98 (fun a h => by cases h; rfl)
      intro F10 e11 hF9
      refine v_ifne C (t := 89) dX2_shrinkageOf_76 (by decide) ?_ ?_
      · refine v_sub (lv' := [(4, .int z2)]) [0] rfl ?_
        exact v_leaf (hF9 ())
      · refine v_aload_n C (n := 1) rfl rfl dX2_shrinkageOf_79 ?_
        refine v_iload_n C (n := 3) rfl rfl dX2_shrinkageOf_80 ?_
        refine v_iconst C (v := 1) (by decide) dX2_shrinkageOf_81 ?_
        refine v_iadd C dX2_shrinkageOf_82 ?_
        refine v_cvRi C (d := 0) (hR.le (by decide)) (c := 2) rfl cv_X2_125 (by decide) ht (by decide) [.int (a1 + 1)] rfl (fun _ hc => s_X2_holds G Z hG hZ   ht hc) (Nat.le_of_ble_eq_true rfl) dX2_shrinkageOf_83 rfl (fun r12 => ?_)
        refine v_ifeq C (t := 94) dX2_shrinkageOf_86 (by decide) ?_ ?_
        · refine v_iload C (n := 0) rfl dX2_shrinkageOf_94 ?_
          refine v_iconst C (v := 1) (by decide) dX2_shrinkageOf_96 ?_
          refine v_isub C dX2_shrinkageOf_97 ?_
          exact v_iret C hr dX2_shrinkageOf_98 (fun a h => by simp only [ob_s, lq, e11] at h; cases h; rfl)
        · refine v_sub (lv' := [(4, .int z2)]) [0] rfl ?_
          exact v_leaf (hF9 ())
    refine v_case (fun c13 => ?_) (fun c13 => ?_)
    · refine v_tin C (t := 99) (k := 4) c13 dX2_shrinkageOf_20 (by decide) (by decide) rfl (by decide) ?_
      refine v_aload_n C (n := 1) rfl rfl dX2_shrinkageOf_99 ?_
      refine v_iload_n C (n := 3) rfl rfl dX2_shrinkageOf_100 ?_
      refine v_cvRi C (d := 0) (hR.le (by decide)) (c := 2) rfl cv_X2_125 (by decide) ht (by decide) [.int a1] rfl (fun _ hc => s_X2_holds G Z hG hZ   ht hc) (Nat.le_of_ble_eq_true rfl) dX2_shrinkageOf_101 rfl (fun r14 => ?_)
      refine v_ifeq C (t := 113) dX2_shrinkageOf_104 (by decide) ?_ ?_
      · refine v_iload_n C (n := 4) rfl rfl dX2_shrinkageOf_113 ?_
        exact v_iret C hr dX2_shrinkageOf_114 (fun a h => by cases h; rfl)
      · refine v_iload_n C (n := 4) rfl rfl dX2_shrinkageOf_107 ?_
        refine v_iconst C (v := 2) (by decide) dX2_shrinkageOf_108 ?_
        refine v_idiv C dX2_shrinkageOf_109 (fun x15 => ?_)
        refine v_goto C (t := 114) (by decide) dX2_shrinkageOf_110 ?_
        exact v_iret C hr dX2_shrinkageOf_114 (fun a h => by cases h; rfl)
    refine v_case (fun c16 => ?_) (fun c16 => ?_)
    · refine v_tin C (t := 115) (k := 5) c16 dX2_shrinkageOf_20 (by decide) (by decide) rfl (by decide) ?_
      refine v_iload_n C (n := 4) rfl rfl dX2_shrinkageOf_115 ?_
      refine v_ineg C dX2_shrinkageOf_116 ?_
      exact v_iret C hr dX2_shrinkageOf_117 (fun a h => by cases h; rfl)
    refine v_case (fun c17 => ?_) (fun c17 => ?_)
    · refine v_tin C (t := 118) (k := 6) c17 dX2_shrinkageOf_20 (by decide) (by decide) rfl (by decide) ?_
      refine v_aload_n C (n := 1) rfl rfl dX2_shrinkageOf_118 ?_
      refine v_getr C (t := 20) fl_X2_21 rfl rfl ht dX2_shrinkageOf_119 (fun h18 => ?_)
      refine v_iload_n C (n := 3) rfl rfl dX2_shrinkageOf_122 ?_
      refine v_iald C h18.oa dX2_shrinkageOf_123 (fun x19 => ?_)
      refine v_ifle C (t := 132) dX2_shrinkageOf_124 (by decide) ?_ ?_
      · refine v_iload_n C (n := 4) rfl rfl dX2_shrinkageOf_132 ?_
        exact v_iret C hr dX2_shrinkageOf_133 (fun a h => by cases h; rfl)
      · refine v_iload_n C (n := 4) rfl rfl dX2_shrinkageOf_127 ?_
        refine v_ineg C dX2_shrinkageOf_128 ?_
        refine v_goto C (t := 133) (by decide) dX2_shrinkageOf_129 ?_
        exact v_iret C hr dX2_shrinkageOf_133 (fun a h => by cases h; rfl)
    have nc5 := lv_neT (k := 0) (a := 0) c5 (by decide)
    have nc6 := lv_neT (k := 2) (a := 2) c6 (by decide)
    have nc7 := lv_neT (k := 3) (a := 3) c7 (by decide)
    have nc13 := lv_neT (k := 4) (a := 4) c13 (by decide)
    have nc16 := lv_neT (k := 5) (a := 5) c16 (by decide)
    have nc17 := lv_neT (k := 6) (a := 6) c17 (by decide)
    refine v_tout2 C (t := 134) dX2_shrinkageOf_20 (by
      by_cases k1 : a0 = 1
      · exact Or.inr ⟨by rw [k1]; decide, by rw [k1]; decide, by rw [k1]; rfl⟩
      have nk1 := lv_neT (k := 1) (a := 1) k1 (by decide)
      exact Or.inl (by omega)) (by decide) ?_
    refine v_iload_n C (n := 4) rfl rfl dX2_shrinkageOf_134 ?_
    exact v_iret C hr dX2_shrinkageOf_135 (fun a h => by cases h; rfl)
  intro F4 hF3
  refine v_ifeq C (t := 16) dX2_shrinkageOf_7 (by decide) ?_ ?_
  · refine v_iload_n C (n := 3) rfl rfl dX2_shrinkageOf_16 ?_
    exact v_leaf (hF3 a2)
  · refine v_iload_n C (n := 3) rfl rfl dX2_shrinkageOf_10 ?_
    refine v_iconst C (v := 1) (by decide) dX2_shrinkageOf_11 ?_
    refine v_isub C dX2_shrinkageOf_12 ?_
    refine v_goto C (t := 17) (by decide) dX2_shrinkageOf_13 ?_
    exact v_leaf (hF3 (a2 - 1))
def m_X2_freeOne (Z : ZT) (this : Nat) (a0 : Int32) (μ : MT) : Option (MT) :=
  (m_X2_has Z this a0 μ).bind fun r1 => (if r1 = 0 then some μ else (m_X2_isClamped Z this a0 μ).bind fun r2 => (if r2 = 0 then some μ else (some (u2 μ this 6 ((μ this 6) &&& ((1 <<< (a0 &&& 31)) ^^^ (-1))))).bind fun ν3 => (ald Z ν3 (zr Z this 3) a0).bind fun x5 => (ald Z ν3 (zr Z this 4) a0).bind fun x7 => (idv x7 2).bind fun x8 => (ast Z ν3 (zr Z this 3) a0 (x5 + x8)).bind fun ν9 => (ast Z ν9 (zr Z this 4) a0 0).bind fun ν11 => some ν11))
set_option maxRecDepth 20000 in
set_option maxHeartbeats 4000000 in
theorem s_X2_freeOne {l : Launch} (G : GT) (Z : ZT) (hG : DA G) (hZ : WT G Z) {this : Nat} {a0 : Int32} {μ : MT} {q : MT} (ht : Ob G Z this 2) (hq : m_X2_freeOne Z this a0 μ = some q) : MZ l G Z yX2_freeOne cX2_freeOne 2 none 1 [.ref (ga G this), .int a0] μ none q := by
  refine v_met (J := (fun ν : MT => ((none : Option Value), ν))) hG hZ (by decide) (Nat.le_of_ble_eq_true rfl) hq ?_
  intro x C hR _ hr
  show VK x G Z (0, 0) 2 (QM x G Z) (fun ν : MT => ((none : Option Value), ν)) 0 [(0, .ref (ga G this)), (1, .int a0)] [] μ _ some
  unfold m_X2_freeOne
  refine v_aload_n C (n := 0) rfl rfl dX2_freeOne_0 ?_
  refine v_iload_n C (n := 1) rfl rfl dX2_freeOne_1 ?_
  refine v_cvRi C (d := 0) (hR.le (by decide)) (c := 2) rfl cv_X2_102 (by decide) ht (by decide) [.int a0] rfl (fun _ hc => s_X2_has G Z hG hZ   ht hc) (Nat.le_of_ble_eq_true rfl) dX2_freeOne_2 rfl (fun r1 => ?_)
  refine v_ifeq C (t := 54) dX2_freeOne_5 (by decide) ?_ ?_
  · exact v_vret C hr dX2_freeOne_54 (fun a h => by cases h; rfl)
  · refine v_aload_n C (n := 0) rfl rfl dX2_freeOne_8 ?_
    refine v_iload_n C (n := 1) rfl rfl dX2_freeOne_9 ?_
    refine v_cvRi C (d := 0) (hR.le (by decide)) (c := 2) rfl cv_X2_116 (by decide) ht (by decide) [.int a0] rfl (fun _ hc => s_X2_isClamped G Z hG hZ   ht hc) (Nat.le_of_ble_eq_true rfl) dX2_freeOne_10 rfl (fun r2 => ?_)
    refine v_ifeq C (t := 54) dX2_freeOne_13 (by decide) ?_ ?_
    · exact v_vret C hr dX2_freeOne_54 (fun a h => by cases h; rfl)
    · refine v_aload_n C (n := 0) rfl rfl dX2_freeOne_16 ?_
      refine v_dup C rfl dX2_freeOne_17 ?_
      refine v_geti C fl_X2_30 rfl ht dX2_freeOne_18 ?_
      refine v_iconst C (v := 1) (by decide) dX2_freeOne_21 ?_
      refine v_iload_n C (n := 1) rfl rfl dX2_freeOne_22 ?_
      refine v_ishl C dX2_freeOne_23 ?_
      refine v_iconst C (v := (-1)) (by decide) dX2_freeOne_24 ?_
      refine v_ixor C dX2_freeOne_25 ?_
      refine v_iand C dX2_freeOne_26 ?_
      refine v_puti C fp_X2_30 rfl rfl ht dX2_freeOne_27 (fun ν3 => ?_)
      refine v_aload_n C (n := 0) rfl rfl dX2_freeOne_30 ?_
      refine v_getr C (t := 20) fl_X2_21 rfl rfl ht dX2_freeOne_31 (fun h4 => ?_)
      refine v_iload_n C (n := 1) rfl rfl dX2_freeOne_34 ?_
      refine v_dup2 C rfl rfl dX2_freeOne_35 ?_
      refine v_iald C h4.oa dX2_freeOne_36 (fun x5 => ?_)
      refine v_aload_n C (n := 0) rfl rfl dX2_freeOne_37 ?_
      refine v_getr C (t := 20) fl_X2_24 rfl rfl ht dX2_freeOne_38 (fun h6 => ?_)
      refine v_iload_n C (n := 1) rfl rfl dX2_freeOne_41 ?_
      refine v_iald C h6.oa dX2_freeOne_42 (fun x7 => ?_)
      refine v_iconst C (v := 2) (by decide) dX2_freeOne_43 ?_
      refine v_idiv C dX2_freeOne_44 (fun x8 => ?_)
      refine v_iadd C dX2_freeOne_45 ?_
      refine v_iast C h4 dX2_freeOne_46 (fun ν9 => ?_)
      refine v_aload_n C (n := 0) rfl rfl dX2_freeOne_47 ?_
      refine v_getr C (t := 20) fl_X2_24 rfl rfl ht dX2_freeOne_48 (fun h10 => ?_)
      refine v_iload_n C (n := 1) rfl rfl dX2_freeOne_51 ?_
      refine v_iconst C (v := 0) (by decide) dX2_freeOne_52 ?_
      refine v_iast C h10 dX2_freeOne_53 (fun ν11 => ?_)
      exact v_vret C hr dX2_freeOne_54 (fun a h => by cases h; rfl)
def m_X2_heatOf (Z : ZT) (this : Nat) (a0 : Int32) (μ : MT) : Option (Int32 × MT) :=
  (m_X2_has Z this a0 μ).bind fun r1 => (if r1 = 0 then some (0, μ) else (m_X2_cool Z this a0 μ).bind fun ν2 => (ald Z ν2 (zr Z this 0) a0).bind fun x4 => some (x4, ν2))
set_option maxRecDepth 20000 in
set_option maxHeartbeats 4000000 in
theorem s_X2_heatOf {l : Launch} (G : GT) (Z : ZT) (hG : DA G) (hZ : WT G Z) {this : Nat} {a0 : Int32} {μ : MT} {q : Int32 × MT} (ht : Ob G Z this 2) (hq : m_X2_heatOf Z this a0 μ = some q) : MZ l G Z yX2_heatOf cX2_heatOf 2 (some .int) 1 [.ref (ga G this), .int a0] μ (some (.int q.1)) q.2 := by
  refine v_met (J := (fun q : Int32 × MT => (some (.int q.1), q.2))) hG hZ (by decide) (Nat.le_of_ble_eq_true rfl) hq ?_
  intro x C hR _ hr
  show VK x G Z (0, 0) 2 (QM x G Z) (fun q : Int32 × MT => (some (.int q.1), q.2)) 0 [(0, .ref (ga G this)), (1, .int a0)] [] μ _ some
  unfold m_X2_heatOf
  refine v_aload_n C (n := 0) rfl rfl dX2_heatOf_0 ?_
  refine v_iload_n C (n := 1) rfl rfl dX2_heatOf_1 ?_
  refine v_cvRi C (d := 0) (hR.le (by decide)) (c := 2) rfl cv_X2_102 (by decide) ht (by decide) [.int a0] rfl (fun _ hc => s_X2_has G Z hG hZ   ht hc) (Nat.le_of_ble_eq_true rfl) dX2_heatOf_2 rfl (fun r1 => ?_)
  refine v_ifne C (t := 10) dX2_heatOf_5 (by decide) ?_ ?_
  · refine v_aload_n C (n := 0) rfl rfl dX2_heatOf_10 ?_
    refine v_iload_n C (n := 1) rfl rfl dX2_heatOf_11 ?_
    refine v_cvIv C (d := 0) (hR.le (by decide)) (c := 2) rfl cv_X2_106 (by decide) ht (by decide) [.int a0] rfl (fun _ hc => s_X2_cool G Z hG hZ   ht hc) (Nat.le_of_ble_eq_true rfl) dX2_heatOf_12 rfl (fun ν2 => ?_)
    refine v_aload_n C (n := 0) rfl rfl dX2_heatOf_15 ?_
    refine v_getr C (t := 20) fl_X2_9 rfl rfl ht dX2_heatOf_16 (fun h3 => ?_)
    refine v_iload_n C (n := 1) rfl rfl dX2_heatOf_19 ?_
    refine v_iald C h3.oa dX2_heatOf_20 (fun x4 => ?_)
    exact v_iret C hr dX2_heatOf_21 (fun a h => by cases h; rfl)
  · refine v_iconst C (v := 0) (by decide) dX2_heatOf_8 ?_
    exact v_iret C hr dX2_heatOf_9 (fun a h => by cases h; rfl)
def m_X2_pullOf (Z : ZT) (this : Nat) (a0 : Int32) (μ : MT) : Option (Int32) :=
  (m_X2_has Z this a0 μ).bind fun r1 => (if r1 = 0 then some 0 else (ald Z μ (zr Z this 5) a0).bind fun x3 => some (((μ this 7) * x3) - (μ this 9)))
set_option maxRecDepth 20000 in
set_option maxHeartbeats 4000000 in
theorem s_X2_pullOf {l : Launch} (G : GT) (Z : ZT) (hG : DA G) (hZ : WT G Z) {this : Nat} {a0 : Int32} {μ : MT} {q : Int32} (ht : Ob G Z this 2) (hq : m_X2_pullOf Z this a0 μ = some q) : MZ l G Z yX2_pullOf cX2_pullOf 2 (some .int) 1 [.ref (ga G this), .int a0] μ (some (.int q)) μ := by
  refine v_met (J := (fun r : Int32 => (some (.int r), μ))) hG hZ (by decide) (Nat.le_of_ble_eq_true rfl) hq ?_
  intro x C hR _ hr
  show VK x G Z (0, 0) 2 (QM x G Z) (fun r : Int32 => (some (.int r), μ)) 0 [(0, .ref (ga G this)), (1, .int a0)] [] μ _ some
  unfold m_X2_pullOf
  refine v_aload_n C (n := 0) rfl rfl dX2_pullOf_0 ?_
  refine v_iload_n C (n := 1) rfl rfl dX2_pullOf_1 ?_
  refine v_cvRi C (d := 0) (hR.le (by decide)) (c := 2) rfl cv_X2_102 (by decide) ht (by decide) [.int a0] rfl (fun _ hc => s_X2_has G Z hG hZ   ht hc) (Nat.le_of_ble_eq_true rfl) dX2_pullOf_2 rfl (fun r1 => ?_)
  refine v_ifeq C (t := 27) dX2_pullOf_5 (by decide) ?_ ?_
  · refine v_iconst C (v := 0) (by decide) dX2_pullOf_27 ?_
    exact v_iret C hr dX2_pullOf_28 (fun a h => by cases h; rfl)
  · refine v_aload_n C (n := 0) rfl rfl dX2_pullOf_8 ?_
    refine v_geti C fl_X2_34 rfl ht dX2_pullOf_9 ?_
    refine v_aload_n C (n := 0) rfl rfl dX2_pullOf_12 ?_
    refine v_getr C (t := 20) fl_X2_27 rfl rfl ht dX2_pullOf_13 (fun h2 => ?_)
    refine v_iload_n C (n := 1) rfl rfl dX2_pullOf_16 ?_
    refine v_iald C h2.oa dX2_pullOf_17 (fun x3 => ?_)
    refine v_imul C dX2_pullOf_18 ?_
    refine v_aload_n C (n := 0) rfl rfl dX2_pullOf_19 ?_
    refine v_geti C fl_X2_40 rfl ht dX2_pullOf_20 ?_
    refine v_isub C dX2_pullOf_23 ?_
    refine v_goto C (t := 28) (by decide) dX2_pullOf_24 ?_
    exact v_iret C hr dX2_pullOf_28 (fun a h => by cases h; rfl)
def m_X2_off (Z : ZT) (this : Nat) (μ : MT) : Option (Int32) :=
  (m_X2_heightAt Z this (μ this 7) μ).bind fun r1 => (loop (σ := Int32 × Int32 × Int32 × Int32) (τ := Int32) (fun (y2, y3, y4, y5) => ((if (μ this 7) ≤ y5 then some (Sum.inr y4) else (ald Z μ (zr Z this 3) y5).bind fun x13 => (some (y2 + x13)).bind fun x14 => (some (y3 + x14)).bind fun x15 => (some (imax y4 (iabs (((μ this 7) * x15) - ((y5 + 1) * r1))))).bind fun x16 => (some (y5 + 1)).bind fun x17 => some (Sum.inl (x14, x15, x16, x17))) : Option ((Int32 × Int32 × Int32 × Int32) ⊕ (Int32)))) LN (0, 0, 0, 0)).bind (fun y6 => (if (μ this 7) ≤ 0 then some 0 else (idv y6 (μ this 7)).bind fun x11 => some x11))
set_option maxRecDepth 20000 in
set_option maxHeartbeats 4000000 in
theorem s_X2_off {l : Launch} (G : GT) (Z : ZT) (hG : DA G) (hZ : WT G Z) {this : Nat} {μ : MT} {q : Int32} (ht : Ob G Z this 2) (hq : m_X2_off Z this μ = some q) : MZ l G Z yX2_off cX2_off 6 (some .int) 1 [.ref (ga G this)] μ (some (.int q)) μ := by
  refine v_met (J := (fun r : Int32 => (some (.int r), μ))) hG hZ (by decide) (Nat.le_of_ble_eq_true rfl) hq ?_
  intro x C hR _ hr
  show VK x G Z (0, 0) 6 (QM x G Z) (fun r : Int32 => (some (.int r), μ)) 0 [(0, .ref (ga G this))] [] μ _ some
  unfold m_X2_off
  refine v_aload_n C (n := 0) rfl rfl dX2_off_0 ?_
  refine v_aload_n C (n := 0) rfl rfl dX2_off_1 ?_
  refine v_geti C fl_X2_34 rfl ht dX2_off_2 ?_
  refine v_cvRi C (d := 0) (hR.le (by decide)) (c := 2) rfl cv_X2_132 (by decide) ht (by decide) [.int (μ this 7)] rfl (fun _ hc => s_X2_heightAt G Z hG hZ   ht hc) (Nat.le_of_ble_eq_true rfl) dX2_off_5 rfl (fun r1 => ?_)
  refine v_istore_n C (lv' := [(1, .int r1), (0, .ref (ga G this))]) rfl (by decide) rfl dX2_off_8 ?_
  refine v_iconst C (v := 0) (by decide) dX2_off_9 ?_
  refine v_istore_n C (lv' := [(2, .int 0), (1, .int r1), (0, .ref (ga G this))]) rfl (by decide) rfl dX2_off_10 ?_
  refine v_iconst C (v := 0) (by decide) dX2_off_11 ?_
  refine v_istore_n C (lv' := [(3, .int 0), (2, .int 0), (1, .int r1), (0, .ref (ga G this))]) rfl (by decide) rfl dX2_off_12 ?_
  refine v_iconst C (v := 0) (by decide) dX2_off_13 ?_
  refine v_istore C (lv' := [(4, .int 0), (3, .int 0), (2, .int 0), (1, .int r1), (0, .ref (ga G this))]) (by decide) rfl dX2_off_14 ?_
  refine v_iconst C (v := 0) (by decide) dX2_off_16 ?_
  refine v_istore C (lv' := [(5, .int 0), (4, .int 0), (3, .int 0), (2, .int 0), (1, .int r1), (0, .ref (ga G this))]) (by decide) rfl dX2_off_17 ?_
  refine v_sub (lv' := [(0, .ref (ga G this)), (1, .int r1), (2, .int 0), (3, .int 0), (4, .int 0), (5, .int 0)]) [5, 4, 3, 2, 1, 0] rfl ?_
  refine v_lp 19 71 (fun t => [(0, .ref (ga G this)), (1, .int r1), (2, .int (t.1)), (3, .int (t.2.1)), (4, .int (t.2.2.1)), (5, .int (t.2.2.2))]) (fun t => μ) (fun t => [(0, .ref (ga G this)), (4, .int t)]) (fun t => μ) ?_ ?_ LN (0, 0, 0, 0)
  · intro y6
    refine v_aload_n C (n := 0) rfl rfl dX2_off_71 ?_
    refine v_geti C fl_X2_34 rfl ht dX2_off_72 ?_
    refine v_ifle C (t := 88) dX2_off_75 (by decide) ?_ ?_
    · refine v_iconst C (v := 0) (by decide) dX2_off_88 ?_
      exact v_iret C hr dX2_off_89 (fun a h => by cases h; rfl)
    · refine v_iload C (n := 1) rfl dX2_off_78 ?_
      refine v_aload_n C (n := 0) rfl rfl dX2_off_80 ?_
      refine v_geti C fl_X2_34 rfl ht dX2_off_81 ?_
      refine v_idiv C dX2_off_84 (fun x11 => ?_)
      refine v_goto C (t := 89) (by decide) dX2_off_85 ?_
      exact v_iret C hr dX2_off_89 (fun a h => by cases h; rfl)
  · intro X7 F9 hX8 hF10
    rintro ⟨y2, y3, y4, y5⟩
    refine v_iload C (n := 5) rfl dX2_off_19 ?_
    refine v_aload_n C (n := 0) rfl rfl dX2_off_21 ?_
    refine v_geti C fl_X2_34 rfl ht dX2_off_22 ?_
    refine v_icge C (t := 71) dX2_off_25 (by decide) ?_ ?_
    · refine v_sub (lv' := [(0, .ref (ga G this)), (4, .int y4)]) [0, 4] rfl ?_
      exact v_leaf (hF10 y4)
    · refine v_iload_n C (n := 2) rfl rfl dX2_off_28 ?_
      refine v_aload_n C (n := 0) rfl rfl dX2_off_29 ?_
      refine v_getr C (t := 20) fl_X2_21 rfl rfl ht dX2_off_30 (fun h12 => ?_)
      refine v_iload C (n := 5) rfl dX2_off_33 ?_
      refine v_iald C h12.oa dX2_off_35 (fun x13 => ?_)
      refine v_iadd C dX2_off_36 ?_
      refine v_istore_n C (lv' := [(2, .int (y2 + x13)), (0, .ref (ga G this)), (1, .int r1), (3, .int y3), (4, .int y4), (5, .int y5)]) rfl (by decide) rfl dX2_off_37 ?_
      refine v_let (y := (y2 + x13)) (fun x14 => [(2, .int x14), (0, .ref (ga G this)), (1, .int r1), (3, .int y3), (4, .int y4), (5, .int y5)]) (fun x14 => []) (fun x14 => ?_)
      refine v_iload_n C (n := 3) rfl rfl dX2_off_38 ?_
      refine v_iload_n C (n := 0) rfl rfl dX2_off_39 ?_
      refine v_iadd C dX2_off_40 ?_
      refine v_istore_n C (lv' := [(3, .int (y3 + x14)), (2, .int x14), (0, .ref (ga G this)), (1, .int r1), (4, .int y4), (5, .int y5)]) rfl (by decide) rfl dX2_off_41 ?_
      refine v_let (y := (y3 + x14)) (fun x15 => [(3, .int x15), (2, .int x14), (0, .ref (ga G this)), (1, .int r1), (4, .int y4), (5, .int y5)]) (fun x15 => []) (fun x15 => ?_)
      refine v_iload C (n := 4) rfl dX2_off_42 ?_
      refine v_aload_n C (n := 2) rfl rfl dX2_off_44 ?_
      refine v_geti C fl_X2_34 rfl ht dX2_off_45 ?_
      refine v_iload_n C (n := 0) rfl rfl dX2_off_48 ?_
      refine v_imul C dX2_off_49 ?_
      refine v_iload C (n := 5) rfl dX2_off_50 ?_
      refine v_iconst C (v := 1) (by decide) dX2_off_52 ?_
      refine v_iadd C dX2_off_53 ?_
      refine v_iload_n C (n := 3) rfl rfl dX2_off_54 ?_
      refine v_imul C dX2_off_55 ?_
      refine v_isub C dX2_off_56 ?_
      refine v_mabs C (hR.le (by decide)) cm_X2_135 (Nat.le_of_ble_eq_true rfl) dX2_off_57 ?_
      refine v_mmax C (hR.le (by decide)) cm_X2_138 (Nat.le_of_ble_eq_true rfl) dX2_off_60 ?_
      refine v_istore C (lv' := [(4, .int (imax y4 (iabs (((μ this 7) * x15) - ((y5 + 1) * r1))))), (3, .int x15), (2, .int x14), (0, .ref (ga G this)), (1, .int r1), (5, .int y5)]) (by decide) rfl dX2_off_63 ?_
      refine v_let (y := (imax y4 (iabs (((μ this 7) * x15) - ((y5 + 1) * r1))))) (fun x16 => [(4, .int x16), (3, .int x15), (2, .int x14), (0, .ref (ga G this)), (1, .int r1), (5, .int y5)]) (fun x16 => []) (fun x16 => ?_)
      refine v_iinc C (n := 5) (v := y5 + 1) (lv' := [(5, .int (y5 + 1)), (4, .int x16), (3, .int x15), (2, .int x14), (0, .ref (ga G this)), (1, .int r1)]) rfl rfl (by decide) rfl dX2_off_65 ?_
      refine v_let (y := y5 + 1) (fun x17 => [(5, .int x17), (4, .int x16), (3, .int x15), (2, .int x14), (0, .ref (ga G this)), (1, .int r1)]) (fun x17 => []) (fun x17 => ?_)
      refine v_goto C (t := 19) (by decide) dX2_off_68 ?_
      refine v_sub (lv' := [(0, .ref (ga G this)), (1, .int r1), (2, .int x14), (3, .int x15), (4, .int x16), (5, .int x17)]) [4, 5, 3, 2, 1, 0] rfl ?_
      exact v_leaf (hX8 (x14, x15, x16, x17))
def m_X3_clear (Z : ZT) (this : Nat) (μ : MT) : Option (MT) :=
  (some (u2 μ this 0 0)).bind fun ν1 => (some (u2 ν1 this 1 0)).bind fun ν2 => (some (u2 ν2 this 2 0)).bind fun ν3 => (some (u2 ν3 this 3 0)).bind fun ν4 => (m_J7_fill_53178 Z (zr Z this 9) 0 ν4).bind fun ν6 => some ν6
set_option maxRecDepth 20000 in
set_option maxHeartbeats 4000000 in
theorem s_X3_clear {l : Launch} (G : GT) (Z : ZT) (hG : DA G) (hZ : WT G Z) {this : Nat} {μ : MT} {q : MT} (ht : Ob G Z this 3) (hq : m_X3_clear Z this μ = some q) : MZ l G Z yX3_clear cX3_clear 1 none 1 [.ref (ga G this)] μ none q := by
  refine v_met (J := (fun ν : MT => ((none : Option Value), ν))) hG hZ (by decide) (Nat.le_of_ble_eq_true rfl) hq ?_
  intro x C hR _ hr
  show VK x G Z (0, 0) 1 (QM x G Z) (fun ν : MT => ((none : Option Value), ν)) 0 [(0, .ref (ga G this))] [] μ _ some
  unfold m_X3_clear
  refine v_aload_n C (n := 0) rfl rfl dX3_clear_0 ?_
  refine v_iconst C (v := 0) (by decide) dX3_clear_1 ?_
  refine v_puti C fp_X3_9 rfl rfl ht dX3_clear_2 (fun ν1 => ?_)
  refine v_aload_n C (n := 0) rfl rfl dX3_clear_5 ?_
  refine v_iconst C (v := 0) (by decide) dX3_clear_6 ?_
  refine v_puti C fp_X3_15 rfl rfl ht dX3_clear_7 (fun ν2 => ?_)
  refine v_aload_n C (n := 0) rfl rfl dX3_clear_10 ?_
  refine v_iconst C (v := 0) (by decide) dX3_clear_11 ?_
  refine v_puti C fp_X3_18 rfl rfl ht dX3_clear_12 (fun ν3 => ?_)
  refine v_aload_n C (n := 0) rfl rfl dX3_clear_15 ?_
  refine v_iconst C (v := 0) (by decide) dX3_clear_16 ?_
  refine v_puti C fp_X3_21 rfl rfl ht dX3_clear_17 (fun ν4 => ?_)
  refine v_aload_n C (n := 0) rfl rfl dX3_clear_20 ?_
  refine v_getr C (t := 20) fl_X3_40 rfl rfl ht dX3_clear_21 (fun h5 => ?_)
  refine v_iconst C (v := 0) (by decide) dX3_clear_24 ?_
  refine v_csIv C (d := 0) (hR.le (by decide)) cs_X3_43 (by decide) [.ref (ga G (zr Z this 9)), .int 0] rfl (fun _ hc => s_J7_fill_53178 G Z hG hZ   h5 hc) (Nat.le_of_ble_eq_true rfl) dX3_clear_25 rfl (fun ν6 => ?_)
  exact v_vret C hr dX3_clear_28 (fun a h => by cases h; rfl)
def m_X3_isStep (Z : ZT) (this : Nat) (a0 : Int32) (μ : MT) : Option (Int32) :=
  (m_X3_hasAct Z this a0 μ).bind fun r1 => (if r1 = 0 then some 0 else (ald Z μ (zr Z this 4) a0).bind fun x3 => (if 6 < x3 then some 0 else some 1))
set_option maxRecDepth 20000 in
set_option maxHeartbeats 4000000 in
theorem s_X3_isStep {l : Launch} (G : GT) (Z : ZT) (hG : DA G) (hZ : WT G Z) {this : Nat} {a0 : Int32} {μ : MT} {q : Int32} (ht : Ob G Z this 3) (hq : m_X3_isStep Z this a0 μ = some q) : MZ l G Z yX3_isStep cX3_isStep 2 (some .boolean) 1 [.ref (ga G this), .int a0] μ (some (.int q)) μ := by
  refine v_met (J := (fun r : Int32 => (some (.int r), μ))) hG hZ (by decide) (Nat.le_of_ble_eq_true rfl) hq ?_
  intro x C hR _ hr
  show VK x G Z (0, 0) 2 (QM x G Z) (fun r : Int32 => (some (.int r), μ)) 0 [(0, .ref (ga G this)), (1, .int a0)] [] μ _ some
  unfold m_X3_isStep
  refine v_aload_n C (n := 0) rfl rfl dX3_isStep_0 ?_
  refine v_iload_n C (n := 1) rfl rfl dX3_isStep_1 ?_
  refine v_cvRi C (d := 0) (hR.le (by decide)) (c := 3) rfl cv_X3_49 (by decide) ht (by decide) [.int a0] rfl (fun _ hc => s_X3_hasAct G Z hG hZ   ht hc) (Nat.le_of_ble_eq_true rfl) dX3_isStep_2 rfl (fun r1 => ?_)
  refine v_ifeq C (t := 23) dX3_isStep_5 (by decide) ?_ ?_
  · refine v_iconst C (v := 0) (by decide) dX3_isStep_23 ?_
    exact v_zret C (Or.inl rfl) hr dX3_isStep_24 (fun a h => by cases h; rfl)
  · refine v_aload_n C (n := 0) rfl rfl dX3_isStep_8 ?_
    refine v_getr C (t := 20) fl_X3_24 rfl rfl ht dX3_isStep_9 (fun h2 => ?_)
    refine v_iload_n C (n := 1) rfl rfl dX3_isStep_12 ?_
    refine v_iald C h2.oa dX3_isStep_13 (fun x3 => ?_)
    refine v_bipush C (v := 6) (by decide) dX3_isStep_14 ?_
    refine v_icgt C (t := 23) dX3_isStep_16 (by decide) ?_ ?_
    · refine v_iconst C (v := 0) (by decide) dX3_isStep_23 ?_
      exact v_zret C (Or.inl rfl) hr dX3_isStep_24 (fun a h => by cases h; rfl)
    · refine v_iconst C (v := 1) (by decide) dX3_isStep_19 ?_
      refine v_goto C (t := 24) (by decide) dX3_isStep_20 ?_
      exact v_zret C (Or.inr rfl) hr dX3_isStep_24 (fun a h => by cases h; rfl)
def m_X3_addBefore (Z : ZT) (this : Nat) (a0 : Int32) (a1 : Int32) (μ : MT) : Option (MT) :=
  (m_X3_hasSeam Z this a0 μ).bind fun r1 => (if r1 = 0 then some μ else (m_X3_hasSeam Z this a1 μ).bind fun r2 => (if r2 = 0 then some μ else (ald Z μ (zr Z this 9) a1).bind fun x4 => (ast Z μ (zr Z this 9) a1 (x4 ||| (1 <<< (a0 &&& 31)))).bind fun ν5 => (some (u2 ν5 this 3 ((ν5 this 3) + 1))).bind fun ν6 => some ν6))
set_option maxRecDepth 20000 in
set_option maxHeartbeats 4000000 in
theorem s_X3_addBefore {l : Launch} (G : GT) (Z : ZT) (hG : DA G) (hZ : WT G Z) {this : Nat} {a0 : Int32} {a1 : Int32} {μ : MT} {q : MT} (ht : Ob G Z this 3) (hq : m_X3_addBefore Z this a0 a1 μ = some q) : MZ l G Z yX3_addBefore cX3_addBefore 3 none 1 [.ref (ga G this), .int a0, .int a1] μ none q := by
  refine v_met (J := (fun ν : MT => ((none : Option Value), ν))) hG hZ (by decide) (Nat.le_of_ble_eq_true rfl) hq ?_
  intro x C hR _ hr
  show VK x G Z (0, 0) 3 (QM x G Z) (fun ν : MT => ((none : Option Value), ν)) 0 [(0, .ref (ga G this)), (1, .int a0), (2, .int a1)] [] μ _ some
  unfold m_X3_addBefore
  refine v_aload_n C (n := 0) rfl rfl dX3_addBefore_0 ?_
  refine v_iload_n C (n := 1) rfl rfl dX3_addBefore_1 ?_
  refine v_cvRi C (d := 0) (hR.le (by decide)) (c := 3) rfl cv_X3_53 (by decide) ht (by decide) [.int a0] rfl (fun _ hc => s_X3_hasSeam G Z hG hZ   ht hc) (Nat.le_of_ble_eq_true rfl) dX3_addBefore_2 rfl (fun r1 => ?_)
  refine v_ifeq C (t := 38) dX3_addBefore_5 (by decide) ?_ ?_
  · exact v_vret C hr dX3_addBefore_38 (fun a h => by cases h; rfl)
  · refine v_aload_n C (n := 0) rfl rfl dX3_addBefore_8 ?_
    refine v_iload_n C (n := 2) rfl rfl dX3_addBefore_9 ?_
    refine v_cvRi C (d := 0) (hR.le (by decide)) (c := 3) rfl cv_X3_53 (by decide) ht (by decide) [.int a1] rfl (fun _ hc => s_X3_hasSeam G Z hG hZ   ht hc) (Nat.le_of_ble_eq_true rfl) dX3_addBefore_10 rfl (fun r2 => ?_)
    refine v_ifeq C (t := 38) dX3_addBefore_13 (by decide) ?_ ?_
    · exact v_vret C hr dX3_addBefore_38 (fun a h => by cases h; rfl)
    · refine v_aload_n C (n := 0) rfl rfl dX3_addBefore_16 ?_
      refine v_getr C (t := 20) fl_X3_40 rfl rfl ht dX3_addBefore_17 (fun h3 => ?_)
      refine v_iload_n C (n := 2) rfl rfl dX3_addBefore_20 ?_
      refine v_dup2 C rfl rfl dX3_addBefore_21 ?_
      refine v_iald C h3.oa dX3_addBefore_22 (fun x4 => ?_)
      refine v_iconst C (v := 1) (by decide) dX3_addBefore_23 ?_
      refine v_iload_n C (n := 1) rfl rfl dX3_addBefore_24 ?_
      refine v_ishl C dX3_addBefore_25 ?_
      refine v_ior C dX3_addBefore_26 ?_
      refine v_iast C h3 dX3_addBefore_27 (fun ν5 => ?_)
      refine v_aload_n C (n := 0) rfl rfl dX3_addBefore_28 ?_
      refine v_dup C rfl dX3_addBefore_29 ?_
      refine v_geti C fl_X3_21 rfl ht dX3_addBefore_30 ?_
      refine v_iconst C (v := 1) (by decide) dX3_addBefore_33 ?_
      refine v_iadd C dX3_addBefore_34 ?_
      refine v_puti C fp_X3_21 rfl rfl ht dX3_addBefore_35 (fun ν6 => ?_)
      exact v_vret C hr dX3_addBefore_38 (fun a h => by cases h; rfl)
def m_X3_endOfActs (Z : ZT) (this : Nat) (a0 : Int32) (μ : MT) : Option (Int32) :=
  (m_X3_hasSeam Z this a0 μ).bind fun r1 => (if r1 = 0 then some 0 else (ald Z μ (zr Z this 8) a0).bind fun x3 => some x3)
set_option maxRecDepth 20000 in
set_option maxHeartbeats 4000000 in
theorem s_X3_endOfActs {l : Launch} (G : GT) (Z : ZT) (hG : DA G) (hZ : WT G Z) {this : Nat} {a0 : Int32} {μ : MT} {q : Int32} (ht : Ob G Z this 3) (hq : m_X3_endOfActs Z this a0 μ = some q) : MZ l G Z yX3_endOfActs cX3_endOfActs 2 (some .int) 1 [.ref (ga G this), .int a0] μ (some (.int q)) μ := by
  refine v_met (J := (fun r : Int32 => (some (.int r), μ))) hG hZ (by decide) (Nat.le_of_ble_eq_true rfl) hq ?_
  intro x C hR _ hr
  show VK x G Z (0, 0) 2 (QM x G Z) (fun r : Int32 => (some (.int r), μ)) 0 [(0, .ref (ga G this)), (1, .int a0)] [] μ _ some
  unfold m_X3_endOfActs
  refine v_aload_n C (n := 0) rfl rfl dX3_endOfActs_0 ?_
  refine v_iload_n C (n := 1) rfl rfl dX3_endOfActs_1 ?_
  refine v_cvRi C (d := 0) (hR.le (by decide)) (c := 3) rfl cv_X3_53 (by decide) ht (by decide) [.int a0] rfl (fun _ hc => s_X3_hasSeam G Z hG hZ   ht hc) (Nat.le_of_ble_eq_true rfl) dX3_endOfActs_2 rfl (fun r1 => ?_)
  refine v_ifeq C (t := 17) dX3_endOfActs_5 (by decide) ?_ ?_
  · refine v_iconst C (v := 0) (by decide) dX3_endOfActs_17 ?_
    exact v_iret C hr dX3_endOfActs_18 (fun a h => by cases h; rfl)
  · refine v_aload_n C (n := 0) rfl rfl dX3_endOfActs_8 ?_
    refine v_getr C (t := 20) fl_X3_37 rfl rfl ht dX3_endOfActs_9 (fun h2 => ?_)
    refine v_iload_n C (n := 1) rfl rfl dX3_endOfActs_12 ?_
    refine v_iald C h2.oa dX3_endOfActs_13 (fun x3 => ?_)
    refine v_goto C (t := 18) (by decide) dX3_endOfActs_14 ?_
    exact v_iret C hr dX3_endOfActs_18 (fun a h => by cases h; rfl)
def m_X3_mayFollow (Z : ZT) (this : Nat) (a0 : Int32) (a1 : Int32) (μ : MT) : Option (Int32) :=
  (m_X3_hasSeam Z this a0 μ).bind fun r1 => (if r1 = 0 then some 0 else (if ((a1 >>> (a0 &&& 31)) &&& 1) = 0 then (ald Z μ (zr Z this 9) a0).bind fun x3 => (if (x3 &&& (a1 ^^^ (-1))) = 0 then some 1 else some 0) else some 0))
set_option maxRecDepth 20000 in
set_option maxHeartbeats 4000000 in
theorem s_X3_mayFollow {l : Launch} (G : GT) (Z : ZT) (hG : DA G) (hZ : WT G Z) {this : Nat} {a0 : Int32} {a1 : Int32} {μ : MT} {q : Int32} (ht : Ob G Z this 3) (hq : m_X3_mayFollow Z this a0 a1 μ = some q) : MZ l G Z yX3_mayFollow cX3_mayFollow 3 (some .boolean) 1 [.ref (ga G this), .int a0, .int a1] μ (some (.int q)) μ := by
  refine v_met (J := (fun r : Int32 => (some (.int r), μ))) hG hZ (by decide) (Nat.le_of_ble_eq_true rfl) hq ?_
  intro x C hR _ hr
  show VK x G Z (0, 0) 3 (QM x G Z) (fun r : Int32 => (some (.int r), μ)) 0 [(0, .ref (ga G this)), (1, .int a0), (2, .int a1)] [] μ _ some
  unfold m_X3_mayFollow
  refine v_aload_n C (n := 0) rfl rfl dX3_mayFollow_0 ?_
  refine v_iload_n C (n := 1) rfl rfl dX3_mayFollow_1 ?_
  refine v_cvRi C (d := 0) (hR.le (by decide)) (c := 3) rfl cv_X3_53 (by decide) ht (by decide) [.int a0] rfl (fun _ hc => s_X3_hasSeam G Z hG hZ   ht hc) (Nat.le_of_ble_eq_true rfl) dX3_mayFollow_2 rfl (fun r1 => ?_)
  refine v_ifeq C (t := 33) dX3_mayFollow_5 (by decide) ?_ ?_
  · refine v_iconst C (v := 0) (by decide) dX3_mayFollow_33 ?_
    exact v_zret C (Or.inl rfl) hr dX3_mayFollow_34 (fun a h => by cases h; rfl)
  · refine v_iload_n C (n := 2) rfl rfl dX3_mayFollow_8 ?_
    refine v_iload_n C (n := 1) rfl rfl dX3_mayFollow_9 ?_
    refine v_ishr C dX3_mayFollow_10 ?_
    refine v_iconst C (v := 1) (by decide) dX3_mayFollow_11 ?_
    refine v_iand C dX3_mayFollow_12 ?_
    refine v_ifne C (t := 33) dX3_mayFollow_13 (by decide) ?_ ?_
    · refine v_iconst C (v := 0) (by decide) dX3_mayFollow_33 ?_
      exact v_zret C (Or.inl rfl) hr dX3_mayFollow_34 (fun a h => by cases h; rfl)
    · refine v_aload_n C (n := 0) rfl rfl dX3_mayFollow_16 ?_
      refine v_getr C (t := 20) fl_X3_40 rfl rfl ht dX3_mayFollow_17 (fun h2 => ?_)
      refine v_iload_n C (n := 1) rfl rfl dX3_mayFollow_20 ?_
      refine v_iald C h2.oa dX3_mayFollow_21 (fun x3 => ?_)
      refine v_iload_n C (n := 2) rfl rfl dX3_mayFollow_22 ?_
      refine v_iconst C (v := (-1)) (by decide) dX3_mayFollow_23 ?_
      refine v_ixor C dX3_mayFollow_24 ?_
      refine v_iand C dX3_mayFollow_25 ?_
      refine v_ifne C (t := 33) dX3_mayFollow_26 (by decide) ?_ ?_
      · refine v_iconst C (v := 0) (by decide) dX3_mayFollow_33 ?_
        exact v_zret C (Or.inl rfl) hr dX3_mayFollow_34 (fun a h => by cases h; rfl)
      · refine v_iconst C (v := 1) (by decide) dX3_mayFollow_29 ?_
        refine v_goto C (t := 34) (by decide) dX3_mayFollow_30 ?_
        exact v_zret C (Or.inr rfl) hr dX3_mayFollow_34 (fun a h => by cases h; rfl)
def m_X2_doStep (Z : ZT) (this : Nat) (a0 : Int32) (a1 : Int32) (a2 : Int32) (μ : MT) : Option (MT) :=
  (m_X2_has Z this a1 μ).bind fun r1 => (if r1 = 0 then some μ else (m_X2_cool Z this a1 μ).bind fun ν2 => (m_X2_shrinkageOf Z this a0 a1 a2 ν2).bind fun r3 => (m_X2_effectOf Z this r3 a1 ν2).bind fun r4 => (m_X2_isClamped Z this a1 ν2).bind fun r5 => (((if r5 = 0 then (ald Z ν2 (zr Z this 3) a1).bind fun x23 => (ast Z ν2 (zr Z this 3) a1 (x23 + r4)).bind fun ν24 => some ν24 else (ald Z ν2 (zr Z this 4) a1).bind fun x26 => (ast Z ν2 (zr Z this 4) a1 (x26 + r4)).bind fun ν27 => some ν27) : Option (MT))).bind (fun ν6 => (ald Z ν6 (zr Z this 5) a1).bind fun x10 => (ast Z ν6 (zr Z this 5) a1 (x10 + r4)).bind fun ν11 => (some (u2 ν11 this 9 ((ν11 this 9) + r4))).bind fun ν12 => (ald Z ν12 (zr Z this 0) a1).bind fun x14 => (m_X2_heatOfStep Z a0 a2 ν12).bind fun r15 => (ast Z ν12 (zr Z this 0) a1 (x14 + r15)).bind fun ν16 => (ald Z ν16 (zr Z this 2) a1).bind fun x18 => (m_X2_holdOfStep Z a0 ν16).bind fun r19 => (ast Z ν16 (zr Z this 2) a1 (x18 + r19)).bind fun ν20 => (some (u2 ν20 this 8 ((ν20 this 8) + 1))).bind fun ν21 => some ν21))
set_option maxRecDepth 20000 in
set_option maxHeartbeats 4000000 in
theorem s_X2_doStep {l : Launch} (G : GT) (Z : ZT) (hG : DA G) (hZ : WT G Z) {this : Nat} {a0 : Int32} {a1 : Int32} {a2 : Int32} {μ : MT} {q : MT} (ht : Ob G Z this 2) (hq : m_X2_doStep Z this a0 a1 a2 μ = some q) : MZ l G Z yX2_doStep cX2_doStep 5 none 2 [.ref (ga G this), .int a0, .int a1, .int a2] μ none q := by
  refine v_met (J := (fun ν : MT => ((none : Option Value), ν))) hG hZ (by decide) (Nat.le_of_ble_eq_true rfl) hq ?_
  intro x C hR _ hr
  show VK x G Z (0, 0) 5 (QM x G Z) (fun ν : MT => ((none : Option Value), ν)) 0 [(0, .ref (ga G this)), (1, .int a0), (2, .int a1), (3, .int a2)] [] μ _ some
  unfold m_X2_doStep
  refine v_aload_n C (n := 0) rfl rfl dX2_doStep_0 ?_
  refine v_iload_n C (n := 2) rfl rfl dX2_doStep_1 ?_
  refine v_cvRi C (d := 0) (hR.le (by decide)) (c := 2) rfl cv_X2_102 (by decide) ht (by decide) [.int a1] rfl (fun _ hc => s_X2_has G Z hG hZ   ht hc) (Nat.le_of_ble_eq_true rfl) dX2_doStep_2 rfl (fun r1 => ?_)
  refine v_ifne C (t := 9) dX2_doStep_5 (by decide) ?_ ?_
  · refine v_aload_n C (n := 0) rfl rfl dX2_doStep_9 ?_
    refine v_iload_n C (n := 2) rfl rfl dX2_doStep_10 ?_
    refine v_cvIv C (d := 0) (hR.le (by decide)) (c := 2) rfl cv_X2_106 (by decide) ht (by decide) [.int a1] rfl (fun _ hc => s_X2_cool G Z hG hZ   ht hc) (Nat.le_of_ble_eq_true rfl) dX2_doStep_11 rfl (fun ν2 => ?_)
    refine v_aload_n C (n := 0) rfl rfl dX2_doStep_14 ?_
    refine v_aload_n C (n := 0) rfl rfl dX2_doStep_15 ?_
    refine v_iload_n C (n := 1) rfl rfl dX2_doStep_16 ?_
    refine v_iload_n C (n := 2) rfl rfl dX2_doStep_17 ?_
    refine v_iload_n C (n := 3) rfl rfl dX2_doStep_18 ?_
    refine v_cvRi C (d := 1) (hR.le (by decide)) (c := 2) rfl cv_X2_109 (by decide) ht (by decide) [.int a0, .int a1, .int a2] rfl (fun _ hc => s_X2_shrinkageOf G Z hG hZ   ht hc) (Nat.le_of_ble_eq_true rfl) dX2_doStep_19 rfl (fun r3 => ?_)
    refine v_iload_n C (n := 2) rfl rfl dX2_doStep_22 ?_
    refine v_cvRi C (d := 0) (hR.le (by decide)) (c := 2) rfl cv_X2_113 (by decide) ht (by decide) [.int r3, .int a1] rfl (fun _ hc => s_X2_effectOf G Z hG hZ   ht hc) (Nat.le_of_ble_eq_true rfl) dX2_doStep_23 rfl (fun r4 => ?_)
    refine v_istore C (lv' := [(4, .int r4), (0, .ref (ga G this)), (1, .int a0), (2, .int a1), (3, .int a2)]) (by decide) rfl dX2_doStep_26 ?_
    refine v_aload_n C (n := 1) rfl rfl dX2_doStep_28 ?_
    refine v_iload_n C (n := 3) rfl rfl dX2_doStep_29 ?_
    refine v_cvRi C (d := 0) (hR.le (by decide)) (c := 2) rfl cv_X2_116 (by decide) ht (by decide) [.int a1] rfl (fun _ hc => s_X2_isClamped G Z hG hZ   ht hc) (Nat.le_of_ble_eq_true rfl) dX2_doStep_30 rfl (fun r5 => ?_)
    refine v_join 61 (fun t => [(0, .ref (ga G this)), (1, .int a0), (2, .int a1), (3, .int a2), (4, .int r4)]) (fun t => []) (fun t => t) ?_ ?_
    · intro ν6
      refine v_aload_n C (n := 0) rfl rfl dX2_doStep_61 ?_
      refine v_getr C (t := 20) fl_X2_27 rfl rfl ht dX2_doStep_62 (fun h9 => ?_)
      refine v_iload_n C (n := 2) rfl rfl dX2_doStep_65 ?_
      refine v_dup2 C rfl rfl dX2_doStep_66 ?_
      refine v_iald C h9.oa dX2_doStep_67 (fun x10 => ?_)
      refine v_iload C (n := 4) rfl dX2_doStep_68 ?_
      refine v_iadd C dX2_doStep_70 ?_
      refine v_iast C h9 dX2_doStep_71 (fun ν11 => ?_)
      refine v_aload_n C (n := 0) rfl rfl dX2_doStep_72 ?_
      refine v_dup C rfl dX2_doStep_73 ?_
      refine v_geti C fl_X2_40 rfl ht dX2_doStep_74 ?_
      refine v_iload C (n := 4) rfl dX2_doStep_77 ?_
      refine v_iadd C dX2_doStep_79 ?_
      refine v_puti C fp_X2_40 rfl rfl ht dX2_doStep_80 (fun ν12 => ?_)
      refine v_aload_n C (n := 0) rfl rfl dX2_doStep_83 ?_
      refine v_getr C (t := 20) fl_X2_9 rfl rfl ht dX2_doStep_84 (fun h13 => ?_)
      refine v_iload_n C (n := 2) rfl rfl dX2_doStep_87 ?_
      refine v_dup2 C rfl rfl dX2_doStep_88 ?_
      refine v_iald C h13.oa dX2_doStep_89 (fun x14 => ?_)
      refine v_iload_n C (n := 1) rfl rfl dX2_doStep_90 ?_
      refine v_iload_n C (n := 3) rfl rfl dX2_doStep_91 ?_
      refine v_csRi C (d := 0) (hR.le (by decide)) cs_X2_119 (by decide) [.int a0, .int a2] rfl (fun _ hc => s_X2_heatOfStep G Z hG hZ   hc) (Nat.le_of_ble_eq_true rfl) dX2_doStep_92 rfl (fun r15 => ?_)
      refine v_iadd C dX2_doStep_95 ?_
      refine v_iast C h13 dX2_doStep_96 (fun ν16 => ?_)
      refine v_aload_n C (n := 0) rfl rfl dX2_doStep_97 ?_
      refine v_getr C (t := 20) fl_X2_18 rfl rfl ht dX2_doStep_98 (fun h17 => ?_)
      refine v_iload_n C (n := 2) rfl rfl dX2_doStep_101 ?_
      refine v_dup2 C rfl rfl dX2_doStep_102 ?_
      refine v_iald C h17.oa dX2_doStep_103 (fun x18 => ?_)
      refine v_iload_n C (n := 1) rfl rfl dX2_doStep_104 ?_
      refine v_csRi C (d := 0) (hR.le (by decide)) cs_X2_122 (by decide) [.int a0] rfl (fun _ hc => s_X2_holdOfStep G Z hG hZ   hc) (Nat.le_of_ble_eq_true rfl) dX2_doStep_105 rfl (fun r19 => ?_)
      refine v_iadd C dX2_doStep_108 ?_
      refine v_iast C h17 dX2_doStep_109 (fun ν20 => ?_)
      refine v_aload_n C (n := 0) rfl rfl dX2_doStep_110 ?_
      refine v_dup C rfl dX2_doStep_111 ?_
      refine v_geti C fl_X2_37 rfl ht dX2_doStep_112 ?_
      refine v_iconst C (v := 1) (by decide) dX2_doStep_115 ?_
      refine v_iadd C dX2_doStep_116 ?_
      refine v_puti C fp_X2_37 rfl rfl ht dX2_doStep_117 (fun ν21 => ?_)
      exact v_vret C hr dX2_doStep_120 (fun a h => by cases h; rfl)
    intro F8 hF7
    refine v_ifeq C (t := 50) dX2_doStep_33 (by decide) ?_ ?_
    · refine v_aload_n C (n := 1) rfl rfl dX2_doStep_50 ?_
      refine v_getr C (t := 20) fl_X2_21 rfl rfl ht dX2_doStep_51 (fun h22 => ?_)
      refine v_iload_n C (n := 3) rfl rfl dX2_doStep_54 ?_
      refine v_dup2 C rfl rfl dX2_doStep_55 ?_
      refine v_iald C h22.oa dX2_doStep_56 (fun x23 => ?_)
      refine v_iload C (n := 0) rfl dX2_doStep_57 ?_
      refine v_iadd C dX2_doStep_59 ?_
      refine v_iast C h22 dX2_doStep_60 (fun ν24 => ?_)
      refine v_sub (lv' := [(0, .ref (ga G this)), (1, .int a0), (2, .int a1), (3, .int a2), (4, .int r4)]) [1, 2, 3, 4, 0] rfl ?_
      exact v_leaf (hF7 ν24)
    · refine v_aload_n C (n := 1) rfl rfl dX2_doStep_36 ?_
      refine v_getr C (t := 20) fl_X2_24 rfl rfl ht dX2_doStep_37 (fun h25 => ?_)
      refine v_iload_n C (n := 3) rfl rfl dX2_doStep_40 ?_
      refine v_dup2 C rfl rfl dX2_doStep_41 ?_
      refine v_iald C h25.oa dX2_doStep_42 (fun x26 => ?_)
      refine v_iload C (n := 0) rfl dX2_doStep_43 ?_
      refine v_iadd C dX2_doStep_45 ?_
      refine v_iast C h25 dX2_doStep_46 (fun ν27 => ?_)
      refine v_goto C (t := 61) (by decide) dX2_doStep_47 ?_
      refine v_sub (lv' := [(0, .ref (ga G this)), (1, .int a0), (2, .int a1), (3, .int a2), (4, .int r4)]) [1, 2, 3, 4, 0] rfl ?_
      exact v_leaf (hF7 ν27)
  · exact v_vret C hr dX2_doStep_8 (fun a h => by cases h; rfl)
def m_X2_freeAll (Z : ZT) (this : Nat) (μ : MT) : Option (MT) :=
  (loop (σ := Int32 × MT) (τ := MT) (fun (y1, ν2) => ((if (ν2 this 7) ≤ y1 then some (Sum.inr ν2) else (m_X2_freeOne Z this y1 ν2).bind fun ν8 => (some (y1 + 1)).bind fun x9 => some (Sum.inl (x9, ν8))) : Option ((Int32 × MT) ⊕ (MT)))) LN (0, μ)).bind (fun ν3 => some ν3)
set_option maxRecDepth 20000 in
set_option maxHeartbeats 4000000 in
theorem s_X2_freeAll {l : Launch} (G : GT) (Z : ZT) (hG : DA G) (hZ : WT G Z) {this : Nat} {μ : MT} {q : MT} (ht : Ob G Z this 2) (hq : m_X2_freeAll Z this μ = some q) : MZ l G Z yX2_freeAll cX2_freeAll 2 none 2 [.ref (ga G this)] μ none q := by
  refine v_met (J := (fun ν : MT => ((none : Option Value), ν))) hG hZ (by decide) (Nat.le_of_ble_eq_true rfl) hq ?_
  intro x C hR _ hr
  show VK x G Z (0, 0) 2 (QM x G Z) (fun ν : MT => ((none : Option Value), ν)) 0 [(0, .ref (ga G this))] [] μ _ some
  unfold m_X2_freeAll
  refine v_iconst C (v := 0) (by decide) dX2_freeAll_0 ?_
  refine v_istore_n C (lv' := [(1, .int 0), (0, .ref (ga G this))]) rfl (by decide) rfl dX2_freeAll_1 ?_
  refine v_sub (lv' := [(0, .ref (ga G this)), (1, .int 0)]) [1, 0] rfl ?_
  refine v_lp 2 21 (fun t => [(0, .ref (ga G this)), (1, .int (t.1))]) (fun t => t.2) (fun t => []) (fun t => t) ?_ ?_ LN (0, μ)
  · intro ν3
    exact v_vret C hr dX2_freeAll_21 (fun a h => by cases h; rfl)
  · intro X4 F6 hX5 hF7
    rintro ⟨y1, ν2⟩
    refine v_iload_n C (n := 1) rfl rfl dX2_freeAll_2 ?_
    refine v_aload_n C (n := 0) rfl rfl dX2_freeAll_3 ?_
    refine v_geti C fl_X2_34 rfl ht dX2_freeAll_4 ?_
    refine v_icge C (t := 21) dX2_freeAll_7 (by decide) ?_ ?_
    · refine v_sub (lv' := []) [] rfl ?_
      exact v_leaf (hF7 ν2)
    · refine v_aload_n C (n := 0) rfl rfl dX2_freeAll_10 ?_
      refine v_iload_n C (n := 1) rfl rfl dX2_freeAll_11 ?_
      refine v_cvIv C (d := 1) (hR.le (by decide)) (c := 2) rfl cv_X2_91 (by decide) ht (by decide) [.int y1] rfl (fun _ hc => s_X2_freeOne G Z hG hZ   ht hc) (Nat.le_of_ble_eq_true rfl) dX2_freeAll_12 rfl (fun ν8 => ?_)
      refine v_iinc C (n := 1) (v := y1 + 1) (lv' := [(1, .int (y1 + 1)), (0, .ref (ga G this))]) rfl rfl (by decide) rfl dX2_freeAll_15 ?_
      refine v_let (y := y1 + 1) (fun x9 => [(1, .int x9), (0, .ref (ga G this))]) (fun x9 => []) (fun x9 => ?_)
      refine v_goto C (t := 2) (by decide) dX2_freeAll_18 ?_
      refine v_sub (lv' := [(0, .ref (ga G this)), (1, .int x9)]) [1, 0] rfl ?_
      exact v_leaf (hX5 (x9, ν8))
def m_X2_firstAbove (Z : ZT) (this : Nat) (a0 : Int32) (μ : MT) : Option (Int32) :=
  (loop (σ := Int32) (τ := (Int32) ⊕ (Unit)) (fun y1 => ((if (μ this 7) ≤ y1 then some (Sum.inr (Sum.inr ())) else (m_X2_pullOf Z this y1 μ).bind fun r7 => (if r7 ≤ a0 then (some (y1 + 1)).bind fun x8 => some (Sum.inl x8) else some (Sum.inr (Sum.inl y1)))) : Option ((Int32) ⊕ ((Int32) ⊕ (Unit))))) LN 0).bind (jn (fun (_ : Unit) => some (-1000000)))
set_option maxRecDepth 20000 in
set_option maxHeartbeats 4000000 in
theorem s_X2_firstAbove {l : Launch} (G : GT) (Z : ZT) (hG : DA G) (hZ : WT G Z) {this : Nat} {a0 : Int32} {μ : MT} {q : Int32} (ht : Ob G Z this 2) (hq : m_X2_firstAbove Z this a0 μ = some q) : MZ l G Z yX2_firstAbove cX2_firstAbove 3 (some .int) 2 [.ref (ga G this), .int a0] μ (some (.int q)) μ := by
  refine v_met (J := (fun r : Int32 => (some (.int r), μ))) hG hZ (by decide) (Nat.le_of_ble_eq_true rfl) hq ?_
  intro x C hR _ hr
  show VK x G Z (0, 0) 3 (QM x G Z) (fun r : Int32 => (some (.int r), μ)) 0 [(0, .ref (ga G this)), (1, .int a0)] [] μ _ some
  unfold m_X2_firstAbove
  refine v_iconst C (v := 0) (by decide) dX2_firstAbove_0 ?_
  refine v_istore_n C (lv' := [(2, .int 0), (0, .ref (ga G this)), (1, .int a0)]) rfl (by decide) rfl dX2_firstAbove_1 ?_
  refine v_sub (lv' := [(0, .ref (ga G this)), (1, .int a0), (2, .int 0)]) [1, 2, 0] rfl ?_
  refine v_lpm 2 27 (fun t => [(0, .ref (ga G this)), (1, .int a0), (2, .int t)]) (fun t => μ) (fun t => []) (fun t => μ) ?_ ?_ LN 0
  · rintro ⟨⟩
    refine v_ldc C (v := (-1000000)) (w11 19 rfl) dX2_firstAbove_27 ?_
    exact v_iret C hr dX2_firstAbove_29 (fun a h => by cases h; rfl)
  · intro X2 F4 e6 hX3 hF5
    intro y1
    refine v_iload_n C (n := 2) rfl rfl dX2_firstAbove_2 ?_
    refine v_aload_n C (n := 0) rfl rfl dX2_firstAbove_3 ?_
    refine v_geti C fl_X2_34 rfl ht dX2_firstAbove_4 ?_
    refine v_icge C (t := 27) dX2_firstAbove_7 (by decide) ?_ ?_
    · refine v_sub (lv' := []) [] rfl ?_
      exact v_leaf (hF5 ())
    · refine v_aload_n C (n := 0) rfl rfl dX2_firstAbove_10 ?_
      refine v_iload_n C (n := 2) rfl rfl dX2_firstAbove_11 ?_
      refine v_cvRi C (d := 1) (hR.le (by decide)) (c := 2) rfl cv_X2_128 (by decide) ht (by decide) [.int y1] rfl (fun _ hc => s_X2_pullOf G Z hG hZ   ht hc) (Nat.le_of_ble_eq_true rfl) dX2_firstAbove_12 rfl (fun r7 => ?_)
      refine v_iload_n C (n := 1) rfl rfl dX2_firstAbove_15 ?_
      refine v_icle C (t := 21) dX2_firstAbove_16 (by decide) ?_ ?_
      · refine v_iinc C (n := 2) (v := y1 + 1) (lv' := [(2, .int (y1 + 1)), (0, .ref (ga G this)), (1, .int a0)]) rfl rfl (by decide) rfl dX2_firstAbove_21 ?_
        refine v_let (y := y1 + 1) (fun x8 => [(2, .int x8), (0, .ref (ga G this)), (1, .int a0)]) (fun x8 => []) (fun x8 => ?_)
        refine v_goto C (t := 2) (by decide) dX2_firstAbove_24 ?_
        refine v_sub (lv' := [(0, .ref (ga G this)), (1, .int a0), (2, .int x8)]) [1, 2, 0] rfl ?_
        exact v_leaf (hX3 x8)
      · refine v_iload_n C (n := 2) rfl rfl dX2_firstAbove_19 ?_
        exact v_iret C hr dX2_firstAbove_20 (fun a h => by simp only [ob_s, lq, e6] at h; cases h; rfl)
def m_X2_doSeam (Z : ZT) (this : Nat) (a0 : Nat) (a1 : Int32) (μ : MT) : Option (MT) :=
  (m_X3_firstAct Z a0 a1 μ).bind fun r1 => (loop (σ := Int32 × MT) (τ := MT) (fun (y2, ν3) => ((m_X3_endOfActs Z a0 a1 ν3).bind fun r9 => (if r9 ≤ y2 then some (Sum.inr ν3) else (ald Z ν3 (zr Z a0 5) y2).bind fun x11 => (ald Z ν3 (zr Z a0 4) y2).bind fun x13 => (((if x13 = 7 then (some (u2 ν3 this 8 ((ν3 this 8) + x11))).bind fun ν19 => some ν19 else if x13 = 8 then (some (u2 ν3 this 6 ((ν3 this 6) ||| (1 <<< (x11 &&& 31))))).bind fun ν21 => some ν21 else if x13 = 9 then (m_X2_freeOne Z this x11 ν3).bind fun ν23 => some ν23 else (ald Z ν3 (zr Z a0 4) y2).bind fun x25 => (ald Z ν3 (zr Z a0 6) y2).bind fun x27 => (m_X2_doStep Z this x25 x11 x27 ν3).bind fun ν28 => some ν28) : Option (MT))).bind (fun ν14 => (some (y2 + 1)).bind fun x17 => some (Sum.inl (x17, ν14)))) : Option ((Int32 × MT) ⊕ (MT)))) LN (r1, μ)).bind (fun ν4 => some ν4)
set_option maxRecDepth 20000 in
set_option maxHeartbeats 4000000 in
theorem s_X2_doSeam {l : Launch} (G : GT) (Z : ZT) (hG : DA G) (hZ : WT G Z) {this : Nat} {a0 : Nat} {a1 : Int32} {μ : MT} {q : MT} (ht : Ob G Z this 2) (ha0 : Ob G Z a0 3) (hq : m_X2_doSeam Z this a0 a1 μ = some q) : MZ l G Z yX2_doSeam cX2_doSeam 5 none 3 [.ref (ga G this), .ref (ga G a0), .int a1] μ none q := by
  refine v_met (J := (fun ν : MT => ((none : Option Value), ν))) hG hZ (by decide) (Nat.le_of_ble_eq_true rfl) hq ?_
  intro x C hR _ hr
  show VK x G Z (0, 0) 5 (QM x G Z) (fun ν : MT => ((none : Option Value), ν)) 0 [(0, .ref (ga G this)), (1, .ref (ga G a0)), (2, .int a1)] [] μ _ some
  unfold m_X2_doSeam
  refine v_aload_n C (n := 1) rfl rfl dX2_doSeam_0 ?_
  refine v_iload_n C (n := 2) rfl rfl dX2_doSeam_1 ?_
  refine v_cvRi C (d := 0) (hR.le (by decide)) (c := 3) rfl cv_X2_78 (by decide) ha0 (by decide) [.int a1] rfl (fun _ hc => s_X3_firstAct G Z hG hZ   ha0 hc) (Nat.le_of_ble_eq_true rfl) dX2_doSeam_2 rfl (fun r1 => ?_)
  refine v_istore_n C (lv' := [(3, .int r1), (0, .ref (ga G this)), (1, .ref (ga G a0)), (2, .int a1)]) rfl (by decide) rfl dX2_doSeam_5 ?_
  refine v_sub (lv' := [(0, .ref (ga G this)), (1, .ref (ga G a0)), (2, .int a1), (3, .int r1)]) [1, 2, 3, 0] rfl ?_
  refine v_lp 6 119 (fun t => [(0, .ref (ga G this)), (1, .ref (ga G a0)), (2, .int a1), (3, .int (t.1))]) (fun t => t.2) (fun t => []) (fun t => t) ?_ ?_ LN (r1, μ)
  · intro ν4
    exact v_vret C hr dX2_doSeam_119 (fun a h => by cases h; rfl)
  · intro X5 F7 hX6 hF8
    rintro ⟨y2, ν3⟩
    refine v_iload_n C (n := 3) rfl rfl dX2_doSeam_6 ?_
    refine v_aload_n C (n := 1) rfl rfl dX2_doSeam_7 ?_
    refine v_iload_n C (n := 2) rfl rfl dX2_doSeam_8 ?_
    refine v_cvRi C (d := 1) (hR.le (by decide)) (c := 3) rfl cv_X2_82 (by decide) ha0 (by decide) [.int a1] rfl (fun _ hc => s_X3_endOfActs G Z hG hZ   ha0 hc) (Nat.le_of_ble_eq_true rfl) dX2_doSeam_9 rfl (fun r9 => ?_)
    refine v_icge C (t := 119) dX2_doSeam_12 (by decide) ?_ ?_
    · refine v_sub (lv' := []) [] rfl ?_
      exact v_leaf (hF8 ν3)
    · refine v_aload_n C (n := 1) rfl rfl dX2_doSeam_15 ?_
      refine v_getrN C (t := 20) fn_X2_85 rfl rfl ha0 dX2_doSeam_16 (fun h10 => ?_)
      refine v_iload_n C (n := 3) rfl rfl dX2_doSeam_19 ?_
      refine v_iald C h10.oa dX2_doSeam_20 (fun x11 => ?_)
      refine v_istore C (lv' := [(4, .int x11), (0, .ref (ga G this)), (1, .ref (ga G a0)), (2, .int a1), (3, .int y2)]) (by decide) rfl dX2_doSeam_21 ?_
      refine v_aload_n C (n := 2) rfl rfl dX2_doSeam_23 ?_
      refine v_getrN C (t := 20) fn_X2_88 rfl rfl ha0 dX2_doSeam_24 (fun h12 => ?_)
      refine v_iload_n C (n := 4) rfl rfl dX2_doSeam_27 ?_
      refine v_iald C h12.oa dX2_doSeam_28 (fun x13 => ?_)
      refine v_join 113 (fun t => [(0, .ref (ga G this)), (1, .ref (ga G a0)), (2, .int a1), (3, .int y2)]) (fun t => []) (fun t => t) ?_ ?_
      · intro ν14
        refine v_iinc C (n := 3) (v := y2 + 1) (lv' := [(3, .int (y2 + 1)), (0, .ref (ga G this)), (1, .ref (ga G a0)), (2, .int a1)]) rfl rfl (by decide) rfl dX2_doSeam_113 ?_
        refine v_let (y := y2 + 1) (fun x17 => [(3, .int x17), (0, .ref (ga G this)), (1, .ref (ga G a0)), (2, .int a1)]) (fun x17 => []) (fun x17 => ?_)
        refine v_goto C (t := 6) (by decide) dX2_doSeam_116 ?_
        refine v_sub (lv' := [(0, .ref (ga G this)), (1, .ref (ga G a0)), (2, .int a1), (3, .int x17)]) [1, 2, 3, 0] rfl ?_
        exact v_leaf (hX6 (x17, ν14))
      intro F16 hF15
      refine v_case (fun c18 => ?_) (fun c18 => ?_)
      · refine v_tin C (t := 56) (k := 7) c18 dX2_doSeam_29 (by decide) (by decide) rfl (by decide) ?_
        refine v_aload_n C (n := 1) rfl rfl dX2_doSeam_56 ?_
        refine v_dup C rfl dX2_doSeam_57 ?_
        refine v_geti C fl_X2_37 rfl ht dX2_doSeam_58 ?_
        refine v_iload C (n := 0) rfl dX2_doSeam_61 ?_
        refine v_iadd C dX2_doSeam_63 ?_
        refine v_puti C fp_X2_37 rfl rfl ht dX2_doSeam_64 (fun ν19 => ?_)
        refine v_goto C (t := 113) (by decide) dX2_doSeam_67 ?_
        refine v_sub (lv' := [(0, .ref (ga G this)), (1, .ref (ga G a0)), (2, .int a1), (3, .int y2)]) [1, 2, 3, 4] rfl ?_
        exact v_leaf (hF15 ν19)
      refine v_case (fun c20 => ?_) (fun c20 => ?_)
      · refine v_tin C (t := 70) (k := 8) c20 dX2_doSeam_29 (by decide) (by decide) rfl (by decide) ?_
        refine v_aload_n C (n := 1) rfl rfl dX2_doSeam_70 ?_
        refine v_dup C rfl dX2_doSeam_71 ?_
        refine v_geti C fl_X2_30 rfl ht dX2_doSeam_72 ?_
        refine v_iconst C (v := 1) (by decide) dX2_doSeam_75 ?_
        refine v_iload C (n := 0) rfl dX2_doSeam_76 ?_
        refine v_ishl C dX2_doSeam_78 ?_
        refine v_ior C dX2_doSeam_79 ?_
        refine v_puti C fp_X2_30 rfl rfl ht dX2_doSeam_80 (fun ν21 => ?_)
        refine v_goto C (t := 113) (by decide) dX2_doSeam_83 ?_
        refine v_sub (lv' := [(0, .ref (ga G this)), (1, .ref (ga G a0)), (2, .int a1), (3, .int y2)]) [1, 2, 3, 4] rfl ?_
        exact v_leaf (hF15 ν21)
      refine v_case (fun c22 => ?_) (fun c22 => ?_)
      · refine v_tin C (t := 86) (k := 9) c22 dX2_doSeam_29 (by decide) (by decide) rfl (by decide) ?_
        refine v_aload_n C (n := 1) rfl rfl dX2_doSeam_86 ?_
        refine v_iload C (n := 0) rfl dX2_doSeam_87 ?_
        refine v_cvIv C (d := 1) (hR.le (by decide)) (c := 2) rfl cv_X2_91 (by decide) ht (by decide) [.int x11] rfl (fun _ hc => s_X2_freeOne G Z hG hZ   ht hc) (Nat.le_of_ble_eq_true rfl) dX2_doSeam_89 rfl (fun ν23 => ?_)
        refine v_goto C (t := 113) (by decide) dX2_doSeam_92 ?_
        refine v_sub (lv' := [(0, .ref (ga G this)), (1, .ref (ga G a0)), (2, .int a1), (3, .int y2)]) [1, 2, 3, 4] rfl ?_
        exact v_leaf (hF15 ν23)
      have nc18 := lv_neT (k := 7) (a := 7) c18 (by decide)
      have nc20 := lv_neT (k := 8) (a := 8) c20 (by decide)
      have nc22 := lv_neT (k := 9) (a := 9) c22 (by decide)
      refine v_tout C (t := 95) dX2_doSeam_29 (by omega) (by decide) ?_
      refine v_aload_n C (n := 1) rfl rfl dX2_doSeam_95 ?_
      refine v_aload_n C (n := 2) rfl rfl dX2_doSeam_96 ?_
      refine v_getrN C (t := 20) fn_X2_88 rfl rfl ha0 dX2_doSeam_97 (fun h24 => ?_)
      refine v_iload_n C (n := 4) rfl rfl dX2_doSeam_100 ?_
      refine v_iald C h24.oa dX2_doSeam_101 (fun x25 => ?_)
      refine v_iload C (n := 0) rfl dX2_doSeam_102 ?_
      refine v_aload_n C (n := 2) rfl rfl dX2_doSeam_104 ?_
      refine v_getrN C (t := 20) fn_X2_95 rfl rfl ha0 dX2_doSeam_105 (fun h26 => ?_)
      refine v_iload_n C (n := 4) rfl rfl dX2_doSeam_108 ?_
      refine v_iald C h26.oa dX2_doSeam_109 (fun x27 => ?_)
      refine v_cvIv C (d := 2) (hR.le (by decide)) (c := 2) rfl cv_X2_98 (by decide) ht (by decide) [.int x25, .int x11, .int x27] rfl (fun _ hc => s_X2_doStep G Z hG hZ   ht hc) (Nat.le_of_ble_eq_true rfl) dX2_doSeam_110 rfl (fun ν28 => ?_)
      refine v_sub (lv' := [(0, .ref (ga G this)), (1, .ref (ga G a0)), (2, .int a1), (3, .int y2)]) [1, 2, 3, 4] rfl ?_
      exact v_leaf (hF15 ν28)
