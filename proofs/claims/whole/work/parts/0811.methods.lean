set_option maxRecDepth 20000 in
set_option maxHeartbeats 4000000 in
theorem s_X9_numberIn {l : Launch} (G : GT) (Z : ZT) (hG : DA G) (hZ : WT G Z) {this : Nat} {a0 : Int32} {a1 : Int32} {a2 : Int32} {μ : MT} {q : Int32 × MT} (ht : Ob G Z this 9) (hq : m_X9_numberIn Z this a0 a1 a2 μ = some q) : MZ l G Z yX9_numberIn cX9_numberIn 6 (some .int) 3 [.ref (ga G this), .int a0, .int a1, .int a2] μ (some (.int q.1)) q.2 := by
  refine v_met (J := (fun q : Int32 × MT => (some (.int q.1), q.2))) hG hZ (by decide) (Nat.le_of_ble_eq_true rfl) hq ?_
  intro x C hR _ hr
  show VK x G Z (0, 0) 6 (QM x G Z) (fun q : Int32 × MT => (some (.int q.1), q.2)) 0 [(0, .ref (ga G this)), (1, .int a0), (2, .int a1), (3, .int a2)] [] μ _ some
  unfold m_X9_numberIn
  refine v_aload_n C (n := 0) rfl rfl dX9_numberIn_0 ?_
  refine v_geti C fl_X9_129 rfl ht dX9_numberIn_1 ?_
  refine v_ifle C (t := 9) dX9_numberIn_4 (by decide) ?_ ?_
  · refine v_iconst C (v := 0) (by decide) dX9_numberIn_9 ?_
    refine v_istore C (lv' := [(4, .int 0), (0, .ref (ga G this)), (1, .int a0), (2, .int a1), (3, .int a2)]) (by decide) rfl dX9_numberIn_10 ?_
    refine v_aload_n C (n := 1) rfl rfl dX9_numberIn_12 ?_
    refine v_geti C fl_X9_114 rfl ht dX9_numberIn_13 ?_
    refine v_istore C (lv' := [(5, .int (μ this 25)), (4, .int 0), (0, .ref (ga G this)), (1, .int a0), (2, .int a1), (3, .int a2)]) (by decide) rfl dX9_numberIn_16 ?_
    refine v_let (y := (μ this 25)) (fun x1 => [(5, .int x1), (4, .int 0), (0, .ref (ga G this)), (1, .int a0), (2, .int a1), (3, .int a2)]) (fun x1 => []) (fun x1 => ?_)
    refine v_sub (lv' := [(0, .ref (ga G this)), (1, .int a0), (2, .int a1), (3, .int a2), (4, .int 0), (5, .int x1)]) [2, 3, 4, 5, 1, 0] rfl ?_
    refine v_lp 18 59 (fun t : Int32 × Int32 => [(0, .ref (ga G this)), (1, .int a0), (2, .int a1), (3, .int a2), (4, .int (t.1)), (5, .int (t.2))]) (fun t : Int32 × Int32 => μ) (fun t : Int32 => [(0, .ref (ga G this)), (1, .int a0), (2, .int a1), (3, .int a2), (4, .int t)]) (fun t : Int32 => μ) ?_ ?_ LN (0, x1)
    · intro y4
      refine v_aload_n C (n := 0) rfl rfl dX9_numberIn_59 ?_
      refine v_geti C fl_X9_117 rfl ht dX9_numberIn_60 ?_
      refine v_iconst C (v := 3) (by decide) dX9_numberIn_63 ?_
      refine v_join 91 (fun t : MT => [(0, .ref (ga G this)), (4, .int y4)]) (fun t : MT => []) (fun t : MT => t) ?_ ?_
      · intro ν9
        refine v_aload_n C (n := 0) rfl rfl dX9_numberIn_91 ?_
        refine v_aload_n C (n := 0) rfl rfl dX9_numberIn_92 ?_
        refine v_geti C fl_X9_117 rfl ht dX9_numberIn_93 ?_
        refine v_iconst C (v := 3) (by decide) dX9_numberIn_96 ?_
        refine v_join 105 (fun t : Int32 => [(4, .int y4)]) (fun t : Int32 => [.int t, .ref (ga G this)]) (fun t : Int32 => ν9) ?_ ?_
        · intro z12
          refine v_cvIv C (d := 2) (hR.le (by omega)) (c := 9) rfl cv_X9_142 (by decide) ht (by decide) [.int z12] rfl (fun _ hc => s_X9_must G Z hG hZ   ht hc) (Nat.le_of_ble_eq_true rfl) dX9_numberIn_105 rfl (fun ν15 => ?_)
          refine v_iload C (n := 0) rfl dX9_numberIn_108 ?_
          exact v_iret C hr dX9_numberIn_110 (fun a h => by have h := Option.some.inj h; subst h; rfl)
        intro F14 hF13
        refine v_icne C (t := 104) dX9_numberIn_97 (by decide) ?_ ?_
        · refine v_iconst C (v := 0) (by decide) dX9_numberIn_104 ?_
          refine v_sub (lv' := [(4, .int y4)]) [1] rfl ?_
          exact v_leaf (hF13 0)
        · refine v_iconst C (v := 1) (by decide) dX9_numberIn_100 ?_
          refine v_goto C (t := 105) (by decide) dX9_numberIn_101 ?_
          refine v_sub (lv' := [(4, .int y4)]) [1] rfl ?_
          exact v_leaf (hF13 1)
      intro F11 hF10
      refine v_icne C (t := 91) dX9_numberIn_64 (by decide) ?_ ?_
      · refine v_sub (lv' := [(0, .ref (ga G this)), (4, .int y4)]) [0, 4] rfl ?_
        exact v_leaf (hF10 μ)
      · refine v_iload C (n := 4) rfl dX9_numberIn_67 ?_
        refine v_i2l C (v := (y4 : Int32).toInt64) rfl dX9_numberIn_69 ?_
        refine v_iload_n C (n := 1) rfl rfl dX9_numberIn_70 ?_
        refine v_i2l C (v := (a0 : Int32).toInt64) rfl dX9_numberIn_71 ?_
        refine v_iload_n C (n := 2) rfl rfl dX9_numberIn_72 ?_
        refine v_i2l C (v := (a1 : Int32).toInt64) rfl dX9_numberIn_73 ?_
        refine v_csRi C (d := 0) (hR.le (by omega)) cs_X9_81 (by decide) [.long ((y4 : Int32).toInt64), .long ((a0 : Int32).toInt64), .long ((a1 : Int32).toInt64)] rfl (fun _ hc => s_X9_in G Z hG hZ   hc) (Nat.le_of_ble_eq_true rfl) dX9_numberIn_74 rfl (fun r16 => ?_)
        refine v_joinm 86 (fun t : Unit => [(0, .ref (ga G this)), (4, .int y4)]) (fun t : Unit => []) (fun t : Unit => μ) ?_ ?_
        · rintro ⟨⟩
          refine v_aload_n C (n := 0) rfl rfl dX9_numberIn_86 ?_
          refine v_iconst C (v := 2) (by decide) dX9_numberIn_87 ?_
          refine v_cvIv C (d := 0) (hR.le (by omega)) (c := 9) rfl cv_X9_135 (by decide) ht (by decide) [.int 2] rfl (fun _ hc => s_X9_bad G Z hG hZ   ht hc) (Nat.le_of_ble_eq_true rfl) dX9_numberIn_88 rfl (fun ν20 => ?_)
          exact v_leaf (hF10 ν20)
        intro F18 e19 hF17
        refine v_ifeq C (t := 86) dX9_numberIn_77 (by decide) ?_ ?_
        · refine v_sub (lv' := [(0, .ref (ga G this)), (4, .int y4)]) [0, 4] rfl ?_
          exact v_leaf (hF17 ())
        · refine v_iload C (n := 4) rfl dX9_numberIn_80 ?_
          refine v_iload_n C (n := 3) rfl rfl dX9_numberIn_82 ?_
          refine v_icne C (t := 91) dX9_numberIn_83 (by decide) ?_ ?_
          · refine v_sub (lv' := [(0, .ref (ga G this)), (4, .int y4)]) [0, 4] rfl ?_
            exact v_leaf (by rw [e19]; exact hF10 μ)
          · refine v_sub (lv' := [(0, .ref (ga G this)), (4, .int y4)]) [0, 4] rfl ?_
            exact v_leaf (hF17 ())
    · intro X5 F7 hX6 hF8
      rintro ⟨y2, y3⟩
      refine v_iload C (n := 5) rfl dX9_numberIn_18 ?_
      refine v_aload_n C (n := 0) rfl rfl dX9_numberIn_20 ?_
      refine v_geti C fl_X9_126 rfl ht dX9_numberIn_21 ?_
      refine v_icge C (t := 59) dX9_numberIn_24 (by decide) ?_ ?_
      · refine v_sub (lv' := [(0, .ref (ga G this)), (1, .int a0), (2, .int a1), (3, .int a2), (4, .int y2)]) [0, 1, 2, 3, 4] rfl ?_
        exact v_leaf (hF8 y2)
      · refine v_aload_n C (n := 0) rfl rfl dX9_numberIn_27 ?_
        refine v_geti C fl_X9_117 rfl ht dX9_numberIn_28 ?_
        refine v_iconst C (v := 3) (by decide) dX9_numberIn_31 ?_
        refine v_icne C (t := 59) dX9_numberIn_32 (by decide) ?_ ?_
        · refine v_sub (lv' := [(0, .ref (ga G this)), (1, .int a0), (2, .int a1), (3, .int a2), (4, .int y2)]) [0, 1, 2, 3, 4] rfl ?_
          exact v_leaf (hF8 y2)
        · refine v_bipush C (v := 10) (by decide) dX9_numberIn_35 ?_
          refine v_iload C (n := 4) rfl dX9_numberIn_37 ?_
          refine v_imul C dX9_numberIn_39 ?_
          refine v_aload_n C (n := 0) rfl rfl dX9_numberIn_40 ?_
          refine v_getr C (t := 20) fl_X9_37 rfl rfl ht dX9_numberIn_41 (fun h21 => ?_)
          refine v_iload C (n := 5) rfl dX9_numberIn_44 ?_
          refine v_iald C h21.oa dX9_numberIn_46 (fun x22 => ?_)
          refine v_iadd C dX9_numberIn_47 ?_
          refine v_bipush C (v := 48) (by decide) dX9_numberIn_48 ?_
          refine v_isub C dX9_numberIn_50 ?_
          refine v_istore C (lv' := [(4, .int (((10 * y2) + x22) - 48)), (0, .ref (ga G this)), (1, .int a0), (2, .int a1), (3, .int a2), (5, .int y3)]) (by decide) rfl dX9_numberIn_51 ?_
          refine v_let (y := (((10 * y2) + x22) - 48)) (fun x23 => [(4, .int x23), (0, .ref (ga G this)), (1, .int a0), (2, .int a1), (3, .int a2), (5, .int y3)]) (fun x23 => []) (fun x23 => ?_)
          refine v_iinc C (n := 5) (v := y3 + 1) (lv' := [(5, .int (y3 + 1)), (4, .int x23), (0, .ref (ga G this)), (1, .int a0), (2, .int a1), (3, .int a2)]) rfl (congrArg (y3 + ·) (by decide : Int32.ofInt (1) = (1 : Int32))) (by decide) rfl dX9_numberIn_53 ?_
          refine v_let (y := y3 + 1) (fun x24 => [(5, .int x24), (4, .int x23), (0, .ref (ga G this)), (1, .int a0), (2, .int a1), (3, .int a2)]) (fun x24 => []) (fun x24 => ?_)
          refine v_goto C (t := 18) (by decide) dX9_numberIn_56 ?_
          refine v_sub (lv' := [(0, .ref (ga G this)), (1, .int a0), (2, .int a1), (3, .int a2), (4, .int x23), (5, .int x24)]) [2, 3, 4, 5, 1, 0] rfl ?_
          exact v_leaf (hX6 (x23, x24))
  · refine v_iconst C (v := 0) (by decide) dX9_numberIn_7 ?_
    exact v_iret C hr dX9_numberIn_8 (fun a h => by have h := Option.some.inj h; subst h; rfl)
set_option maxRecDepth 20000 in
set_option maxHeartbeats 4000000 in
theorem s_X9_mustEnd {l : Launch} (G : GT) (Z : ZT) (hG : DA G) (hZ : WT G Z) {this : Nat} {μ : MT} {q : MT} (ht : Ob G Z this 9) (hq : m_X9_mustEnd Z this μ = some q) : MZ l G Z yX9_mustEnd cX9_mustEnd 1 none 3 [.ref (ga G this)] μ none q := by
  refine v_met (J := (fun ν : MT => ((none : Option Value), ν))) hG hZ (by decide) (Nat.le_of_ble_eq_true rfl) hq ?_
  intro x C hR _ hr
  show VK x G Z (0, 0) 1 (QM x G Z) (fun ν : MT => ((none : Option Value), ν)) 0 [(0, .ref (ga G this))] [] μ _ some
  unfold m_X9_mustEnd
  refine v_aload_n C (n := 0) rfl rfl dX9_mustEnd_0 ?_
  refine v_geti C fl_X9_129 rfl ht dX9_mustEnd_1 ?_
  refine v_ifne C (t := 24) dX9_mustEnd_4 (by decide) ?_ ?_
  · exact v_vret C hr dX9_mustEnd_24 (fun a h => by have h := Option.some.inj h; subst h; rfl)
  · refine v_aload_n C (n := 0) rfl rfl dX9_mustEnd_7 ?_
    refine v_aload_n C (n := 0) rfl rfl dX9_mustEnd_8 ?_
    refine v_geti C fl_X9_117 rfl ht dX9_mustEnd_9 ?_
    refine v_iconst C (v := 4) (by decide) dX9_mustEnd_12 ?_
    refine v_join 21 (fun t : Int32 => []) (fun t : Int32 => [.int t, .ref (ga G this)]) (fun t : Int32 => μ) ?_ ?_
    · intro z1
      refine v_cvIv C (d := 2) (hR.le (by omega)) (c := 9) rfl cv_X9_142 (by decide) ht (by decide) [.int z1] rfl (fun _ hc => s_X9_must G Z hG hZ   ht hc) (Nat.le_of_ble_eq_true rfl) dX9_mustEnd_21 rfl (fun ν4 => ?_)
      exact v_vret C hr dX9_mustEnd_24 (fun a h => by have h := Option.some.inj h; subst h; rfl)
    intro F3 hF2
    refine v_icne C (t := 20) dX9_mustEnd_13 (by decide) ?_ ?_
    · refine v_iconst C (v := 0) (by decide) dX9_mustEnd_20 ?_
      refine v_sub (lv' := []) [] rfl ?_
      exact v_leaf (hF2 0)
    · refine v_iconst C (v := 1) (by decide) dX9_mustEnd_16 ?_
      refine v_goto C (t := 21) (by decide) dX9_mustEnd_17 ?_
      refine v_sub (lv' := []) [] rfl ?_
      exact v_leaf (hF2 1)
set_option maxRecDepth 20000 in
set_option maxHeartbeats 4000000 in
theorem s_X9_shrinks {l : Launch} (G : GT) (Z : ZT) (hG : DA G) (hZ : WT G Z) {this : Nat} {a0 : Int32} {a1 : Int32} {a2 : Int32} {μ : MT} {q : Int32} (ht : Ob G Z this 9) (hq : m_X9_shrinks Z this a0 a1 a2 μ = some q) : MZ l G Z yX9_shrinks cX9_shrinks 5 (some .int) 3 [.ref (ga G this), .int a0, .int a1, .int a2] μ (some (.int q)) μ := by
  refine v_met (J := (fun r : Int32 => (some (.int r), μ))) hG hZ (by decide) (Nat.le_of_ble_eq_true rfl) hq ?_
  intro x C hR _ hr
  show VK x G Z (0, 0) 5 (QM x G Z) (fun r : Int32 => (some (.int r), μ)) 0 [(0, .ref (ga G this)), (1, .int a0), (2, .int a1), (3, .int a2)] [] μ _ some
  unfold m_X9_shrinks
  refine v_iload_n C (n := 3) rfl rfl dX9_shrinks_0 ?_
  refine v_aload_n C (n := 0) rfl rfl dX9_shrinks_1 ?_
  refine v_iload_n C (n := 2) rfl rfl dX9_shrinks_2 ?_
  refine v_iconst C (v := 1) (by decide) dX9_shrinks_3 ?_
  refine v_iadd C dX9_shrinks_4 ?_
  refine v_cvRi C (d := 2) (hR.le (by omega)) (c := 9) rfl cv_X9_243 (by decide) ht (by decide) [.int (a1 + 1)] rfl (fun _ hc => s_X9_holds G Z hG hZ   ht hc) (Nat.le_of_ble_eq_true rfl) dX9_shrinks_5 rfl (fun r1 => ?_)
  refine v_join 16 (fun t : Int32 => [(0, .ref (ga G this)), (1, .int a0), (2, .int a1), (3, .int a2)]) (fun t : Int32 => [.int t, .int a2]) (fun t : Int32 => μ) ?_ ?_
  · intro z2
    refine v_isub C dX9_shrinks_16 ?_
    refine v_istore C (lv' := [(4, .int (a2 - z2)), (0, .ref (ga G this)), (1, .int a0), (2, .int a1), (3, .int a2)]) (by decide) rfl dX9_shrinks_17 ?_
    refine v_let (y := (a2 - z2)) (fun x5 => [(4, .int x5), (0, .ref (ga G this)), (1, .int a0), (2, .int a1), (3, .int a2)]) (fun x5 => []) (fun x5 => ?_)
    refine v_iload_n C (n := 2) rfl rfl dX9_shrinks_19 ?_
    refine v_case (fun c6 => ?_) (fun c6 => ?_)
    · refine v_tin C (t := 64) (k := 1) c6 dX9_shrinks_20 (by decide) (by decide) rfl (by decide) ?_
      refine v_iconst C (v := 1) (by decide) dX9_shrinks_64 ?_
      exact v_iret C hr dX9_shrinks_65 (fun a h => by have h := Option.some.inj h; subst h; rfl)
    refine v_case (fun c7 => ?_) (fun c7 => ?_)
    · refine v_tin C (t := 66) (k := 3) c7 dX9_shrinks_20 (by decide) (by decide) rfl (by decide) ?_
      refine v_iload C (n := 0) rfl dX9_shrinks_66 ?_
      exact v_iret C hr dX9_shrinks_68 (fun a h => by have h := Option.some.inj h; subst h; rfl)
    refine v_case (fun c8 => ?_) (fun c8 => ?_)
    · refine v_tin C (t := 69) (k := 4) c8 dX9_shrinks_20 (by decide) (by decide) rfl (by decide) ?_
      refine v_iload C (n := 0) rfl dX9_shrinks_69 ?_
      refine v_aload_n C (n := 1) rfl rfl dX9_shrinks_71 ?_
      refine v_iload_n C (n := 3) rfl rfl dX9_shrinks_72 ?_
      refine v_iconst C (v := 1) (by decide) dX9_shrinks_73 ?_
      refine v_isub C dX9_shrinks_74 ?_
      refine v_cvRi C (d := 2) (hR.le (by omega)) (c := 9) rfl cv_X9_243 (by decide) ht (by decide) [.int (a1 - 1)] rfl (fun _ hc => s_X9_holds G Z hG hZ   ht hc) (Nat.le_of_ble_eq_true rfl) dX9_shrinks_75 rfl (fun r9 => ?_)
      refine v_joinm 91 (fun t : Unit => []) (fun t : Unit => [.int x5]) (fun t : Unit => μ) ?_ ?_
      · rintro ⟨⟩
        refine v_iconst C (v := 0) (by decide) dX9_shrinks_91 ?_
        refine v_goto C (t := 96) (by decide) dX9_shrinks_92 ?_
        refine v_isub C dX9_shrinks_96 ?_
        exact v_iret C hr dX9_shrinks_97 (fun a h => by have h := Option.some.inj h; subst h; rfl)
      intro F11 e12 hF10
      refine v_ifne C (t := 91) dX9_shrinks_78 (by decide) ?_ ?_
      · refine v_sub (lv' := []) [] rfl ?_
        exact v_leaf (hF10 ())
      · refine v_aload_n C (n := 1) rfl rfl dX9_shrinks_81 ?_
        refine v_iload_n C (n := 3) rfl rfl dX9_shrinks_82 ?_
        refine v_iconst C (v := 1) (by decide) dX9_shrinks_83 ?_
        refine v_iadd C dX9_shrinks_84 ?_
        refine v_cvRi C (d := 2) (hR.le (by omega)) (c := 9) rfl cv_X9_243 (by decide) ht (by decide) [.int (a1 + 1)] rfl (fun _ hc => s_X9_holds G Z hG hZ   ht hc) (Nat.le_of_ble_eq_true rfl) dX9_shrinks_85 rfl (fun r13 => ?_)
        refine v_ifeq C (t := 95) dX9_shrinks_88 (by decide) ?_ ?_
        · refine v_iconst C (v := 1) (by decide) dX9_shrinks_95 ?_
          refine v_isub C dX9_shrinks_96 ?_
          exact v_iret C hr dX9_shrinks_97 (fun a h => by simp only [ob_s, lq, e12] at h; have h := Option.some.inj h; subst h; rfl)
        · refine v_sub (lv' := []) [] rfl ?_
          exact v_leaf (hF10 ())
    refine v_case (fun c14 => ?_) (fun c14 => ?_)
    · refine v_tin C (t := 98) (k := 5) c14 dX9_shrinks_20 (by decide) (by decide) rfl (by decide) ?_
      refine v_aload_n C (n := 1) rfl rfl dX9_shrinks_98 ?_
      refine v_iload_n C (n := 3) rfl rfl dX9_shrinks_99 ?_
      refine v_cvRi C (d := 2) (hR.le (by omega)) (c := 9) rfl cv_X9_243 (by decide) ht (by decide) [.int a1] rfl (fun _ hc => s_X9_holds G Z hG hZ   ht hc) (Nat.le_of_ble_eq_true rfl) dX9_shrinks_100 rfl (fun r15 => ?_)
      refine v_ifeq C (t := 112) dX9_shrinks_103 (by decide) ?_ ?_
      · refine v_iload_n C (n := 4) rfl rfl dX9_shrinks_112 ?_
        exact v_iret C hr dX9_shrinks_113 (fun a h => by have h := Option.some.inj h; subst h; rfl)
      · refine v_iload_n C (n := 4) rfl rfl dX9_shrinks_106 ?_
        refine v_iconst C (v := 2) (by decide) dX9_shrinks_107 ?_
        refine v_idiv C dX9_shrinks_108 (fun x16 => ?_)
        refine v_goto C (t := 113) (by decide) dX9_shrinks_109 ?_
        exact v_iret C hr dX9_shrinks_113 (fun a h => by have h := Option.some.inj h; subst h; rfl)
    refine v_case (fun c17 => ?_) (fun c17 => ?_)
    · refine v_tin C (t := 114) (k := 6) c17 dX9_shrinks_20 (by decide) (by decide) rfl (by decide) ?_
      refine v_iload_n C (n := 4) rfl rfl dX9_shrinks_114 ?_
      refine v_ineg C dX9_shrinks_115 ?_
      exact v_iret C hr dX9_shrinks_116 (fun a h => by have h := Option.some.inj h; subst h; rfl)
    refine v_case (fun c18 => ?_) (fun c18 => ?_)
    · refine v_tin C (t := 117) (k := 7) c18 dX9_shrinks_20 (by decide) (by decide) rfl (by decide) ?_
      refine v_aload_n C (n := 1) rfl rfl dX9_shrinks_117 ?_
      refine v_getr C (t := 20) fl_X9_46 rfl rfl ht dX9_shrinks_118 (fun h19 => ?_)
      refine v_bipush C (v := 24) (by decide) dX9_shrinks_121 ?_
      refine v_iload_n C (n := 3) rfl rfl dX9_shrinks_123 ?_
      refine v_iadd C dX9_shrinks_124 ?_
      refine v_iald C h19.oa dX9_shrinks_125 (fun x20 => ?_)
      refine v_ifle C (t := 134) dX9_shrinks_126 (by decide) ?_ ?_
      · refine v_iload_n C (n := 4) rfl rfl dX9_shrinks_134 ?_
        exact v_iret C hr dX9_shrinks_135 (fun a h => by have h := Option.some.inj h; subst h; rfl)
      · refine v_iload_n C (n := 4) rfl rfl dX9_shrinks_129 ?_
        refine v_ineg C dX9_shrinks_130 ?_
        refine v_goto C (t := 135) (by decide) dX9_shrinks_131 ?_
        exact v_iret C hr dX9_shrinks_135 (fun a h => by have h := Option.some.inj h; subst h; rfl)
    have nc6 := lv_neT (k := 1) (a := 1) c6 (by decide)
    have nc7 := lv_neT (k := 3) (a := 3) c7 (by decide)
    have nc8 := lv_neT (k := 4) (a := 4) c8 (by decide)
    have nc14 := lv_neT (k := 5) (a := 5) c14 (by decide)
    have nc17 := lv_neT (k := 6) (a := 6) c17 (by decide)
    have nc18 := lv_neT (k := 7) (a := 7) c18 (by decide)
    refine v_tout2 C (t := 136) dX9_shrinks_20 (by
      by_cases k2 : a0 = 2
      · exact Or.inr ⟨by rw [k2]; decide, by rw [k2]; decide, by rw [k2]; rfl⟩
      have nk2 := lv_neT (k := 2) (a := 2) k2 (by decide)
      exact Or.inl (by omega)) (by decide) ?_
    refine v_iload_n C (n := 4) rfl rfl dX9_shrinks_136 ?_
    exact v_iret C hr dX9_shrinks_137 (fun a h => by have h := Option.some.inj h; subst h; rfl)
  intro F4 hF3
  refine v_ifeq C (t := 15) dX9_shrinks_8 (by decide) ?_ ?_
  · refine v_iconst C (v := 0) (by decide) dX9_shrinks_15 ?_
    exact v_leaf (hF3 0)
  · refine v_iconst C (v := 1) (by decide) dX9_shrinks_11 ?_
    refine v_goto C (t := 16) (by decide) dX9_shrinks_12 ?_
    exact v_leaf (hF3 1)
set_option maxRecDepth 20000 in
set_option maxHeartbeats 4000000 in
theorem s_X9_crack {l : Launch} (G : GT) (Z : ZT) (hG : DA G) (hZ : WT G Z) {this : Nat} {a0 : Int32} {μ : MT} {q : Int32 × MT} (ht : Ob G Z this 9) (hq : m_X9_crack Z this a0 μ = some q) : MZ l G Z yX9_crack cX9_crack 2 (some .int) 3 [.ref (ga G this), .int a0] μ (some (.int q.1)) q.2 := by
  refine v_met (J := (fun q : Int32 × MT => (some (.int q.1), q.2))) hG hZ (by decide) (Nat.le_of_ble_eq_true rfl) hq ?_
  intro x C hR _ hr
  show VK x G Z (0, 0) 2 (QM x G Z) (fun q : Int32 × MT => (some (.int q.1), q.2)) 0 [(0, .ref (ga G this)), (1, .int a0)] [] μ _ some
  unfold m_X9_crack
  refine v_aload_n C (n := 0) rfl rfl dX9_crack_0 ?_
  refine v_iconst C (v := 0) (by decide) dX9_crack_1 ?_
  refine v_puti C fp_X9_71 rfl rfl ht dX9_crack_2 (fun ν1 => ?_)
  refine v_iload_n C (n := 1) rfl rfl dX9_crack_5 ?_
  refine v_i2l C (v := (a0 : Int32).toInt64) rfl dX9_crack_6 ?_
  refine v_lconst C (v := 0) (by decide) dX9_crack_7 ?_
  refine v_ldc2 C (v := 60) (w17 28 rfl) dX9_crack_8 ?_
  refine v_csRi C (d := 0) (hR.le (by omega)) cs_X9_81 (by decide) [.long ((a0 : Int32).toInt64), .long 0, .long 60] rfl (fun _ hc => s_X9_in G Z hG hZ   hc) (Nat.le_of_ble_eq_true rfl) dX9_crack_11 rfl (fun r2 => ?_)
  refine v_ifeq C (t := 25) dX9_crack_14 (by decide) ?_ ?_
  · refine v_ldc C (v := (-1000001)) (w14 18 rfl) dX9_crack_25 ?_
    exact v_iret C hr dX9_crack_27 (fun a h => by have h := Option.some.inj h; subst h; rfl)
  · refine v_aload_n C (n := 0) rfl rfl dX9_crack_17 ?_
    refine v_iload_n C (n := 1) rfl rfl dX9_crack_18 ?_
    refine v_cvIi C (d := 2) (hR.le (by omega)) (c := 9) rfl cv_X9_310 (by decide) ht (by decide) [.int a0] rfl (fun _ hc => s_X9_crackAt G Z hG hZ   ht hc) (Nat.le_of_ble_eq_true rfl) dX9_crack_19 rfl (fun r3 ν4 => ?_)
    refine v_goto C (t := 27) (by decide) dX9_crack_22 ?_
    exact v_iret C hr dX9_crack_27 (fun a h => by have h := Option.some.inj h; subst h; rfl)
set_option maxRecDepth 20000 in
set_option maxHeartbeats 4000000 in
theorem s_X9_warm {l : Launch} (G : GT) (Z : ZT) (hG : DA G) (hZ : WT G Z) {this : Nat} {μ : MT} {q : Int32 × MT} (ht : Ob G Z this 9) (hq : m_X9_warm Z this μ = some q) : MZ l G Z yX9_warm cX9_warm 2 (some .int) 3 [.ref (ga G this)] μ (some (.int q.1)) q.2 := by
  refine v_met (J := (fun q : Int32 × MT => (some (.int q.1), q.2))) hG hZ (by decide) (Nat.le_of_ble_eq_true rfl) hq ?_
  intro x C hR _ hr
  show VK x G Z (0, 0) 2 (QM x G Z) (fun q : Int32 × MT => (some (.int q.1), q.2)) 0 [(0, .ref (ga G this))] [] μ _ some
  unfold m_X9_warm
  refine v_aload_n C (n := 0) rfl rfl dX9_warm_0 ?_
  refine v_iconst C (v := 0) (by decide) dX9_warm_1 ?_
  refine v_puti C fp_X9_71 rfl rfl ht dX9_warm_2 (fun ν1 => ?_)
  refine v_aload_n C (n := 0) rfl rfl dX9_warm_5 ?_
  refine v_geti C fl_X9_212 rfl ht dX9_warm_6 ?_
  refine v_ifne C (t := 16) dX9_warm_9 (by decide) ?_ ?_
  · refine v_bipush C (v := 60) (by decide) dX9_warm_16 ?_
    refine v_istore_n C (lv' := [(1, .int 60), (0, .ref (ga G this))]) rfl (by decide) rfl dX9_warm_18 ?_
    refine v_sub (lv' := [(0, .ref (ga G this)), (1, .int 60)]) [1, 0] rfl ?_
    refine v_lp 19 39 (fun t : Int32 × MT => [(0, .ref (ga G this)), (1, .int (t.1))]) (fun t : Int32 × MT => t.2) (fun t : Int32 × MT => [(1, .int (t.1))]) (fun t : Int32 × MT => t.2) ?_ ?_ LN (60, ν1)
    · rintro ⟨y4, ν5⟩
      refine v_iload_n C (n := 0) rfl rfl dX9_warm_39 ?_
      refine v_ifge C (t := 48) dX9_warm_40 (by decide) ?_ ?_
      · refine v_iload_n C (n := 0) rfl rfl dX9_warm_48 ?_
        exact v_iret C hr dX9_warm_49 (fun a h => by have h := Option.some.inj h; subst h; rfl)
      · refine v_ldc C (v := (-1000000)) (w14 52 rfl) dX9_warm_43 ?_
        refine v_goto C (t := 49) (by decide) dX9_warm_45 ?_
        exact v_iret C hr dX9_warm_49 (fun a h => by have h := Option.some.inj h; subst h; rfl)
    · intro X6 F8 hX7 hF9
      rintro ⟨y2, ν3⟩
      refine v_iload_n C (n := 1) rfl rfl dX9_warm_19 ?_
      refine v_iflt C (t := 39) dX9_warm_20 (by decide) ?_ ?_
      · refine v_sub (lv' := [(1, .int y2)]) [1] rfl ?_
        exact v_leaf (hF9 (y2, ν3))
      · refine v_aload_n C (n := 0) rfl rfl dX9_warm_23 ?_
        refine v_iload_n C (n := 1) rfl rfl dX9_warm_24 ?_
        refine v_cvIi C (d := 2) (hR.le (by omega)) (c := 9) rfl cv_X9_310 (by decide) ht (by decide) [.int y2] rfl (fun _ hc => s_X9_crackAt G Z hG hZ   ht hc) (Nat.le_of_ble_eq_true rfl) dX9_warm_25 rfl (fun r10 ν11 => ?_)
        refine v_ldc C (v := (-1000000)) (w14 52 rfl) dX9_warm_28 ?_
        refine v_iceq C (t := 39) dX9_warm_30 (by decide) ?_ ?_
        · refine v_sub (lv' := [(1, .int y2)]) [1] rfl ?_
          exact v_leaf (hF9 (y2, ν11))
        · refine v_iinc C (n := 1) (v := y2 + (-1)) (lv' := [(1, .int (y2 + (-1))), (0, .ref (ga G this))]) rfl (congrArg (y2 + ·) (by decide : Int32.ofInt (-1) = (-1 : Int32))) (by decide) rfl dX9_warm_33 ?_
          refine v_let (y := y2 + (-1)) (fun x12 => [(1, .int x12), (0, .ref (ga G this))]) (fun x12 => []) (fun x12 => ?_)
          refine v_goto C (t := 19) (by decide) dX9_warm_36 ?_
          refine v_sub (lv' := [(0, .ref (ga G this)), (1, .int x12)]) [1, 0] rfl ?_
          exact v_leaf (hX7 (x12, ν11))
  · refine v_ldcw C (v := (-1000002)) (w15 61 rfl) dX9_warm_12 ?_
    exact v_iret C hr dX9_warm_15 (fun a h => by have h := Option.some.inj h; subst h; rfl)
set_option maxRecDepth 20000 in
set_option maxHeartbeats 4000000 in
theorem s_X9_kind {l : Launch} (G : GT) (Z : ZT) (hG : DA G) (hZ : WT G Z) {this : Nat} {a0 : Int32} {μ : MT} {q : Int32 × MT} (ht : Ob G Z this 9) (hq : m_X9_kind Z this a0 μ = some q) : MZ l G Z yX9_kind cX9_kind 2 (some .int) 3 [.ref (ga G this), .int a0] μ (some (.int q.1)) q.2 := by
  refine v_met (J := (fun q : Int32 × MT => (some (.int q.1), q.2))) hG hZ (by decide) (Nat.le_of_ble_eq_true rfl) hq ?_
  intro x C hR _ hr
  show VK x G Z (0, 0) 2 (QM x G Z) (fun q : Int32 × MT => (some (.int q.1), q.2)) 0 [(0, .ref (ga G this)), (1, .int a0)] [] μ _ some
  unfold m_X9_kind
  refine v_aload_n C (n := 0) rfl rfl dX9_kind_0 ?_
  refine v_iconst C (v := 0) (by decide) dX9_kind_1 ?_
  refine v_puti C fp_X9_71 rfl rfl ht dX9_kind_2 (fun ν1 => ?_)
  refine v_aload_n C (n := 0) rfl rfl dX9_kind_5 ?_
  refine v_iload_n C (n := 1) rfl rfl dX9_kind_6 ?_
  refine v_cvRi C (d := 2) (hR.le (by omega)) (c := 9) rfl cv_X9_325 (by decide) ht (by decide) [.int a0] rfl (fun _ hc => s_X9_isStep G Z hG hZ   ht hc) (Nat.le_of_ble_eq_true rfl) dX9_kind_7 rfl (fun r2 => ?_)
  refine v_ifeq C (t := 24) dX9_kind_10 (by decide) ?_ ?_
  · refine v_ldc C (v := (-1000001)) (w14 18 rfl) dX9_kind_24 ?_
    exact v_iret C hr dX9_kind_26 (fun a h => by have h := Option.some.inj h; subst h; rfl)
  · refine v_aload_n C (n := 0) rfl rfl dX9_kind_13 ?_
    refine v_getr C (t := 20) fl_X9_19 rfl rfl ht dX9_kind_14 (fun h3 => ?_)
    refine v_iconst C (v := 4) (by decide) dX9_kind_17 ?_
    refine v_iload_n C (n := 1) rfl rfl dX9_kind_18 ?_
    refine v_imul C dX9_kind_19 ?_
    refine v_iald C h3.oa dX9_kind_20 (fun x4 => ?_)
    refine v_goto C (t := 26) (by decide) dX9_kind_21 ?_
    exact v_iret C hr dX9_kind_26 (fun a h => by have h := Option.some.inj h; subst h; rfl)
set_option maxRecDepth 20000 in
set_option maxHeartbeats 4000000 in
theorem s_X9_as {l : Launch} (G : GT) (Z : ZT) (hG : DA G) (hZ : WT G Z) {this : Nat} {a0 : Int32} {a1 : Int32} {μ : MT} {q : Int32 × MT} (ht : Ob G Z this 9) (hq : m_X9_as Z this a0 a1 μ = some q) : MZ l G Z yX9_as cX9_as 3 (some .int) 3 [.ref (ga G this), .int a0, .int a1] μ (some (.int q.1)) q.2 := by
  refine v_met (J := (fun q : Int32 × MT => (some (.int q.1), q.2))) hG hZ (by decide) (Nat.le_of_ble_eq_true rfl) hq ?_
  intro x C hR _ hr
  show VK x G Z (0, 0) 3 (QM x G Z) (fun q : Int32 × MT => (some (.int q.1), q.2)) 0 [(0, .ref (ga G this)), (1, .int a0), (2, .int a1)] [] μ _ some
  unfold m_X9_as
  refine v_aload_n C (n := 0) rfl rfl dX9_as_0 ?_
  refine v_iconst C (v := 0) (by decide) dX9_as_1 ?_
  refine v_puti C fp_X9_71 rfl rfl ht dX9_as_2 (fun ν1 => ?_)
  refine v_aload_n C (n := 0) rfl rfl dX9_as_5 ?_
  refine v_iload_n C (n := 1) rfl rfl dX9_as_6 ?_
  refine v_cvRi C (d := 2) (hR.le (by omega)) (c := 9) rfl cv_X9_325 (by decide) ht (by decide) [.int a0] rfl (fun _ hc => s_X9_isStep G Z hG hZ   ht hc) (Nat.le_of_ble_eq_true rfl) dX9_as_7 rfl (fun r2 => ?_)
  refine v_ifeq C (t := 25) dX9_as_10 (by decide) ?_ ?_
  · refine v_ldc C (v := (-1000001)) (w14 18 rfl) dX9_as_25 ?_
    exact v_iret C hr dX9_as_27 (fun a h => by have h := Option.some.inj h; subst h; rfl)
  · refine v_iload_n C (n := 2) rfl rfl dX9_as_13 ?_
    refine v_i2l C (v := (a1 : Int32).toInt64) rfl dX9_as_14 ?_
    refine v_lconst C (v := 0) (by decide) dX9_as_15 ?_
    refine v_ldc2 C (v := 7) (w14 13 rfl) dX9_as_16 ?_
    refine v_csRi C (d := 0) (hR.le (by omega)) cs_X9_81 (by decide) [.long ((a1 : Int32).toInt64), .long 0, .long 7] rfl (fun _ hc => s_X9_in G Z hG hZ   hc) (Nat.le_of_ble_eq_true rfl) dX9_as_19 rfl (fun r3 => ?_)
    refine v_ifne C (t := 28) dX9_as_22 (by decide) ?_ ?_
    · refine v_aload_n C (n := 0) rfl rfl dX9_as_28 ?_
      refine v_iconst C (v := 0) (by decide) dX9_as_29 ?_
      refine v_puti C fp_X9_75 rfl rfl ht dX9_as_30 (fun ν4 => ?_)
      refine v_aload_n C (n := 0) rfl rfl dX9_as_33 ?_
      refine v_getr C (t := 20) fl_X9_19 rfl rfl ht dX9_as_34 (fun h5 => ?_)
      refine v_iconst C (v := 4) (by decide) dX9_as_37 ?_
      refine v_iload_n C (n := 1) rfl rfl dX9_as_38 ?_
      refine v_imul C dX9_as_39 ?_
      refine v_iald C h5.oa dX9_as_40 (fun x6 => ?_)
      refine v_iload_n C (n := 2) rfl rfl dX9_as_41 ?_
      refine v_csRi C (d := 1) (hR.le (by omega)) cs_X9_328 (by decide) [.int x6, .int a1] rfl (fun _ hc => s_X9_isOf G Z hG hZ   hc) (Nat.le_of_ble_eq_true rfl) dX9_as_42 rfl (fun r7 => ?_)
      refine v_ifeq C (t := 61) dX9_as_45 (by decide) ?_ ?_
      · refine v_aload_n C (n := 0) rfl rfl dX9_as_61 ?_
        refine v_iconst C (v := 3) (by decide) dX9_as_62 ?_
        refine v_cvIi C (d := 0) (hR.le (by omega)) (c := 9) rfl cv_X9_92 (by decide) ht (by decide) [.int 3] rfl (fun _ hc => s_X9_finding G Z hG hZ   ht hc) (Nat.le_of_ble_eq_true rfl) dX9_as_63 rfl (fun r8 ν9 => ?_)
        exact v_iret C hr dX9_as_66 (fun a h => by have h := Option.some.inj h; subst h; rfl)
      · refine v_aload_n C (n := 0) rfl rfl dX9_as_48 ?_
        refine v_getr C (t := 20) fl_X9_19 rfl rfl ht dX9_as_49 (fun h10 => ?_)
        refine v_iconst C (v := 4) (by decide) dX9_as_52 ?_
        refine v_iload_n C (n := 1) rfl rfl dX9_as_53 ?_
        refine v_imul C dX9_as_54 ?_
        refine v_iconst C (v := 1) (by decide) dX9_as_55 ?_
        refine v_iadd C dX9_as_56 ?_
        refine v_iald C h10.oa dX9_as_57 (fun x11 => ?_)
        refine v_goto C (t := 66) (by decide) dX9_as_58 ?_
        exact v_iret C hr dX9_as_66 (fun a h => by have h := Option.some.inj h; subst h; rfl)
    · refine v_ldc C (v := (-1000001)) (w14 18 rfl) dX9_as_25 ?_
      exact v_iret C hr dX9_as_27 (fun a h => by have h := Option.some.inj h; subst h; rfl)
set_option maxRecDepth 20000 in
set_option maxHeartbeats 4000000 in
theorem s_X9_sizeOf {l : Launch} (G : GT) (Z : ZT) (hG : DA G) (hZ : WT G Z) {this : Nat} {a0 : Int32} {a1 : Int32} {μ : MT} {q : Int32 × MT} (ht : Ob G Z this 9) (hq : m_X9_sizeOf Z this a0 a1 μ = some q) : MZ l G Z yX9_sizeOf cX9_sizeOf 5 (some .int) 3 [.ref (ga G this), .int a0, .int a1] μ (some (.int q.1)) q.2 := by
  refine v_met (J := (fun q : Int32 × MT => (some (.int q.1), q.2))) hG hZ (by decide) (Nat.le_of_ble_eq_true rfl) hq ?_
  intro x C hR _ hr
  show VK x G Z (0, 0) 5 (QM x G Z) (fun q : Int32 × MT => (some (.int q.1), q.2)) 0 [(0, .ref (ga G this)), (1, .int a0), (2, .int a1)] [] μ _ some
  unfold m_X9_sizeOf
  refine v_iload_n C (n := 2) rfl rfl dX9_sizeOf_0 ?_
  refine v_bipush C (v := 7) (by decide) dX9_sizeOf_1 ?_
  refine v_icne C (t := 12) dX9_sizeOf_3 (by decide) ?_ ?_
  · refine v_iload_n C (n := 2) rfl rfl dX9_sizeOf_12 ?_
    refine v_iconst C (v := 4) (by decide) dX9_sizeOf_13 ?_
    refine v_join 23 (fun t : MT => [(0, .ref (ga G this)), (1, .int a0), (2, .int a1)]) (fun t : MT => []) (fun t : MT => t) ?_ ?_
    · intro ν1
      refine v_iload_n C (n := 2) rfl rfl dX9_sizeOf_23 ?_
      refine v_iconst C (v := 3) (by decide) dX9_sizeOf_24 ?_
      refine v_csRi C (d := 1) (hR.le (by omega)) cs_X9_328 (by decide) [.int a1, .int 3] rfl (fun _ hc => s_X9_isOf G Z hG hZ   hc) (Nat.le_of_ble_eq_true rfl) dX9_sizeOf_25 rfl (fun r4 => ?_)
      refine v_join 37 (fun t : MT => [(0, .ref (ga G this)), (1, .int a0), (2, .int a1)]) (fun t : MT => []) (fun t : MT => t) ?_ ?_
      · intro ν5
        refine v_iload_n C (n := 2) rfl rfl dX9_sizeOf_37 ?_
        refine v_iconst C (v := 2) (by decide) dX9_sizeOf_38 ?_
        refine v_csRi C (d := 1) (hR.le (by omega)) cs_X9_328 (by decide) [.int a1, .int 2] rfl (fun _ hc => s_X9_isOf G Z hG hZ   hc) (Nat.le_of_ble_eq_true rfl) dX9_sizeOf_39 rfl (fun r8 => ?_)
        refine v_istore_n C (lv' := [(3, .int r8), (0, .ref (ga G this)), (1, .int a0), (2, .int a1)]) rfl (by decide) rfl dX9_sizeOf_42 ?_
        refine v_iload_n C (n := 0) rfl rfl dX9_sizeOf_43 ?_
        refine v_join 53 (fun t : MT => [(0, .ref (ga G this)), (1, .int a0), (2, .int a1), (3, .int r8)]) (fun t : MT => []) (fun t : MT => t) ?_ ?_
        · intro ν9
          refine v_aload_n C (n := 0) rfl rfl dX9_sizeOf_53 ?_
          refine v_bipush C (v := 10) (by decide) dX9_sizeOf_54 ?_
          refine v_cvIv C (d := 0) (hR.le (by omega)) (c := 9) rfl cv_X9_335 (by decide) ht (by decide) [.int 10] rfl (fun _ hc => s_X9_began G Z hG hZ   ht hc) (Nat.le_of_ble_eq_true rfl) dX9_sizeOf_56 rfl (fun ν12 => ?_)
          refine v_aload_n C (n := 0) rfl rfl dX9_sizeOf_59 ?_
          refine v_getr C (t := 20) fl_X9_19 rfl rfl ht dX9_sizeOf_60 (fun h13 => ?_)
          refine v_iconst C (v := 4) (by decide) dX9_sizeOf_63 ?_
          refine v_iload_n C (n := 1) rfl rfl dX9_sizeOf_64 ?_
          refine v_imul C dX9_sizeOf_65 ?_
          refine v_iconst C (v := 2) (by decide) dX9_sizeOf_66 ?_
          refine v_iadd C dX9_sizeOf_67 ?_
          refine v_iald C h13.oa dX9_sizeOf_68 (fun x14 => ?_)
          refine v_iload_n C (n := 3) rfl rfl dX9_sizeOf_69 ?_
          refine v_join 83 (fun t : Int32 × MT => [(2, .int a1)]) (fun t : Int32 × MT => [.int (t.1), .int x14]) (fun t : Int32 × MT => t.2) ?_ ?_
          · rintro ⟨z15, ν16⟩
            refine v_iadd C dX9_sizeOf_83 ?_
            refine v_istore C (lv' := [(4, .int (x14 + z15)), (2, .int a1)]) (by decide) rfl dX9_sizeOf_84 ?_
            refine v_let (y := (x14 + z15)) (fun x19 => [(4, .int x19), (2, .int a1)]) (fun x19 => []) (fun x19 => ?_)
            refine v_iload C (n := 0) rfl dX9_sizeOf_86 ?_
            refine v_iload_n C (n := 1) rfl rfl dX9_sizeOf_88 ?_
            refine v_iconst C (v := 3) (by decide) dX9_sizeOf_89 ?_
            refine v_csRi C (d := 1) (hR.le (by omega)) cs_X9_328 (by decide) [.int a1, .int 3] rfl (fun _ hc => s_X9_isOf G Z hG hZ   hc) (Nat.le_of_ble_eq_true rfl) dX9_sizeOf_90 rfl (fun r20 => ?_)
            refine v_join 101 (fun t : Int32 => [(2, .int a1)]) (fun t : Int32 => [.int t, .int x19]) (fun t : Int32 => ν16) ?_ ?_
            · intro z21
              refine v_isub C dX9_sizeOf_101 ?_
              refine v_istore C (lv' := [(4, .int (x19 - z21)), (2, .int a1)]) (by decide) rfl dX9_sizeOf_102 ?_
              refine v_let (y := (x19 - z21)) (fun x24 => [(4, .int x24), (2, .int a1)]) (fun x24 => []) (fun x24 => ?_)
              refine v_iload_n C (n := 1) rfl rfl dX9_sizeOf_104 ?_
              refine v_iconst C (v := 4) (by decide) dX9_sizeOf_105 ?_
              refine v_icne C (t := 116) dX9_sizeOf_106 (by decide) ?_ ?_
              · refine v_iload C (n := 0) rfl dX9_sizeOf_116 ?_
                exact v_iret C hr dX9_sizeOf_118 (fun a h => by have h := Option.some.inj h; subst h; rfl)
              · refine v_iconst C (v := 2) (by decide) dX9_sizeOf_109 ?_
                refine v_iload C (n := 0) rfl dX9_sizeOf_110 ?_
                refine v_imul C dX9_sizeOf_112 ?_
                refine v_goto C (t := 118) (by decide) dX9_sizeOf_113 ?_
                exact v_iret C hr dX9_sizeOf_118 (fun a h => by have h := Option.some.inj h; subst h; rfl)
            intro F23 hF22
            refine v_ifeq C (t := 100) dX9_sizeOf_93 (by decide) ?_ ?_
            · refine v_iconst C (v := 0) (by decide) dX9_sizeOf_100 ?_
              refine v_sub (lv' := [(2, .int a1)]) [1] rfl ?_
              exact v_leaf (hF22 0)
            · refine v_iconst C (v := 1) (by decide) dX9_sizeOf_96 ?_
              refine v_goto C (t := 101) (by decide) dX9_sizeOf_97 ?_
              refine v_sub (lv' := [(2, .int a1)]) [1] rfl ?_
              exact v_leaf (hF22 1)
          intro F18 hF17
          refine v_ifeq C (t := 82) dX9_sizeOf_70 (by decide) ?_ ?_
          · refine v_iconst C (v := 0) (by decide) dX9_sizeOf_82 ?_
            refine v_sub (lv' := [(2, .int a1)]) [2] rfl ?_
            exact v_leaf (hF17 (0, ν12))
          · refine v_aload_n C (n := 0) rfl rfl dX9_sizeOf_73 ?_
            refine v_iload_n C (n := 1) rfl rfl dX9_sizeOf_74 ?_
            refine v_iload_n C (n := 2) rfl rfl dX9_sizeOf_75 ?_
            refine v_cvIi C (d := 2) (hR.le (by omega)) (c := 9) rfl cv_X9_341 (by decide) ht (by decide) [.int a0, .int a1] rfl (fun _ hc => s_X9_markOf G Z hG hZ   ht hc) (Nat.le_of_ble_eq_true rfl) dX9_sizeOf_76 rfl (fun r25 ν26 => ?_)
            refine v_goto C (t := 83) (by decide) dX9_sizeOf_79 ?_
            refine v_sub (lv' := [(2, .int a1)]) [2] rfl ?_
            exact v_leaf (hF17 (r25, ν26))
        intro F11 hF10
        refine v_ifeq C (t := 53) dX9_sizeOf_44 (by decide) ?_ ?_
        · refine v_sub (lv' := [(0, .ref (ga G this)), (1, .int a0), (2, .int a1), (3, .int r8)]) [1, 2, 3, 0] rfl ?_
          exact v_leaf (hF10 ν5)
        · refine v_aload_n C (n := 1) rfl rfl dX9_sizeOf_47 ?_
          refine v_bipush C (v := 11) (by decide) dX9_sizeOf_48 ?_
          refine v_cvIv C (d := 0) (hR.le (by omega)) (c := 9) rfl cv_X9_335 (by decide) ht (by decide) [.int 11] rfl (fun _ hc => s_X9_began G Z hG hZ   ht hc) (Nat.le_of_ble_eq_true rfl) dX9_sizeOf_50 rfl (fun ν27 => ?_)
          refine v_sub (lv' := [(0, .ref (ga G this)), (1, .int a0), (2, .int a1), (3, .int r8)]) [1, 2, 3, 0] rfl ?_
          exact v_leaf (hF10 ν27)
      intro F7 hF6
      refine v_ifeq C (t := 37) dX9_sizeOf_28 (by decide) ?_ ?_
      · exact v_leaf (hF6 ν1)
      · refine v_aload_n C (n := 0) rfl rfl dX9_sizeOf_31 ?_
        refine v_bipush C (v := 12) (by decide) dX9_sizeOf_32 ?_
        refine v_cvIv C (d := 0) (hR.le (by omega)) (c := 9) rfl cv_X9_335 (by decide) ht (by decide) [.int 12] rfl (fun _ hc => s_X9_began G Z hG hZ   ht hc) (Nat.le_of_ble_eq_true rfl) dX9_sizeOf_34 rfl (fun ν28 => ?_)
        exact v_leaf (hF6 ν28)
    intro F3 hF2
    refine v_icne C (t := 23) dX9_sizeOf_14 (by decide) ?_ ?_
    · exact v_leaf (hF2 μ)
    · refine v_aload_n C (n := 0) rfl rfl dX9_sizeOf_17 ?_
      refine v_bipush C (v := 13) (by decide) dX9_sizeOf_18 ?_
      refine v_cvIv C (d := 0) (hR.le (by omega)) (c := 9) rfl cv_X9_335 (by decide) ht (by decide) [.int 13] rfl (fun _ hc => s_X9_began G Z hG hZ   ht hc) (Nat.le_of_ble_eq_true rfl) dX9_sizeOf_20 rfl (fun ν29 => ?_)
      exact v_leaf (hF2 ν29)
  · refine v_aload_n C (n := 0) rfl rfl dX9_sizeOf_6 ?_
    refine v_iload_n C (n := 1) rfl rfl dX9_sizeOf_7 ?_
    refine v_cvIi C (d := 1) (hR.le (by omega)) (c := 9) rfl cv_X9_338 (by decide) ht (by decide) [.int a0] rfl (fun _ hc => s_X9_flameSize G Z hG hZ   ht hc) (Nat.le_of_ble_eq_true rfl) dX9_sizeOf_8 rfl (fun r30 ν31 => ?_)
    exact v_iret C hr dX9_sizeOf_11 (fun a h => by have h := Option.some.inj h; subst h; rfl)
set_option maxRecDepth 20000 in
set_option maxHeartbeats 4000000 in
theorem s_X2_go {l : Launch} (G : GT) (Z : ZT) (hG : DA G) (hZ : WT G Z) {this : Nat} {a0 : Nat} {a1 : Nat} {a2 : Nat} {a3 : Int32} {μ : MT} {q : MT} (ht : Ob G Z this 2) (ha0 : Ob G Z a0 3) (ha1 : Oa G Z a1) (ha2 : Oa G Z a2) (hq : m_X2_go Z this a0 a1 a2 a3 μ = some q) : MZ l G Z yX2_go cX2_go 6 none 4 [.ref (ga G this), .ref (ga G a0), .ref (ga G a1), .ref (ga G a2), .int a3] μ none q := by
  refine v_met (J := (fun ν : MT => ((none : Option Value), ν))) hG hZ (by decide) (Nat.le_of_ble_eq_true rfl) hq ?_
  intro x C hR _ hr
  show VK x G Z (0, 0) 6 (QM x G Z) (fun ν : MT => ((none : Option Value), ν)) 0 [(0, .ref (ga G this)), (1, .ref (ga G a0)), (2, .ref (ga G a1)), (3, .ref (ga G a2)), (4, .int a3)] [] μ _ some
  unfold m_X2_go
  refine v_aload_n C (n := 0) rfl rfl dX2_go_0 ?_
  refine v_aload_n C (n := 1) rfl rfl dX2_go_1 ?_
  refine v_getiN C fn_X2_61 rfl ha0 dX2_go_2 ?_
  refine v_aload_n C (n := 2) rfl rfl dX2_go_5 ?_
  refine v_cvIv C (d := 1) (hR.le (by omega)) (c := 2) rfl cv_X2_64 (by decide) ht (by decide) [.int (μ a0 0), .ref (ga G a1)] rfl (fun _ hc => s_X2_begin G Z hG hZ   ht ha1 hc) (Nat.le_of_ble_eq_true rfl) dX2_go_6 rfl (fun ν1 => ?_)
  refine v_iconst C (v := 0) (by decide) dX2_go_9 ?_
  refine v_istore C (lv' := [(5, .int 0), (0, .ref (ga G this)), (1, .ref (ga G a0)), (2, .ref (ga G a1)), (3, .ref (ga G a2)), (4, .int a3)]) (by decide) rfl dX2_go_10 ?_
  refine v_sub (lv' := [(0, .ref (ga G this)), (1, .ref (ga G a0)), (3, .ref (ga G a2)), (4, .int a3), (5, .int 0)]) [1, 2, 4, 5, 0] rfl ?_
  refine v_lp 12 52 (fun t : Int32 × MT => [(0, .ref (ga G this)), (1, .ref (ga G a0)), (3, .ref (ga G a2)), (4, .int a3), (5, .int (t.1))]) (fun t : Int32 × MT => t.2) (fun t : MT => [(0, .ref (ga G this))]) (fun t : MT => t) ?_ ?_ LN (0, ν1)
  · intro ν4
    refine v_aload_n C (n := 0) rfl rfl dX2_go_52 ?_
    refine v_cvIv C (d := 2) (hR.le (by omega)) (c := 2) rfl cv_X2_75 (by decide) ht (by decide) [] rfl (fun _ hc => s_X2_freeAll G Z hG hZ   ht hc) (Nat.le_of_ble_eq_true rfl) dX2_go_53 rfl (fun ν9 => ?_)
    exact v_vret C hr dX2_go_56 (fun a h => by have h := Option.some.inj h; subst h; rfl)
  · intro X5 F7 hX6 hF8
    rintro ⟨y2, ν3⟩
    refine v_iload C (n := 4) rfl dX2_go_12 ?_
    refine v_aload_n C (n := 1) rfl rfl dX2_go_14 ?_
    refine v_getiN C fn_X2_68 rfl ha0 dX2_go_15 ?_
    refine v_icge C (t := 52) dX2_go_18 (by decide) ?_ ?_
    · refine v_sub (lv' := [(0, .ref (ga G this))]) [0] rfl ?_
      exact v_leaf (hF8 ν3)
    · refine v_iload C (n := 4) rfl dX2_go_21 ?_
      refine v_aload_n C (n := 2) rfl rfl dX2_go_23 ?_
      refine v_alena C ha2 dX2_go_24 ?_
      refine v_icge C (t := 52) dX2_go_25 (by decide) ?_ ?_
      · refine v_sub (lv' := [(0, .ref (ga G this))]) [0] rfl ?_
        exact v_leaf (hF8 ν3)
      · refine v_aload_n C (n := 2) rfl rfl dX2_go_28 ?_
        refine v_iload C (n := 4) rfl dX2_go_29 ?_
        refine v_iald C ha2 dX2_go_31 (fun x10 => ?_)
        refine v_iload C (n := 3) rfl dX2_go_32 ?_
        refine v_join 46 (fun t : MT => [(0, .ref (ga G this)), (1, .ref (ga G a0)), (3, .ref (ga G a2)), (4, .int a3), (5, .int y2)]) (fun t : MT => []) (fun t : MT => t) ?_ ?_
        · intro ν11
          refine v_iinc C (n := 4) (v := y2 + 1) (lv' := [(5, .int (y2 + 1)), (0, .ref (ga G this)), (1, .ref (ga G a0)), (3, .ref (ga G a2)), (4, .int a3)]) rfl (congrArg (y2 + ·) (by decide : Int32.ofInt (1) = (1 : Int32))) (by decide) rfl dX2_go_46 ?_
          refine v_let (y := y2 + 1) (fun x14 => [(5, .int x14), (0, .ref (ga G this)), (1, .ref (ga G a0)), (3, .ref (ga G a2)), (4, .int a3)]) (fun x14 => []) (fun x14 => ?_)
          refine v_goto C (t := 12) (by decide) dX2_go_49 ?_
          refine v_sub (lv' := [(0, .ref (ga G this)), (1, .ref (ga G a0)), (3, .ref (ga G a2)), (4, .int a3), (5, .int x14)]) [1, 2, 3, 4, 0] rfl ?_
          exact v_leaf (hX6 (x14, ν11))
        intro F13 hF12
        refine v_iceq C (t := 46) dX2_go_34 (by decide) ?_ ?_
        · exact v_leaf (hF12 ν3)
        · refine v_aload_n C (n := 0) rfl rfl dX2_go_37 ?_
          refine v_aload_n C (n := 1) rfl rfl dX2_go_38 ?_
          refine v_aload_n C (n := 2) rfl rfl dX2_go_39 ?_
          refine v_iload C (n := 4) rfl dX2_go_40 ?_
          refine v_iald C ha2 dX2_go_42 (fun x15 => ?_)
          refine v_cvIv C (d := 3) (hR.le (by omega)) (c := 2) rfl cv_X2_71 (by decide) ht (by decide) [.ref (ga G a0), .int x15] rfl (fun _ hc => s_X2_doSeam G Z hG hZ   ht ha0 hc) (Nat.le_of_ble_eq_true rfl) dX2_go_43 rfl (fun ν16 => ?_)
          exact v_leaf (hF12 ν16)
set_option maxRecDepth 20000 in
set_option maxHeartbeats 4000000 in
theorem s_X4_takePanel {l : Launch} (G : GT) (Z : ZT) (hG : DA G) (hZ : WT G Z) {this : Nat} {a0 : Nat} {μ : MT} {q : Int32 × MT} (ht : Ob G Z this 4) (ha0 : Ob G Z a0 3) (hq : m_X4_takePanel Z this a0 μ = some q) : MZ l G Z yX4_takePanel cX4_takePanel 3 (some .int) 6 [.ref (ga G this), .ref (ga G a0)] μ (some (.int q.1)) q.2 := by
  refine v_met (J := (fun q : Int32 × MT => (some (.int q.1), q.2))) hG hZ (by decide) (Nat.le_of_ble_eq_true rfl) hq ?_
  intro x C hR _ hr
  show VK x G Z (0, 0) 3 (QM x G Z) (fun q : Int32 × MT => (some (.int q.1), q.2)) 0 [(0, .ref (ga G this)), (1, .ref (ga G a0))] [] μ _ some
  unfold m_X4_takePanel
  refine v_aload_n C (n := 0) rfl rfl dX4_takePanel_0 ?_
  refine v_getr C (t := 7) fl_X4_15 rfl rfl ht dX4_takePanel_1 (fun h1 => ?_)
  refine v_bipush C (v := 10) (by decide) dX4_takePanel_4 ?_
  refine v_cvRi C (d := 5) (hR.le (by omega)) (c := 7) rfl cv_X4_33 (by decide) h1 (by decide) [.int 10] rfl (fun _ hc => s_X7_atWord G Z hG hZ   h1 hc) (Nat.le_of_ble_eq_true rfl) dX4_takePanel_6 rfl (fun r2 => ?_)
  refine v_ifne C (t := 14) dX4_takePanel_9 (by decide) ?_ ?_
  · refine v_aload_n C (n := 0) rfl rfl dX4_takePanel_14 ?_
    refine v_getr C (t := 7) fl_X4_15 rfl rfl ht dX4_takePanel_15 (fun h3 => ?_)
    refine v_cvIv C (d := 1) (hR.le (by omega)) (c := 7) rfl cv_X4_47 (by decide) h3 (by decide) [] rfl (fun _ hc => s_X7_toNext G Z hG hZ   h3 hc) (Nat.le_of_ble_eq_true rfl) dX4_takePanel_18 rfl (fun ν4 => ?_)
    refine v_aload_n C (n := 0) rfl rfl dX4_takePanel_21 ?_
    refine v_iconst C (v := 4) (by decide) dX4_takePanel_22 ?_
    refine v_bipush C (v := 12) (by decide) dX4_takePanel_23 ?_
    refine v_cvIi C (d := 2) (hR.le (by omega)) (c := 4) rfl cv_X4_50 (by decide) ht (by decide) [.int 4, .int 12] rfl (fun _ hc => s_X4_takeNumber G Z hG hZ   ht hc) (Nat.le_of_ble_eq_true rfl) dX4_takePanel_25 rfl (fun r5 ν6 => ?_)
    refine v_istore_n C (lv' := [(2, .int r5), (0, .ref (ga G this)), (1, .ref (ga G a0))]) rfl (by decide) rfl dX4_takePanel_28 ?_
    refine v_iload_n C (n := 0) rfl rfl dX4_takePanel_29 ?_
    refine v_ifeq C (t := 35) dX4_takePanel_30 (by decide) ?_ ?_
    · refine v_aload_n C (n := 2) rfl rfl dX4_takePanel_35 ?_
      refine v_aload_n C (n := 1) rfl rfl dX4_takePanel_36 ?_
      refine v_geti C fl_X4_9 rfl ht dX4_takePanel_37 ?_
      refine v_putiN C fpn_X4_54 rfl rfl ha0 dX4_takePanel_40 (fun ν7 => ?_)
      refine v_aload_n C (n := 1) rfl rfl dX4_takePanel_43 ?_
      refine v_cvIi C (d := 2) (hR.le (by omega)) (c := 4) rfl cv_X4_57 (by decide) ht (by decide) [] rfl (fun _ hc => s_X4_takeSign G Z hG hZ   ht hc) (Nat.le_of_ble_eq_true rfl) dX4_takePanel_44 rfl (fun r8 ν9 => ?_)
      exact v_iret C hr dX4_takePanel_47 (fun a h => by have h := Option.some.inj h; subst h; rfl)
    · refine v_iload_n C (n := 0) rfl rfl dX4_takePanel_33 ?_
      exact v_iret C hr dX4_takePanel_34 (fun a h => by have h := Option.some.inj h; subst h; rfl)
  · refine v_iconst C (v := 1) (by decide) dX4_takePanel_12 ?_
    exact v_iret C hr dX4_takePanel_13 (fun a h => by have h := Option.some.inj h; subst h; rfl)
