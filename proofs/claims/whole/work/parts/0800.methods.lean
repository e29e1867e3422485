set_option maxRecDepth 20000 in
set_option maxHeartbeats 4000000 in
theorem s_X0_hasKind {l : Launch} (G : GT) (Z : ZT) (hG : DA G) (hZ : WT G Z) {a0 : Int32} {μ : MT} {q : Int32}  (hq : m_X0_hasKind Z a0 μ = some q) : MZ l G Z yX0_hasKind cX0_hasKind 1 (some .boolean) 0 [.int a0] μ (some (.int q)) μ := by
  refine v_met (J := (fun r : Int32 => (some (.int r), μ))) hG hZ (by decide) (Nat.le_of_ble_eq_true rfl) hq ?_
  intro x C hR _ hr
  show VK x G Z (0, 0) 1 (QM x G Z) (fun r : Int32 => (some (.int r), μ)) 0 [(0, .int a0)] [] μ _ some
  unfold m_X0_hasKind
  refine v_iload_n C (n := 0) rfl rfl dX0_hasKind_0 ?_
  refine v_iflt C (t := 14) dX0_hasKind_1 (by decide) ?_ ?_
  · refine v_iconst C (v := 0) (by decide) dX0_hasKind_14 ?_
    exact v_zret C (Or.inl rfl) hr dX0_hasKind_15 (fun a h => by have h := Option.some.inj h; subst h; rfl)
  · refine v_iload_n C (n := 0) rfl rfl dX0_hasKind_4 ?_
    refine v_bipush C (v := 8) (by decide) dX0_hasKind_5 ?_
    refine v_icge C (t := 14) dX0_hasKind_7 (by decide) ?_ ?_
    · refine v_iconst C (v := 0) (by decide) dX0_hasKind_14 ?_
      exact v_zret C (Or.inl rfl) hr dX0_hasKind_15 (fun a h => by have h := Option.some.inj h; subst h; rfl)
    · refine v_iconst C (v := 1) (by decide) dX0_hasKind_10 ?_
      refine v_goto C (t := 15) (by decide) dX0_hasKind_11 ?_
      exact v_zret C (Or.inr rfl) hr dX0_hasKind_15 (fun a h => by have h := Option.some.inj h; subst h; rfl)
set_option maxRecDepth 20000 in
set_option maxHeartbeats 4000000 in
theorem s_X0_leave {l : Launch} (G : GT) (Z : ZT) (hG : DA G) (hZ : WT G Z) {this : Nat} {a0 : Int32} {μ : MT} {q : MT} (ht : Ob G Z this 0) (hq : m_X0_leave Z this a0 μ = some q) : MZ l G Z yX0_leave cX0_leave 2 none 0 [.ref (ga G this), .int a0] μ none q := by
  refine v_met (J := (fun ν : MT => ((none : Option Value), ν))) hG hZ (by decide) (Nat.le_of_ble_eq_true rfl) hq ?_
  intro x C hR _ hr
  show VK x G Z (0, 0) 2 (QM x G Z) (fun ν : MT => ((none : Option Value), ν)) 0 [(0, .ref (ga G this)), (1, .int a0)] [] μ _ some
  unfold m_X0_leave
  refine v_aload_n C (n := 0) rfl rfl dX0_leave_0 ?_
  refine v_geti C fl_X0_15 rfl ht dX0_leave_1 ?_
  refine v_bipush C (v := 16) (by decide) dX0_leave_4 ?_
  refine v_icge C (t := 29) dX0_leave_6 (by decide) ?_ ?_
  · exact v_vret C hr dX0_leave_29 (fun a h => by have h := Option.some.inj h; subst h; rfl)
  · refine v_aload_n C (n := 0) rfl rfl dX0_leave_9 ?_
    refine v_getr C (t := 20) fl_X0_11 rfl rfl ht dX0_leave_10 (fun h1 => ?_)
    refine v_aload_n C (n := 0) rfl rfl dX0_leave_13 ?_
    refine v_geti C fl_X0_15 rfl ht dX0_leave_14 ?_
    refine v_iload_n C (n := 1) rfl rfl dX0_leave_17 ?_
    refine v_iast C h1 dX0_leave_18 (fun ν2 => ?_)
    refine v_aload_n C (n := 0) rfl rfl dX0_leave_19 ?_
    refine v_dup C rfl dX0_leave_20 ?_
    refine v_geti C fl_X0_15 rfl ht dX0_leave_21 ?_
    refine v_iconst C (v := 1) (by decide) dX0_leave_24 ?_
    refine v_iadd C dX0_leave_25 ?_
    refine v_puti C fp_X0_15 rfl rfl ht dX0_leave_26 (fun ν3 => ?_)
    exact v_vret C hr dX0_leave_29 (fun a h => by have h := Option.some.inj h; subst h; rfl)
set_option maxRecDepth 20000 in
set_option maxHeartbeats 4000000 in
theorem s_X0_traced {l : Launch} (G : GT) (Z : ZT) (hG : DA G) (hZ : WT G Z) {this : Nat} {a0 : Int32} {μ : MT} {q : Int32} (ht : Ob G Z this 0) (hq : m_X0_traced Z this a0 μ = some q) : MZ l G Z yX0_traced cX0_traced 2 (some .int) 0 [.ref (ga G this), .int a0] μ (some (.int q)) μ := by
  refine v_met (J := (fun r : Int32 => (some (.int r), μ))) hG hZ (by decide) (Nat.le_of_ble_eq_true rfl) hq ?_
  intro x C hR _ hr
  show VK x G Z (0, 0) 2 (QM x G Z) (fun r : Int32 => (some (.int r), μ)) 0 [(0, .ref (ga G this)), (1, .int a0)] [] μ _ some
  unfold m_X0_traced
  refine v_iload_n C (n := 1) rfl rfl dX0_traced_0 ?_
  refine v_iflt C (t := 21) dX0_traced_1 (by decide) ?_ ?_
  · refine v_ldc C (v := (-1000000)) (w12 28 rfl) dX0_traced_21 ?_
    exact v_iret C hr dX0_traced_23 (fun a h => by have h := Option.some.inj h; subst h; rfl)
  · refine v_iload_n C (n := 1) rfl rfl dX0_traced_4 ?_
    refine v_aload_n C (n := 0) rfl rfl dX0_traced_5 ?_
    refine v_geti C fl_X0_15 rfl ht dX0_traced_6 ?_
    refine v_icge C (t := 21) dX0_traced_9 (by decide) ?_ ?_
    · refine v_ldc C (v := (-1000000)) (w12 28 rfl) dX0_traced_21 ?_
      exact v_iret C hr dX0_traced_23 (fun a h => by have h := Option.some.inj h; subst h; rfl)
    · refine v_aload_n C (n := 0) rfl rfl dX0_traced_12 ?_
      refine v_getr C (t := 20) fl_X0_11 rfl rfl ht dX0_traced_13 (fun h1 => ?_)
      refine v_iload_n C (n := 1) rfl rfl dX0_traced_16 ?_
      refine v_iald C h1.oa dX0_traced_17 (fun x2 => ?_)
      refine v_goto C (t := 23) (by decide) dX0_traced_18 ?_
      exact v_iret C hr dX0_traced_23 (fun a h => by have h := Option.some.inj h; subst h; rfl)
set_option maxRecDepth 20000 in
set_option maxHeartbeats 4000000 in
theorem s_X1_forget {l : Launch} (G : GT) (Z : ZT) (hG : DA G) (hZ : WT G Z) {this : Nat} {μ : MT} {q : MT} (ht : Ob G Z this 1) (hq : m_X1_forget Z this μ = some q) : MZ l G Z yX1_forget cX1_forget 1 none 0 [.ref (ga G this)] μ none q := by
  refine v_met (J := (fun ν : MT => ((none : Option Value), ν))) hG hZ (by decide) (Nat.le_of_ble_eq_true rfl) hq ?_
  intro x C hR _ hr
  show VK x G Z (0, 0) 1 (QM x G Z) (fun ν : MT => ((none : Option Value), ν)) 0 [(0, .ref (ga G this))] [] μ _ some
  unfold m_X1_forget
  refine v_aload_n C (n := 0) rfl rfl dX1_forget_0 ?_
  refine v_iconst C (v := 0) (by decide) dX1_forget_1 ?_
  refine v_putz C (Or.inl rfl) fp_X1_18 rfl rfl ht dX1_forget_2 (fun ν1 => ?_)
  exact v_vret C hr dX1_forget_5 (fun a h => by have h := Option.some.inj h; subst h; rfl)
set_option maxRecDepth 20000 in
set_option maxHeartbeats 4000000 in
theorem s_X1_keepWhereFlat {l : Launch} (G : GT) (Z : ZT) (hG : DA G) (hZ : WT G Z) {this : Nat} {a0 : Nat} {a1 : Int32} {μ : MT} {q : MT} (ht : Ob G Z this 1) (ha0 : Ob G Z a0 2) (hq : m_X1_keepWhereFlat Z this a0 a1 μ = some q) : MZ l G Z yX1_keepWhereFlat cX1_keepWhereFlat 4 none 0 [.ref (ga G this), .ref (ga G a0), .int a1] μ none q := by
  refine v_met (J := (fun ν : MT => ((none : Option Value), ν))) hG hZ (by decide) (Nat.le_of_ble_eq_true rfl) hq ?_
  intro x C hR _ hr
  show VK x G Z (0, 0) 4 (QM x G Z) (fun ν : MT => ((none : Option Value), ν)) 0 [(0, .ref (ga G this)), (1, .ref (ga G a0)), (2, .int a1)] [] μ _ some
  unfold m_X1_keepWhereFlat
  refine v_iconst C (v := 0) (by decide) dX1_keepWhereFlat_0 ?_
  refine v_istore_n C (lv' := [(3, .int 0), (0, .ref (ga G this)), (1, .ref (ga G a0)), (2, .int a1)]) rfl (by decide) rfl dX1_keepWhereFlat_1 ?_
  refine v_sub (lv' := [(0, .ref (ga G this)), (1, .ref (ga G a0)), (2, .int a1), (3, .int 0)]) [1, 2, 3, 0] rfl ?_
  refine v_lp 2 43 (fun t : Int32 × MT => [(0, .ref (ga G this)), (1, .ref (ga G a0)), (2, .int a1), (3, .int (t.1))]) (fun t : Int32 × MT => t.2) (fun t : MT => []) (fun t : MT => t) ?_ ?_ LN (0, μ)
  · intro ν3
    exact v_vret C hr dX1_keepWhereFlat_43 (fun a h => by have h := Option.some.inj h; subst h; rfl)
  · intro X4 F6 hX5 hF7
    rintro ⟨y1, ν2⟩
    refine v_iload_n C (n := 3) rfl rfl dX1_keepWhereFlat_2 ?_
    refine v_aload_n C (n := 1) rfl rfl dX1_keepWhereFlat_3 ?_
    refine v_getiN C fn_X1_42 rfl ha0 dX1_keepWhereFlat_4 ?_
    refine v_icge C (t := 43) dX1_keepWhereFlat_7 (by decide) ?_ ?_
    · refine v_sub (lv' := []) [] rfl ?_
      exact v_leaf (hF7 ν2)
    · refine v_aload_n C (n := 0) rfl rfl dX1_keepWhereFlat_10 ?_
      refine v_getr C (t := 20) fl_X1_9 rfl rfl ht dX1_keepWhereFlat_11 (fun h8 => ?_)
      refine v_iload_n C (n := 3) rfl rfl dX1_keepWhereFlat_14 ?_
      refine v_iald C h8.oa dX1_keepWhereFlat_15 (fun x9 => ?_)
      refine v_ldc C (v := (-1000000)) (w10 49 rfl) dX1_keepWhereFlat_16 ?_
      refine v_join 37 (fun t : MT => [(0, .ref (ga G this)), (1, .ref (ga G a0)), (2, .int a1), (3, .int y1)]) (fun t : MT => []) (fun t : MT => t) ?_ ?_
      · intro ν10
        refine v_iinc C (n := 3) (v := y1 + 1) (lv' := [(3, .int (y1 + 1)), (0, .ref (ga G this)), (1, .ref (ga G a0)), (2, .int a1)]) rfl (congrArg (y1 + ·) (by decide : Int32.ofInt (1) = (1 : Int32))) (by decide) rfl dX1_keepWhereFlat_37 ?_
        refine v_let (y := y1 + 1) (fun x13 => [(3, .int x13), (0, .ref (ga G this)), (1, .ref (ga G a0)), (2, .int a1)]) (fun x13 => []) (fun x13 => ?_)
        refine v_goto C (t := 2) (by decide) dX1_keepWhereFlat_40 ?_
        refine v_sub (lv' := [(0, .ref (ga G this)), (1, .ref (ga G a0)), (2, .int a1), (3, .int x13)]) [1, 2, 3, 0] rfl ?_
        exact v_leaf (hX5 (x13, ν10))
      intro F12 hF11
      refine v_icne C (t := 37) dX1_keepWhereFlat_18 (by decide) ?_ ?_
      · exact v_leaf (hF11 ν2)
      · refine v_aload_n C (n := 1) rfl rfl dX1_keepWhereFlat_21 ?_
        refine v_getrN C (t := 20) fn_X1_46 rfl rfl ha0 dX1_keepWhereFlat_22 (fun h14 => ?_)
        refine v_iload_n C (n := 3) rfl rfl dX1_keepWhereFlat_25 ?_
        refine v_iald C h14.oa dX1_keepWhereFlat_26 (fun x15 => ?_)
        refine v_ifne C (t := 37) dX1_keepWhereFlat_27 (by decide) ?_ ?_
        · exact v_leaf (hF11 ν2)
        · refine v_aload_n C (n := 0) rfl rfl dX1_keepWhereFlat_30 ?_
          refine v_getr C (t := 20) fl_X1_9 rfl rfl ht dX1_keepWhereFlat_31 (fun h16 => ?_)
          refine v_iload_n C (n := 3) rfl rfl dX1_keepWhereFlat_34 ?_
          refine v_iload_n C (n := 2) rfl rfl dX1_keepWhereFlat_35 ?_
          refine v_iast C h16 dX1_keepWhereFlat_36 (fun ν17 => ?_)
          exact v_leaf (hF11 ν17)
set_option maxRecDepth 20000 in
set_option maxHeartbeats 4000000 in
theorem s_X2_becomeAs {l : Launch} (G : GT) (Z : ZT) (hG : DA G) (hZ : WT G Z) {this : Nat} {a0 : Nat} {μ : MT} {q : MT} (ht : Ob G Z this 2) (ha0 : Ob G Z a0 2) (hq : m_X2_becomeAs Z this a0 μ = some q) : MZ l G Z yX2_becomeAs cX2_becomeAs 2 none 1 [.ref (ga G this), .ref (ga G a0)] μ none q := by
  refine v_met (J := (fun ν : MT => ((none : Option Value), ν))) hG hZ (by decide) (Nat.le_of_ble_eq_true rfl) hq ?_
  intro x C hR _ hr
  show VK x G Z (0, 0) 2 (QM x G Z) (fun ν : MT => ((none : Option Value), ν)) 0 [(0, .ref (ga G this)), (1, .ref (ga G a0))] [] μ _ some
  unfold m_X2_becomeAs
  refine v_aload_n C (n := 0) rfl rfl dX2_becomeAs_0 ?_
  refine v_aload_n C (n := 1) rfl rfl dX2_becomeAs_1 ?_
  refine v_geti C fl_X2_34 rfl ha0 dX2_becomeAs_2 ?_
  refine v_puti C fp_X2_34 rfl rfl ht dX2_becomeAs_5 (fun ν1 => ?_)
  refine v_aload_n C (n := 0) rfl rfl dX2_becomeAs_8 ?_
  refine v_aload_n C (n := 1) rfl rfl dX2_becomeAs_9 ?_
  refine v_geti C fl_X2_37 rfl ha0 dX2_becomeAs_10 ?_
  refine v_puti C fp_X2_37 rfl rfl ht dX2_becomeAs_13 (fun ν2 => ?_)
  refine v_aload_n C (n := 0) rfl rfl dX2_becomeAs_16 ?_
  refine v_aload_n C (n := 1) rfl rfl dX2_becomeAs_17 ?_
  refine v_geti C fl_X2_40 rfl ha0 dX2_becomeAs_18 ?_
  refine v_puti C fp_X2_40 rfl rfl ht dX2_becomeAs_21 (fun ν3 => ?_)
  refine v_aload_n C (n := 0) rfl rfl dX2_becomeAs_24 ?_
  refine v_aload_n C (n := 1) rfl rfl dX2_becomeAs_25 ?_
  refine v_geti C fl_X2_30 rfl ha0 dX2_becomeAs_26 ?_
  refine v_puti C fp_X2_30 rfl rfl ht dX2_becomeAs_29 (fun ν4 => ?_)
  refine v_aload_n C (n := 1) rfl rfl dX2_becomeAs_32 ?_
  refine v_getr C (t := 20) fl_X2_9 rfl rfl ha0 dX2_becomeAs_33 (fun h5 => ?_)
  refine v_iconst C (v := 0) (by decide) dX2_becomeAs_36 ?_
  refine v_aload_n C (n := 0) rfl rfl dX2_becomeAs_37 ?_
  refine v_getr C (t := 20) fl_X2_9 rfl rfl ht dX2_becomeAs_38 (fun h6 => ?_)
  refine v_iconst C (v := 0) (by decide) dX2_becomeAs_41 ?_
  refine v_bipush C (v := 12) (by decide) dX2_becomeAs_42 ?_
  refine v_copy C (hR.le (by omega)) cy_X2_55 h5.oa h6 (Nat.le_of_ble_eq_true rfl) dX2_becomeAs_44 (fun ν7 => ?_)
  refine v_aload_n C (n := 1) rfl rfl dX2_becomeAs_47 ?_
  refine v_getr C (t := 20) fl_X2_15 rfl rfl ha0 dX2_becomeAs_48 (fun h8 => ?_)
  refine v_iconst C (v := 0) (by decide) dX2_becomeAs_51 ?_
  refine v_aload_n C (n := 0) rfl rfl dX2_becomeAs_52 ?_
  refine v_getr C (t := 20) fl_X2_15 rfl rfl ht dX2_becomeAs_53 (fun h9 => ?_)
  refine v_iconst C (v := 0) (by decide) dX2_becomeAs_56 ?_
  refine v_bipush C (v := 12) (by decide) dX2_becomeAs_57 ?_
  refine v_copy C (hR.le (by omega)) cy_X2_55 h8.oa h9 (Nat.le_of_ble_eq_true rfl) dX2_becomeAs_59 (fun ν10 => ?_)
  refine v_aload_n C (n := 1) rfl rfl dX2_becomeAs_62 ?_
  refine v_getr C (t := 20) fl_X2_18 rfl rfl ha0 dX2_becomeAs_63 (fun h11 => ?_)
  refine v_iconst C (v := 0) (by decide) dX2_becomeAs_66 ?_
  refine v_aload_n C (n := 0) rfl rfl dX2_becomeAs_67 ?_
  refine v_getr C (t := 20) fl_X2_18 rfl rfl ht dX2_becomeAs_68 (fun h12 => ?_)
  refine v_iconst C (v := 0) (by decide) dX2_becomeAs_71 ?_
  refine v_bipush C (v := 12) (by decide) dX2_becomeAs_72 ?_
  refine v_copy C (hR.le (by omega)) cy_X2_55 h11.oa h12 (Nat.le_of_ble_eq_true rfl) dX2_becomeAs_74 (fun ν13 => ?_)
  refine v_aload_n C (n := 1) rfl rfl dX2_becomeAs_77 ?_
  refine v_getr C (t := 20) fl_X2_21 rfl rfl ha0 dX2_becomeAs_78 (fun h14 => ?_)
  refine v_iconst C (v := 0) (by decide) dX2_becomeAs_81 ?_
  refine v_aload_n C (n := 0) rfl rfl dX2_becomeAs_82 ?_
  refine v_getr C (t := 20) fl_X2_21 rfl rfl ht dX2_becomeAs_83 (fun h15 => ?_)
  refine v_iconst C (v := 0) (by decide) dX2_becomeAs_86 ?_
  refine v_bipush C (v := 12) (by decide) dX2_becomeAs_87 ?_
  refine v_copy C (hR.le (by omega)) cy_X2_55 h14.oa h15 (Nat.le_of_ble_eq_true rfl) dX2_becomeAs_89 (fun ν16 => ?_)
  refine v_aload_n C (n := 1) rfl rfl dX2_becomeAs_92 ?_
  refine v_getr C (t := 20) fl_X2_24 rfl rfl ha0 dX2_becomeAs_93 (fun h17 => ?_)
  refine v_iconst C (v := 0) (by decide) dX2_becomeAs_96 ?_
  refine v_aload_n C (n := 0) rfl rfl dX2_becomeAs_97 ?_
  refine v_getr C (t := 20) fl_X2_24 rfl rfl ht dX2_becomeAs_98 (fun h18 => ?_)
  refine v_iconst C (v := 0) (by decide) dX2_becomeAs_101 ?_
  refine v_bipush C (v := 12) (by decide) dX2_becomeAs_102 ?_
  refine v_copy C (hR.le (by omega)) cy_X2_55 h17.oa h18 (Nat.le_of_ble_eq_true rfl) dX2_becomeAs_104 (fun ν19 => ?_)
  refine v_aload_n C (n := 1) rfl rfl dX2_becomeAs_107 ?_
  refine v_getr C (t := 20) fl_X2_27 rfl rfl ha0 dX2_becomeAs_108 (fun h20 => ?_)
  refine v_iconst C (v := 0) (by decide) dX2_becomeAs_111 ?_
  refine v_aload_n C (n := 0) rfl rfl dX2_becomeAs_112 ?_
  refine v_getr C (t := 20) fl_X2_27 rfl rfl ht dX2_becomeAs_113 (fun h21 => ?_)
  refine v_iconst C (v := 0) (by decide) dX2_becomeAs_116 ?_
  refine v_bipush C (v := 12) (by decide) dX2_becomeAs_117 ?_
  refine v_copy C (hR.le (by omega)) cy_X2_55 h20.oa h21 (Nat.le_of_ble_eq_true rfl) dX2_becomeAs_119 (fun ν22 => ?_)
  exact v_vret C hr dX2_becomeAs_122 (fun a h => by have h := Option.some.inj h; subst h; rfl)
set_option maxRecDepth 20000 in
set_option maxHeartbeats 4000000 in
theorem s_X2_effectOf {l : Launch} (G : GT) (Z : ZT) (hG : DA G) (hZ : WT G Z) {this : Nat} {a0 : Int32} {a1 : Int32} {μ : MT} {q : Int32} (ht : Ob G Z this 2) (hq : m_X2_effectOf Z this a0 a1 μ = some q) : MZ l G Z yX2_effectOf cX2_effectOf 5 (some .int) 0 [.ref (ga G this), .int a0, .int a1] μ (some (.int q)) μ := by
  refine v_met (J := (fun r : Int32 => (some (.int r), μ))) hG hZ (by decide) (Nat.le_of_ble_eq_true rfl) hq ?_
  intro x C hR _ hr
  show VK x G Z (0, 0) 5 (QM x G Z) (fun r : Int32 => (some (.int r), μ)) 0 [(0, .ref (ga G this)), (1, .int a0), (2, .int a1)] [] μ _ some
  unfold m_X2_effectOf
  refine v_bipush C (v := 8) (by decide) dX2_effectOf_0 ?_
  refine v_aload_n C (n := 0) rfl rfl dX2_effectOf_2 ?_
  refine v_getr C (t := 20) fl_X2_18 rfl rfl ht dX2_effectOf_3 (fun h1 => ?_)
  refine v_iload_n C (n := 2) rfl rfl dX2_effectOf_6 ?_
  refine v_iald C h1.oa dX2_effectOf_7 (fun x2 => ?_)
  refine v_iadd C dX2_effectOf_8 ?_
  refine v_istore_n C (lv' := [(3, .int (8 + x2)), (0, .ref (ga G this)), (1, .int a0), (2, .int a1)]) rfl (by decide) rfl dX2_effectOf_9 ?_
  refine v_let (y := (8 + x2)) (fun x3 => [(3, .int x3), (0, .ref (ga G this)), (1, .int a0), (2, .int a1)]) (fun x3 => []) (fun x3 => ?_)
  refine v_iload_n C (n := 0) rfl rfl dX2_effectOf_10 ?_
  refine v_join 24 (fun t : Int32 => [(0, .ref (ga G this)), (2, .int a1)]) (fun t : Int32 => [.int t]) (fun t : Int32 => μ) ?_ ?_
  · intro z4
    refine v_istore C (lv' := [(4, .int z4), (0, .ref (ga G this)), (2, .int a1)]) (by decide) rfl dX2_effectOf_24 ?_
    refine v_aload_n C (n := 1) rfl rfl dX2_effectOf_26 ?_
    refine v_getr C (t := 20) fl_X2_9 rfl rfl ht dX2_effectOf_27 (fun h7 => ?_)
    refine v_iload_n C (n := 2) rfl rfl dX2_effectOf_30 ?_
    refine v_iald C h7.oa dX2_effectOf_31 (fun x8 => ?_)
    refine v_bipush C (v := 100) (by decide) dX2_effectOf_32 ?_
    refine v_iclt C (t := 44) dX2_effectOf_34 (by decide) ?_ ?_
    · refine v_iload C (n := 0) rfl dX2_effectOf_44 ?_
      exact v_iret C hr dX2_effectOf_46 (fun a h => by have h := Option.some.inj h; subst h; rfl)
    · refine v_iload C (n := 0) rfl dX2_effectOf_37 ?_
      refine v_iconst C (v := 2) (by decide) dX2_effectOf_39 ?_
      refine v_idiv C dX2_effectOf_40 (fun x9 => ?_)
      refine v_goto C (t := 46) (by decide) dX2_effectOf_41 ?_
      exact v_iret C hr dX2_effectOf_46 (fun a h => by have h := Option.some.inj h; subst h; rfl)
  intro F6 hF5
  refine v_ifle C (t := 23) dX2_effectOf_11 (by decide) ?_ ?_
  · refine v_iconst C (v := 0) (by decide) dX2_effectOf_23 ?_
    refine v_sub (lv' := [(0, .ref (ga G this)), (2, .int a1)]) [1, 3] rfl ?_
    exact v_leaf (hF5 0)
  · refine v_bipush C (v := 8) (by decide) dX2_effectOf_14 ?_
    refine v_iload_n C (n := 2) rfl rfl dX2_effectOf_16 ?_
    refine v_imul C dX2_effectOf_17 ?_
    refine v_iload_n C (n := 0) rfl rfl dX2_effectOf_18 ?_
    refine v_idiv C dX2_effectOf_19 (fun x10 => ?_)
    refine v_goto C (t := 24) (by decide) dX2_effectOf_20 ?_
    refine v_sub (lv' := [(0, .ref (ga G this)), (2, .int a1)]) [1, 3] rfl ?_
    exact v_leaf (hF5 x10)
set_option maxRecDepth 20000 in
set_option maxHeartbeats 4000000 in
theorem s_X2_heatOfStep {l : Launch} (G : GT) (Z : ZT) (hG : DA G) (hZ : WT G Z) {a0 : Int32} {a1 : Int32} {μ : MT} {q : Int32}  (hq : m_X2_heatOfStep Z a0 a1 μ = some q) : MZ l G Z yX2_heatOfStep cX2_heatOfStep 2 (some .int) 0 [.int a0, .int a1] μ (some (.int q)) μ := by
  refine v_met (J := (fun r : Int32 => (some (.int r), μ))) hG hZ (by decide) (Nat.le_of_ble_eq_true rfl) hq ?_
  intro x C hR _ hr
  show VK x G Z (0, 0) 2 (QM x G Z) (fun r : Int32 => (some (.int r), μ)) 0 [(0, .int a0), (1, .int a1)] [] μ _ some
  unfold m_X2_heatOfStep
  refine v_iload_n C (n := 0) rfl rfl dX2_heatOfStep_0 ?_
  refine v_case (fun c1 => ?_) (fun c1 => ?_)
  · refine v_look C (t := 28) (off := 27) dX2_heatOfStep_1 (by decide) (by rw [c1]; decide) (by decide) ?_
    refine v_iload_n C (n := 1) rfl rfl dX2_heatOfStep_28 ?_
    exact v_iret C hr dX2_heatOfStep_29 (fun a h => by have h := Option.some.inj h; subst h; rfl)
  refine v_case (fun c2 => ?_) (fun c2 => ?_)
  · refine v_look C (t := 30) (off := 29) dX2_heatOfStep_1 (by decide) (by rw [c2]; decide) (by decide) ?_
    refine v_bipush C (v := 6) (by decide) dX2_heatOfStep_30 ?_
    refine v_iload_n C (n := 1) rfl rfl dX2_heatOfStep_32 ?_
    refine v_imul C dX2_heatOfStep_33 ?_
    exact v_iret C hr dX2_heatOfStep_34 (fun a h => by have h := Option.some.inj h; subst h; rfl)
  refine v_look C (t := 35) (off := 34) dX2_heatOfStep_1 (by decide) (by show Op.lookupswitch.offset [(0, 27), (6, 29)] _ _ = _; rw [lv_osw (k := 0) c1 (by decide), lv_osw (k := 6) c2 (by decide)]; rfl) (by decide) ?_
  refine v_iconst C (v := 4) (by decide) dX2_heatOfStep_35 ?_
  refine v_iload_n C (n := 1) rfl rfl dX2_heatOfStep_36 ?_
  refine v_imul C dX2_heatOfStep_37 ?_
  exact v_iret C hr dX2_heatOfStep_38 (fun a h => by have h := Option.some.inj h; subst h; rfl)
set_option maxRecDepth 20000 in
set_option maxHeartbeats 4000000 in
theorem s_X2_holdOfStep {l : Launch} (G : GT) (Z : ZT) (hG : DA G) (hZ : WT G Z) {a0 : Int32} {μ : MT} {q : Int32}  (hq : m_X2_holdOfStep Z a0 μ = some q) : MZ l G Z yX2_holdOfStep cX2_holdOfStep 1 (some .int) 0 [.int a0] μ (some (.int q)) μ := by
  refine v_met (J := (fun r : Int32 => (some (.int r), μ))) hG hZ (by decide) (Nat.le_of_ble_eq_true rfl) hq ?_
  intro x C hR _ hr
  show VK x G Z (0, 0) 1 (QM x G Z) (fun r : Int32 => (some (.int r), μ)) 0 [(0, .int a0)] [] μ _ some
  unfold m_X2_holdOfStep
  refine v_iload_n C (n := 0) rfl rfl dX2_holdOfStep_0 ?_
  refine v_case (fun c1 => ?_) (fun c1 => ?_)
  · refine v_look C (t := 36) (off := 35) dX2_holdOfStep_1 (by decide) (by rw [c1]; decide) (by decide) ?_
    refine v_iconst C (v := 1) (by decide) dX2_holdOfStep_36 ?_
    exact v_iret C hr dX2_holdOfStep_37 (fun a h => by have h := Option.some.inj h; subst h; rfl)
  refine v_case (fun c2 => ?_) (fun c2 => ?_)
  · refine v_look C (t := 36) (off := 35) dX2_holdOfStep_1 (by decide) (by rw [c2]; decide) (by decide) ?_
    refine v_iconst C (v := 1) (by decide) dX2_holdOfStep_36 ?_
    exact v_iret C hr dX2_holdOfStep_37 (fun a h => by have h := Option.some.inj h; subst h; rfl)
  refine v_case (fun c3 => ?_) (fun c3 => ?_)
  · refine v_look C (t := 38) (off := 37) dX2_holdOfStep_1 (by decide) (by rw [c3]; decide) (by decide) ?_
    refine v_iconst C (v := 0) (by decide) dX2_holdOfStep_38 ?_
    exact v_iret C hr dX2_holdOfStep_39 (fun a h => by have h := Option.some.inj h; subst h; rfl)
  refine v_look C (t := 40) (off := 39) dX2_holdOfStep_1 (by decide) (by show Op.lookupswitch.offset [(0, 35), (4, 35), (6, 37)] _ _ = _; rw [lv_osw (k := 0) c1 (by decide), lv_osw (k := 4) c2 (by decide), lv_osw (k := 6) c3 (by decide)]; rfl) (by decide) ?_
  refine v_iconst C (v := 2) (by decide) dX2_holdOfStep_40 ?_
  exact v_iret C hr dX2_holdOfStep_41 (fun a h => by have h := Option.some.inj h; subst h; rfl)
set_option maxRecDepth 20000 in
set_option maxHeartbeats 4000000 in
theorem s_X2_has {l : Launch} (G : GT) (Z : ZT) (hG : DA G) (hZ : WT G Z) {this : Nat} {a0 : Int32} {μ : MT} {q : Int32} (ht : Ob G Z this 2) (hq : m_X2_has Z this a0 μ = some q) : MZ l G Z yX2_has cX2_has 2 (some .boolean) 0 [.ref (ga G this), .int a0] μ (some (.int q)) μ := by
  refine v_met (J := (fun r : Int32 => (some (.int r), μ))) hG hZ (by decide) (Nat.le_of_ble_eq_true rfl) hq ?_
  intro x C hR _ hr
  show VK x G Z (0, 0) 2 (QM x G Z) (fun r : Int32 => (some (.int r), μ)) 0 [(0, .ref (ga G this)), (1, .int a0)] [] μ _ some
  unfold m_X2_has
  refine v_iload_n C (n := 1) rfl rfl dX2_has_0 ?_
  refine v_iflt C (t := 16) dX2_has_1 (by decide) ?_ ?_
  · refine v_iconst C (v := 0) (by decide) dX2_has_16 ?_
    exact v_zret C (Or.inl rfl) hr dX2_has_17 (fun a h => by have h := Option.some.inj h; subst h; rfl)
  · refine v_iload_n C (n := 1) rfl rfl dX2_has_4 ?_
    refine v_aload_n C (n := 0) rfl rfl dX2_has_5 ?_
    refine v_geti C fl_X2_34 rfl ht dX2_has_6 ?_
    refine v_icge C (t := 16) dX2_has_9 (by decide) ?_ ?_
    · refine v_iconst C (v := 0) (by decide) dX2_has_16 ?_
      exact v_zret C (Or.inl rfl) hr dX2_has_17 (fun a h => by have h := Option.some.inj h; subst h; rfl)
    · refine v_iconst C (v := 1) (by decide) dX2_has_12 ?_
      refine v_goto C (t := 17) (by decide) dX2_has_13 ?_
      exact v_zret C (Or.inr rfl) hr dX2_has_17 (fun a h => by have h := Option.some.inj h; subst h; rfl)
set_option maxRecDepth 20000 in
set_option maxHeartbeats 4000000 in
theorem s_X2_holds {l : Launch} (G : GT) (Z : ZT) (hG : DA G) (hZ : WT G Z) {this : Nat} {a0 : Int32} {μ : MT} {q : Int32} (ht : Ob G Z this 2) (hq : m_X2_holds Z this a0 μ = some q) : MZ l G Z yX2_holds cX2_holds 2 (some .boolean) 0 [.ref (ga G this), .int a0] μ (some (.int q)) μ := by
  refine v_met (J := (fun r : Int32 => (some (.int r), μ))) hG hZ (by decide) (Nat.le_of_ble_eq_true rfl) hq ?_
  intro x C hR _ hr
  show VK x G Z (0, 0) 2 (QM x G Z) (fun r : Int32 => (some (.int r), μ)) 0 [(0, .ref (ga G this)), (1, .int a0)] [] μ _ some
  unfold m_X2_holds
  refine v_iload_n C (n := 1) rfl rfl dX2_holds_0 ?_
  refine v_iflt C (t := 25) dX2_holds_1 (by decide) ?_ ?_
  · refine v_iconst C (v := 0) (by decide) dX2_holds_25 ?_
    exact v_zret C (Or.inl rfl) hr dX2_holds_26 (fun a h => by have h := Option.some.inj h; subst h; rfl)
  · refine v_iload_n C (n := 1) rfl rfl dX2_holds_4 ?_
    refine v_aload_n C (n := 0) rfl rfl dX2_holds_5 ?_
    refine v_geti C fl_X2_34 rfl ht dX2_holds_6 ?_
    refine v_icge C (t := 25) dX2_holds_9 (by decide) ?_ ?_
    · refine v_iconst C (v := 0) (by decide) dX2_holds_25 ?_
      exact v_zret C (Or.inl rfl) hr dX2_holds_26 (fun a h => by have h := Option.some.inj h; subst h; rfl)
    · refine v_aload_n C (n := 0) rfl rfl dX2_holds_12 ?_
      refine v_getr C (t := 20) fl_X2_18 rfl rfl ht dX2_holds_13 (fun h1 => ?_)
      refine v_iload_n C (n := 1) rfl rfl dX2_holds_16 ?_
      refine v_iald C h1.oa dX2_holds_17 (fun x2 => ?_)
      refine v_ifle C (t := 25) dX2_holds_18 (by decide) ?_ ?_
      · refine v_iconst C (v := 0) (by decide) dX2_holds_25 ?_
        exact v_zret C (Or.inl rfl) hr dX2_holds_26 (fun a h => by have h := Option.some.inj h; subst h; rfl)
      · refine v_iconst C (v := 1) (by decide) dX2_holds_21 ?_
        refine v_goto C (t := 26) (by decide) dX2_holds_22 ?_
        exact v_zret C (Or.inr rfl) hr dX2_holds_26 (fun a h => by have h := Option.some.inj h; subst h; rfl)
set_option maxRecDepth 20000 in
set_option maxHeartbeats 4000000 in
theorem s_X2_isClamped {l : Launch} (G : GT) (Z : ZT) (hG : DA G) (hZ : WT G Z) {this : Nat} {a0 : Int32} {μ : MT} {q : Int32} (ht : Ob G Z this 2) (hq : m_X2_isClamped Z this a0 μ = some q) : MZ l G Z yX2_isClamped cX2_isClamped 2 (some .boolean) 0 [.ref (ga G this), .int a0] μ (some (.int q)) μ := by
  refine v_met (J := (fun r : Int32 => (some (.int r), μ))) hG hZ (by decide) (Nat.le_of_ble_eq_true rfl) hq ?_
  intro x C hR _ hr
  show VK x G Z (0, 0) 2 (QM x G Z) (fun r : Int32 => (some (.int r), μ)) 0 [(0, .ref (ga G this)), (1, .int a0)] [] μ _ some
  unfold m_X2_isClamped
  refine v_aload_n C (n := 0) rfl rfl dX2_isClamped_0 ?_
  refine v_geti C fl_X2_30 rfl ht dX2_isClamped_1 ?_
  refine v_iload_n C (n := 1) rfl rfl dX2_isClamped_4 ?_
  refine v_ishr C dX2_isClamped_5 ?_
  refine v_iconst C (v := 1) (by decide) dX2_isClamped_6 ?_
  refine v_iand C dX2_isClamped_7 ?_
  refine v_iconst C (v := 1) (by decide) dX2_isClamped_8 ?_
  refine v_icne C (t := 16) dX2_isClamped_9 (by decide) ?_ ?_
  · refine v_iconst C (v := 0) (by decide) dX2_isClamped_16 ?_
    exact v_zret C (Or.inl rfl) hr dX2_isClamped_17 (fun a h => by have h := Option.some.inj h; subst h; rfl)
  · refine v_iconst C (v := 1) (by decide) dX2_isClamped_12 ?_
    refine v_goto C (t := 17) (by decide) dX2_isClamped_13 ?_
    exact v_zret C (Or.inr rfl) hr dX2_isClamped_17 (fun a h => by have h := Option.some.inj h; subst h; rfl)
set_option maxRecDepth 20000 in
set_option maxHeartbeats 4000000 in
theorem s_X2_cool {l : Launch} (G : GT) (Z : ZT) (hG : DA G) (hZ : WT G Z) {this : Nat} {a0 : Int32} {μ : MT} {q : MT} (ht : Ob G Z this 2) (hq : m_X2_cool Z this a0 μ = some q) : MZ l G Z yX2_cool cX2_cool 3 none 0 [.ref (ga G this), .int a0] μ none q := by
  refine v_met (J := (fun ν : MT => ((none : Option Value), ν))) hG hZ (by decide) (Nat.le_of_ble_eq_true rfl) hq ?_
  intro x C hR _ hr
  show VK x G Z (0, 0) 3 (QM x G Z) (fun ν : MT => ((none : Option Value), ν)) 0 [(0, .ref (ga G this)), (1, .int a0)] [] μ _ some
  unfold m_X2_cool
  refine v_aload_n C (n := 0) rfl rfl dX2_cool_0 ?_
  refine v_getr C (t := 20) fl_X2_15 rfl rfl ht dX2_cool_1 (fun h1 => ?_)
  refine v_iload_n C (n := 1) rfl rfl dX2_cool_4 ?_
  refine v_iald C h1.oa dX2_cool_5 (fun x2 => ?_)
  refine v_istore_n C (lv' := [(2, .int x2), (0, .ref (ga G this)), (1, .int a0)]) rfl (by decide) rfl dX2_cool_6 ?_
  refine v_sub (lv' := [(0, .ref (ga G this)), (1, .int a0), (2, .int x2)]) [1, 2, 0] rfl ?_
  refine v_lp 7 46 (fun t : Int32 × MT => [(0, .ref (ga G this)), (1, .int a0), (2, .int (t.1))]) (fun t : Int32 × MT => t.2) (fun t : MT => [(0, .ref (ga G this)), (1, .int a0)]) (fun t : MT => t) ?_ ?_ LN (x2, μ)
  · intro ν5
    refine v_aload_n C (n := 0) rfl rfl dX2_cool_46 ?_
    refine v_getr C (t := 20) fl_X2_15 rfl rfl ht dX2_cool_47 (fun h10 => ?_)
    refine v_iload_n C (n := 1) rfl rfl dX2_cool_50 ?_
    refine v_aload_n C (n := 0) rfl rfl dX2_cool_51 ?_
    refine v_geti C fl_X2_37 rfl ht dX2_cool_52 ?_
    refine v_iast C h10 dX2_cool_55 (fun ν11 => ?_)
    exact v_vret C hr dX2_cool_56 (fun a h => by have h := Option.some.inj h; subst h; rfl)
  · intro X6 F8 hX7 hF9
    rintro ⟨y3, ν4⟩
    refine v_iload_n C (n := 2) rfl rfl dX2_cool_7 ?_
    refine v_aload_n C (n := 0) rfl rfl dX2_cool_8 ?_
    refine v_geti C fl_X2_37 rfl ht dX2_cool_9 ?_
    refine v_icge C (t := 46) dX2_cool_12 (by decide) ?_ ?_
    · refine v_sub (lv' := [(0, .ref (ga G this)), (1, .int a0)]) [0, 1] rfl ?_
      exact v_leaf (hF9 ν4)
    · refine v_aload_n C (n := 0) rfl rfl dX2_cool_15 ?_
      refine v_getr C (t := 20) fl_X2_9 rfl rfl ht dX2_cool_16 (fun h12 => ?_)
      refine v_iload_n C (n := 1) rfl rfl dX2_cool_19 ?_
      refine v_iald C h12.oa dX2_cool_20 (fun x13 => ?_)
      refine v_ifle C (t := 46) dX2_cool_21 (by decide) ?_ ?_
      · refine v_sub (lv' := [(0, .ref (ga G this)), (1, .int a0)]) [0, 1] rfl ?_
        exact v_leaf (hF9 ν4)
      · refine v_aload_n C (n := 0) rfl rfl dX2_cool_24 ?_
        refine v_getr C (t := 20) fl_X2_9 rfl rfl ht dX2_cool_25 (fun h14 => ?_)
        refine v_iload_n C (n := 1) rfl rfl dX2_cool_28 ?_
        refine v_aload_n C (n := 0) rfl rfl dX2_cool_29 ?_
        refine v_getr C (t := 20) fl_X2_9 rfl rfl ht dX2_cool_30 (fun h15 => ?_)
        refine v_iload_n C (n := 1) rfl rfl dX2_cool_33 ?_
        refine v_iald C h15.oa dX2_cool_34 (fun x16 => ?_)
        refine v_iconst C (v := 3) (by decide) dX2_cool_35 ?_
        refine v_imul C dX2_cool_36 ?_
        refine v_iconst C (v := 4) (by decide) dX2_cool_37 ?_
        refine v_idiv C dX2_cool_38 (fun x17 => ?_)
        refine v_iast C h14 dX2_cool_39 (fun ν18 => ?_)
        refine v_iinc C (n := 2) (v := y3 + 1) (lv' := [(2, .int (y3 + 1)), (0, .ref (ga G this)), (1, .int a0)]) rfl (congrArg (y3 + ·) (by decide : Int32.ofInt (1) = (1 : Int32))) (by decide) rfl dX2_cool_40 ?_
        refine v_let (y := y3 + 1) (fun x19 => [(2, .int x19), (0, .ref (ga G this)), (1, .int a0)]) (fun x19 => []) (fun x19 => ?_)
        refine v_goto C (t := 7) (by decide) dX2_cool_43 ?_
        refine v_sub (lv' := [(0, .ref (ga G this)), (1, .int a0), (2, .int x19)]) [1, 2, 0] rfl ?_
        exact v_leaf (hX7 (x19, ν18))
set_option maxRecDepth 20000 in
set_option maxHeartbeats 4000000 in
theorem s_X2_heightAt {l : Launch} (G : GT) (Z : ZT) (hG : DA G) (hZ : WT G Z) {this : Nat} {a0 : Int32} {μ : MT} {q : Int32} (ht : Ob G Z this 2) (hq : m_X2_heightAt Z this a0 μ = some q) : MZ l G Z yX2_heightAt cX2_heightAt 5 (some .int) 0 [.ref (ga G this), .int a0] μ (some (.int q)) μ := by
  refine v_met (J := (fun r : Int32 => (some (.int r), μ))) hG hZ (by decide) (Nat.le_of_ble_eq_true rfl) hq ?_
  intro x C hR _ hr
  show VK x G Z (0, 0) 5 (QM x G Z) (fun r : Int32 => (some (.int r), μ)) 0 [(0, .ref (ga G this)), (1, .int a0)] [] μ _ some
  unfold m_X2_heightAt
  refine v_iconst C (v := 0) (by decide) dX2_heightAt_0 ?_
  refine v_istore_n C (lv' := [(2, .int 0), (0, .ref (ga G this)), (1, .int a0)]) rfl (by decide) rfl dX2_heightAt_1 ?_
  refine v_iconst C (v := 0) (by decide) dX2_heightAt_2 ?_
  refine v_istore_n C (lv' := [(3, .int 0), (2, .int 0), (0, .ref (ga G this)), (1, .int a0)]) rfl (by decide) rfl dX2_heightAt_3 ?_
  refine v_iconst C (v := 0) (by decide) dX2_heightAt_4 ?_
  refine v_istore C (lv' := [(4, .int 0), (3, .int 0), (2, .int 0), (0, .ref (ga G this)), (1, .int a0)]) (by decide) rfl dX2_heightAt_5 ?_
  refine v_sub (lv' := [(0, .ref (ga G this)), (1, .int a0), (2, .int 0), (3, .int 0), (4, .int 0)]) [3, 4, 2, 1, 0] rfl ?_
  refine v_lp 7 42 (fun t : Int32 × Int32 × Int32 => [(0, .ref (ga G this)), (1, .int a0), (2, .int (t.1)), (3, .int (t.2.1)), (4, .int (t.2.2))]) (fun t : Int32 × Int32 × Int32 => μ) (fun t : Int32 => [(3, .int t)]) (fun t : Int32 => μ) ?_ ?_ LN (0, 0, 0)
  · intro y4
    refine v_iload_n C (n := 0) rfl rfl dX2_heightAt_42 ?_
    exact v_iret C hr dX2_heightAt_43 (fun a h => by have h := Option.some.inj h; subst h; rfl)
  · intro X5 F7 hX6 hF8
    rintro ⟨y1, y2, y3⟩
    refine v_iload C (n := 4) rfl dX2_heightAt_7 ?_
    refine v_iload_n C (n := 1) rfl rfl dX2_heightAt_9 ?_
    refine v_icge C (t := 42) dX2_heightAt_10 (by decide) ?_ ?_
    · refine v_sub (lv' := [(3, .int y2)]) [3] rfl ?_
      exact v_leaf (hF8 y2)
    · refine v_iload C (n := 4) rfl dX2_heightAt_13 ?_
      refine v_aload_n C (n := 0) rfl rfl dX2_heightAt_15 ?_
      refine v_geti C fl_X2_34 rfl ht dX2_heightAt_16 ?_
      refine v_icge C (t := 42) dX2_heightAt_19 (by decide) ?_ ?_
      · refine v_sub (lv' := [(3, .int y2)]) [3] rfl ?_
        exact v_leaf (hF8 y2)
      · refine v_iload_n C (n := 2) rfl rfl dX2_heightAt_22 ?_
        refine v_aload_n C (n := 0) rfl rfl dX2_heightAt_23 ?_
        refine v_getr C (t := 20) fl_X2_21 rfl rfl ht dX2_heightAt_24 (fun h9 => ?_)
        refine v_iload C (n := 4) rfl dX2_heightAt_27 ?_
        refine v_iald C h9.oa dX2_heightAt_29 (fun x10 => ?_)
        refine v_iadd C dX2_heightAt_30 ?_
        refine v_istore_n C (lv' := [(2, .int (y1 + x10)), (0, .ref (ga G this)), (1, .int a0), (3, .int y2), (4, .int y3)]) rfl (by decide) rfl dX2_heightAt_31 ?_
        refine v_let (y := (y1 + x10)) (fun x11 => [(2, .int x11), (0, .ref (ga G this)), (1, .int a0), (3, .int y2), (4, .int y3)]) (fun x11 => []) (fun x11 => ?_)
        refine v_iload_n C (n := 3) rfl rfl dX2_heightAt_32 ?_
        refine v_iload_n C (n := 0) rfl rfl dX2_heightAt_33 ?_
        refine v_iadd C dX2_heightAt_34 ?_
        refine v_istore_n C (lv' := [(3, .int (y2 + x11)), (2, .int x11), (0, .ref (ga G this)), (1, .int a0), (4, .int y3)]) rfl (by decide) rfl dX2_heightAt_35 ?_
        refine v_let (y := (y2 + x11)) (fun x12 => [(3, .int x12), (2, .int x11), (0, .ref (ga G this)), (1, .int a0), (4, .int y3)]) (fun x12 => []) (fun x12 => ?_)
        refine v_iinc C (n := 4) (v := y3 + 1) (lv' := [(4, .int (y3 + 1)), (3, .int x12), (2, .int x11), (0, .ref (ga G this)), (1, .int a0)]) rfl (congrArg (y3 + ·) (by decide : Int32.ofInt (1) = (1 : Int32))) (by decide) rfl dX2_heightAt_36 ?_
        refine v_let (y := y3 + 1) (fun x13 => [(4, .int x13), (3, .int x12), (2, .int x11), (0, .ref (ga G this)), (1, .int a0)]) (fun x13 => []) (fun x13 => ?_)
        refine v_goto C (t := 7) (by decide) dX2_heightAt_39 ?_
        refine v_sub (lv' := [(0, .ref (ga G this)), (1, .int a0), (2, .int x11), (3, .int x12), (4, .int x13)]) [3, 4, 2, 1, 0] rfl ?_
        exact v_leaf (hX6 (x11, x12, x13))
set_option maxRecDepth 20000 in
set_option maxHeartbeats 4000000 in
theorem s_X3_isNone {l : Launch} (G : GT) (Z : ZT) (hG : DA G) (hZ : WT G Z) {this : Nat} {μ : MT} {q : Int32} (ht : Ob G Z this 3) (hq : m_X3_isNone Z this μ = some q) : MZ l G Z yX3_isNone cX3_isNone 1 (some .boolean) 0 [.ref (ga G this)] μ (some (.int q)) μ := by
  refine v_met (J := (fun r : Int32 => (some (.int r), μ))) hG hZ (by decide) (Nat.le_of_ble_eq_true rfl) hq ?_
  intro x C hR _ hr
  show VK x G Z (0, 0) 1 (QM x G Z) (fun r : Int32 => (some (.int r), μ)) 0 [(0, .ref (ga G this))] [] μ _ some
  unfold m_X3_isNone
  refine v_aload_n C (n := 0) rfl rfl dX3_isNone_0 ?_
  refine v_geti C fl_X3_9 rfl ht dX3_isNone_1 ?_
  refine v_ifne C (t := 11) dX3_isNone_4 (by decide) ?_ ?_
  · refine v_iconst C (v := 0) (by decide) dX3_isNone_11 ?_
    exact v_zret C (Or.inl rfl) hr dX3_isNone_12 (fun a h => by have h := Option.some.inj h; subst h; rfl)
  · refine v_iconst C (v := 1) (by decide) dX3_isNone_7 ?_
    refine v_goto C (t := 12) (by decide) dX3_isNone_8 ?_
    exact v_zret C (Or.inr rfl) hr dX3_isNone_12 (fun a h => by have h := Option.some.inj h; subst h; rfl)
set_option maxRecDepth 20000 in
set_option maxHeartbeats 4000000 in
theorem s_X3_hasCell {l : Launch} (G : GT) (Z : ZT) (hG : DA G) (hZ : WT G Z) {this : Nat} {a0 : Int32} {μ : MT} {q : Int32} (ht : Ob G Z this 3) (hq : m_X3_hasCell Z this a0 μ = some q) : MZ l G Z yX3_hasCell cX3_hasCell 2 (some .boolean) 0 [.ref (ga G this), .int a0] μ (some (.int q)) μ := by
  refine v_met (J := (fun r : Int32 => (some (.int r), μ))) hG hZ (by decide) (Nat.le_of_ble_eq_true rfl) hq ?_
  intro x C hR _ hr
  show VK x G Z (0, 0) 2 (QM x G Z) (fun r : Int32 => (some (.int r), μ)) 0 [(0, .ref (ga G this)), (1, .int a0)] [] μ _ some
  unfold m_X3_hasCell
  refine v_iload_n C (n := 1) rfl rfl dX3_hasCell_0 ?_
  refine v_iflt C (t := 16) dX3_hasCell_1 (by decide) ?_ ?_
  · refine v_iconst C (v := 0) (by decide) dX3_hasCell_16 ?_
    exact v_zret C (Or.inl rfl) hr dX3_hasCell_17 (fun a h => by have h := Option.some.inj h; subst h; rfl)
  · refine v_iload_n C (n := 1) rfl rfl dX3_hasCell_4 ?_
    refine v_aload_n C (n := 0) rfl rfl dX3_hasCell_5 ?_
    refine v_geti C fl_X3_9 rfl ht dX3_hasCell_6 ?_
    refine v_icge C (t := 16) dX3_hasCell_9 (by decide) ?_ ?_
    · refine v_iconst C (v := 0) (by decide) dX3_hasCell_16 ?_
      exact v_zret C (Or.inl rfl) hr dX3_hasCell_17 (fun a h => by have h := Option.some.inj h; subst h; rfl)
    · refine v_iconst C (v := 1) (by decide) dX3_hasCell_12 ?_
      refine v_goto C (t := 17) (by decide) dX3_hasCell_13 ?_
      exact v_zret C (Or.inr rfl) hr dX3_hasCell_17 (fun a h => by have h := Option.some.inj h; subst h; rfl)
set_option maxRecDepth 20000 in
set_option maxHeartbeats 4000000 in
theorem s_X3_hasSeam {l : Launch} (G : GT) (Z : ZT) (hG : DA G) (hZ : WT G Z) {this : Nat} {a0 : Int32} {μ : MT} {q : Int32} (ht : Ob G Z this 3) (hq : m_X3_hasSeam Z this a0 μ = some q) : MZ l G Z yX3_hasSeam cX3_hasSeam 2 (some .boolean) 0 [.ref (ga G this), .int a0] μ (some (.int q)) μ := by
  refine v_met (J := (fun r : Int32 => (some (.int r), μ))) hG hZ (by decide) (Nat.le_of_ble_eq_true rfl) hq ?_
  intro x C hR _ hr
  show VK x G Z (0, 0) 2 (QM x G Z) (fun r : Int32 => (some (.int r), μ)) 0 [(0, .ref (ga G this)), (1, .int a0)] [] μ _ some
  unfold m_X3_hasSeam
  refine v_iload_n C (n := 1) rfl rfl dX3_hasSeam_0 ?_
  refine v_iflt C (t := 16) dX3_hasSeam_1 (by decide) ?_ ?_
  · refine v_iconst C (v := 0) (by decide) dX3_hasSeam_16 ?_
    exact v_zret C (Or.inl rfl) hr dX3_hasSeam_17 (fun a h => by have h := Option.some.inj h; subst h; rfl)
  · refine v_iload_n C (n := 1) rfl rfl dX3_hasSeam_4 ?_
    refine v_aload_n C (n := 0) rfl rfl dX3_hasSeam_5 ?_
    refine v_geti C fl_X3_15 rfl ht dX3_hasSeam_6 ?_
    refine v_icge C (t := 16) dX3_hasSeam_9 (by decide) ?_ ?_
    · refine v_iconst C (v := 0) (by decide) dX3_hasSeam_16 ?_
      exact v_zret C (Or.inl rfl) hr dX3_hasSeam_17 (fun a h => by have h := Option.some.inj h; subst h; rfl)
    · refine v_iconst C (v := 1) (by decide) dX3_hasSeam_12 ?_
      refine v_goto C (t := 17) (by decide) dX3_hasSeam_13 ?_
      exact v_zret C (Or.inr rfl) hr dX3_hasSeam_17 (fun a h => by have h := Option.some.inj h; subst h; rfl)
set_option maxRecDepth 20000 in
set_option maxHeartbeats 4000000 in
theorem s_X3_hasAct {l : Launch} (G : GT) (Z : ZT) (hG : DA G) (hZ : WT G Z) {this : Nat} {a0 : Int32} {μ : MT} {q : Int32} (ht : Ob G Z this 3) (hq : m_X3_hasAct Z this a0 μ = some q) : MZ l G Z yX3_hasAct cX3_hasAct 2 (some .boolean) 0 [.ref (ga G this), .int a0] μ (some (.int q)) μ := by
  refine v_met (J := (fun r : Int32 => (some (.int r), μ))) hG hZ (by decide) (Nat.le_of_ble_eq_true rfl) hq ?_
  intro x C hR _ hr
  show VK x G Z (0, 0) 2 (QM x G Z) (fun r : Int32 => (some (.int r), μ)) 0 [(0, .ref (ga G this)), (1, .int a0)] [] μ _ some
  unfold m_X3_hasAct
  refine v_iload_n C (n := 1) rfl rfl dX3_hasAct_0 ?_
  refine v_iflt C (t := 16) dX3_hasAct_1 (by decide) ?_ ?_
  · refine v_iconst C (v := 0) (by decide) dX3_hasAct_16 ?_
    exact v_zret C (Or.inl rfl) hr dX3_hasAct_17 (fun a h => by have h := Option.some.inj h; subst h; rfl)
  · refine v_iload_n C (n := 1) rfl rfl dX3_hasAct_4 ?_
    refine v_aload_n C (n := 0) rfl rfl dX3_hasAct_5 ?_
    refine v_geti C fl_X3_18 rfl ht dX3_hasAct_6 ?_
    refine v_icge C (t := 16) dX3_hasAct_9 (by decide) ?_ ?_
    · refine v_iconst C (v := 0) (by decide) dX3_hasAct_16 ?_
      exact v_zret C (Or.inl rfl) hr dX3_hasAct_17 (fun a h => by have h := Option.some.inj h; subst h; rfl)
    · refine v_iconst C (v := 1) (by decide) dX3_hasAct_12 ?_
      refine v_goto C (t := 17) (by decide) dX3_hasAct_13 ?_
      exact v_zret C (Or.inr rfl) hr dX3_hasAct_17 (fun a h => by have h := Option.some.inj h; subst h; rfl)
set_option maxRecDepth 20000 in
set_option maxHeartbeats 4000000 in
theorem s_X3_stepKind {l : Launch} (G : GT) (Z : ZT) (hG : DA G) (hZ : WT G Z) {this : Nat} {a0 : Int32} {μ : MT} {q : Int32} (ht : Ob G Z this 3) (hq : m_X3_stepKind Z this a0 μ = some q) : MZ l G Z yX3_stepKind cX3_stepKind 2 (some .int) 0 [.ref (ga G this), .int a0] μ (some (.int q)) μ := by
  refine v_met (J := (fun r : Int32 => (some (.int r), μ))) hG hZ (by decide) (Nat.le_of_ble_eq_true rfl) hq ?_
  intro x C hR _ hr
  show VK x G Z (0, 0) 2 (QM x G Z) (fun r : Int32 => (some (.int r), μ)) 0 [(0, .ref (ga G this)), (1, .int a0)] [] μ _ some
  unfold m_X3_stepKind
  refine v_aload_n C (n := 0) rfl rfl dX3_stepKind_0 ?_
  refine v_getr C (t := 20) fl_X3_24 rfl rfl ht dX3_stepKind_1 (fun h1 => ?_)
  refine v_iload_n C (n := 1) rfl rfl dX3_stepKind_4 ?_
  refine v_iald C h1.oa dX3_stepKind_5 (fun x2 => ?_)
  refine v_iconst C (v := 1) (by decide) dX3_stepKind_6 ?_
  refine v_iadd C dX3_stepKind_7 ?_
  exact v_iret C hr dX3_stepKind_8 (fun a h => by have h := Option.some.inj h; subst h; rfl)
set_option maxRecDepth 20000 in
set_option maxHeartbeats 4000000 in
theorem s_X3_addAct {l : Launch} (G : GT) (Z : ZT) (hG : DA G) (hZ : WT G Z) {this : Nat} {a0 : Int32} {a1 : Int32} {a2 : Int32} {μ : MT} {q : MT} (ht : Ob G Z this 3) (hq : m_X3_addAct Z this a0 a1 a2 μ = some q) : MZ l G Z yX3_addAct cX3_addAct 4 none 0 [.ref (ga G this), .int a0, .int a1, .int a2] μ none q := by
  refine v_met (J := (fun ν : MT => ((none : Option Value), ν))) hG hZ (by decide) (Nat.le_of_ble_eq_true rfl) hq ?_
  intro x C hR _ hr
  show VK x G Z (0, 0) 4 (QM x G Z) (fun ν : MT => ((none : Option Value), ν)) 0 [(0, .ref (ga G this)), (1, .int a0), (2, .int a1), (3, .int a2)] [] μ _ some
  unfold m_X3_addAct
  refine v_aload_n C (n := 0) rfl rfl dX3_addAct_0 ?_
  refine v_geti C fl_X3_18 rfl ht dX3_addAct_1 ?_
  refine v_bipush C (v := 40) (by decide) dX3_addAct_4 ?_
  refine v_icge C (t := 62) dX3_addAct_6 (by decide) ?_ ?_
  · exact v_vret C hr dX3_addAct_62 (fun a h => by have h := Option.some.inj h; subst h; rfl)
  · refine v_aload_n C (n := 0) rfl rfl dX3_addAct_9 ?_
    refine v_getr C (t := 20) fl_X3_24 rfl rfl ht dX3_addAct_10 (fun h1 => ?_)
    refine v_aload_n C (n := 0) rfl rfl dX3_addAct_13 ?_
    refine v_geti C fl_X3_18 rfl ht dX3_addAct_14 ?_
    refine v_iload_n C (n := 1) rfl rfl dX3_addAct_17 ?_
    refine v_iast C h1 dX3_addAct_18 (fun ν2 => ?_)
    refine v_aload_n C (n := 0) rfl rfl dX3_addAct_19 ?_
    refine v_getr C (t := 20) fl_X3_28 rfl rfl ht dX3_addAct_20 (fun h3 => ?_)
    refine v_aload_n C (n := 0) rfl rfl dX3_addAct_23 ?_
    refine v_geti C fl_X3_18 rfl ht dX3_addAct_24 ?_
    refine v_iload_n C (n := 2) rfl rfl dX3_addAct_27 ?_
    refine v_iast C h3 dX3_addAct_28 (fun ν4 => ?_)
    refine v_aload_n C (n := 0) rfl rfl dX3_addAct_29 ?_
    refine v_getr C (t := 20) fl_X3_31 rfl rfl ht dX3_addAct_30 (fun h5 => ?_)
    refine v_aload_n C (n := 0) rfl rfl dX3_addAct_33 ?_
    refine v_geti C fl_X3_18 rfl ht dX3_addAct_34 ?_
    refine v_iload_n C (n := 3) rfl rfl dX3_addAct_37 ?_
    refine v_iast C h5 dX3_addAct_38 (fun ν6 => ?_)
    refine v_aload_n C (n := 0) rfl rfl dX3_addAct_39 ?_
    refine v_getr C (t := 20) fl_X3_34 rfl rfl ht dX3_addAct_40 (fun h7 => ?_)
    refine v_aload_n C (n := 0) rfl rfl dX3_addAct_43 ?_
    refine v_geti C fl_X3_18 rfl ht dX3_addAct_44 ?_
    refine v_aload_n C (n := 0) rfl rfl dX3_addAct_47 ?_
    refine v_geti C fl_X3_15 rfl ht dX3_addAct_48 ?_
    refine v_iast C h7 dX3_addAct_51 (fun ν8 => ?_)
    refine v_aload_n C (n := 0) rfl rfl dX3_addAct_52 ?_
    refine v_dup C rfl dX3_addAct_53 ?_
    refine v_geti C fl_X3_18 rfl ht dX3_addAct_54 ?_
    refine v_iconst C (v := 1) (by decide) dX3_addAct_57 ?_
    refine v_iadd C dX3_addAct_58 ?_
    refine v_puti C fp_X3_18 rfl rfl ht dX3_addAct_59 (fun ν9 => ?_)
    exact v_vret C hr dX3_addAct_62 (fun a h => by have h := Option.some.inj h; subst h; rfl)
set_option maxRecDepth 20000 in
set_option maxHeartbeats 4000000 in
theorem s_X3_endSeam {l : Launch} (G : GT) (Z : ZT) (hG : DA G) (hZ : WT G Z) {this : Nat} {μ : MT} {q : MT} (ht : Ob G Z this 3) (hq : m_X3_endSeam Z this μ = some q) : MZ l G Z yX3_endSeam cX3_endSeam 1 none 0 [.ref (ga G this)] μ none q := by
  refine v_met (J := (fun ν : MT => ((none : Option Value), ν))) hG hZ (by decide) (Nat.le_of_ble_eq_true rfl) hq ?_
  intro x C hR _ hr
  show VK x G Z (0, 0) 1 (QM x G Z) (fun ν : MT => ((none : Option Value), ν)) 0 [(0, .ref (ga G this))] [] μ _ some
  unfold m_X3_endSeam
  refine v_aload_n C (n := 0) rfl rfl dX3_endSeam_0 ?_
  refine v_geti C fl_X3_15 rfl ht dX3_endSeam_1 ?_
  refine v_bipush C (v := 6) (by decide) dX3_endSeam_4 ?_
  refine v_icge C (t := 32) dX3_endSeam_6 (by decide) ?_ ?_
  · exact v_vret C hr dX3_endSeam_32 (fun a h => by have h := Option.some.inj h; subst h; rfl)
  · refine v_aload_n C (n := 0) rfl rfl dX3_endSeam_9 ?_
    refine v_getr C (t := 20) fl_X3_37 rfl rfl ht dX3_endSeam_10 (fun h1 => ?_)
    refine v_aload_n C (n := 0) rfl rfl dX3_endSeam_13 ?_
    refine v_geti C fl_X3_15 rfl ht dX3_endSeam_14 ?_
    refine v_aload_n C (n := 0) rfl rfl dX3_endSeam_17 ?_
    refine v_geti C fl_X3_18 rfl ht dX3_endSeam_18 ?_
    refine v_iast C h1 dX3_endSeam_21 (fun ν2 => ?_)
    refine v_aload_n C (n := 0) rfl rfl dX3_endSeam_22 ?_
    refine v_dup C rfl dX3_endSeam_23 ?_
    refine v_geti C fl_X3_15 rfl ht dX3_endSeam_24 ?_
    refine v_iconst C (v := 1) (by decide) dX3_endSeam_27 ?_
    refine v_iadd C dX3_endSeam_28 ?_
    refine v_puti C fp_X3_15 rfl rfl ht dX3_endSeam_29 (fun ν3 => ?_)
    exact v_vret C hr dX3_endSeam_32 (fun a h => by have h := Option.some.inj h; subst h; rfl)
set_option maxRecDepth 20000 in
set_option maxHeartbeats 4000000 in
theorem s_X3_firstAct {l : Launch} (G : GT) (Z : ZT) (hG : DA G) (hZ : WT G Z) {this : Nat} {a0 : Int32} {μ : MT} {q : Int32} (ht : Ob G Z this 3) (hq : m_X3_firstAct Z this a0 μ = some q) : MZ l G Z yX3_firstAct cX3_firstAct 2 (some .int) 0 [.ref (ga G this), .int a0] μ (some (.int q)) μ := by
  refine v_met (J := (fun r : Int32 => (some (.int r), μ))) hG hZ (by decide) (Nat.le_of_ble_eq_true rfl) hq ?_
  intro x C hR _ hr
  show VK x G Z (0, 0) 2 (QM x G Z) (fun r : Int32 => (some (.int r), μ)) 0 [(0, .ref (ga G this)), (1, .int a0)] [] μ _ some
  unfold m_X3_firstAct
  refine v_iload_n C (n := 1) rfl rfl dX3_firstAct_0 ?_
  refine v_ifle C (t := 23) dX3_firstAct_1 (by decide) ?_ ?_
  · refine v_iconst C (v := 0) (by decide) dX3_firstAct_23 ?_
    exact v_iret C hr dX3_firstAct_24 (fun a h => by have h := Option.some.inj h; subst h; rfl)
  · refine v_iload_n C (n := 1) rfl rfl dX3_firstAct_4 ?_
    refine v_aload_n C (n := 0) rfl rfl dX3_firstAct_5 ?_
    refine v_geti C fl_X3_15 rfl ht dX3_firstAct_6 ?_
    refine v_icge C (t := 23) dX3_firstAct_9 (by decide) ?_ ?_
    · refine v_iconst C (v := 0) (by decide) dX3_firstAct_23 ?_
      exact v_iret C hr dX3_firstAct_24 (fun a h => by have h := Option.some.inj h; subst h; rfl)
    · refine v_aload_n C (n := 0) rfl rfl dX3_firstAct_12 ?_
      refine v_getr C (t := 20) fl_X3_37 rfl rfl ht dX3_firstAct_13 (fun h1 => ?_)
      refine v_iload_n C (n := 1) rfl rfl dX3_firstAct_16 ?_
      refine v_iconst C (v := 1) (by decide) dX3_firstAct_17 ?_
      refine v_isub C dX3_firstAct_18 ?_
      refine v_iald C h1.oa dX3_firstAct_19 (fun x2 => ?_)
      refine v_goto C (t := 24) (by decide) dX3_firstAct_20 ?_
      exact v_iret C hr dX3_firstAct_24 (fun a h => by have h := Option.some.inj h; subst h; rfl)
set_option maxRecDepth 20000 in
set_option maxHeartbeats 4000000 in
theorem s_X5_forget {l : Launch} (G : GT) (Z : ZT) (hG : DA G) (hZ : WT G Z) {this : Nat} {μ : MT} {q : MT} (ht : Ob G Z this 5) (hq : m_X5_forget Z this μ = some q) : MZ l G Z yX5_forget cX5_forget 1 none 0 [.ref (ga G this)] μ none q := by
  refine v_met (J := (fun ν : MT => ((none : Option Value), ν))) hG hZ (by decide) (Nat.le_of_ble_eq_true rfl) hq ?_
  intro x C hR _ hr
  show VK x G Z (0, 0) 1 (QM x G Z) (fun ν : MT => ((none : Option Value), ν)) 0 [(0, .ref (ga G this))] [] μ _ some
  unfold m_X5_forget
  refine v_aload_n C (n := 0) rfl rfl dX5_forget_0 ?_
  refine v_iconst C (v := 0) (by decide) dX5_forget_1 ?_
  refine v_putz C (Or.inl rfl) fp_X5_27 rfl rfl ht dX5_forget_2 (fun ν1 => ?_)
  exact v_vret C hr dX5_forget_5 (fun a h => by have h := Option.some.inj h; subst h; rfl)
set_option maxRecDepth 20000 in
set_option maxHeartbeats 4000000 in
theorem s_X6_hasNumber {l : Launch} (G : GT) (Z : ZT) (hG : DA G) (hZ : WT G Z) {this : Nat} {a0 : Int32} {μ : MT} {q : Int32} (ht : Ob G Z this 6) (hq : m_X6_hasNumber Z this a0 μ = some q) : MZ l G Z yX6_hasNumber cX6_hasNumber 2 (some .boolean) 0 [.ref (ga G this), .int a0] μ (some (.int q)) μ := by
  refine v_met (J := (fun r : Int32 => (some (.int r), μ))) hG hZ (by decide) (Nat.le_of_ble_eq_true rfl) hq ?_
  intro x C hR _ hr
  show VK x G Z (0, 0) 2 (QM x G Z) (fun r : Int32 => (some (.int r), μ)) 0 [(0, .ref (ga G this)), (1, .int a0)] [] μ _ some
  unfold m_X6_hasNumber
  refine v_iload_n C (n := 1) rfl rfl dX6_hasNumber_0 ?_
  refine v_iflt C (t := 14) dX6_hasNumber_1 (by decide) ?_ ?_
  · refine v_iconst C (v := 0) (by decide) dX6_hasNumber_14 ?_
    exact v_zret C (Or.inl rfl) hr dX6_hasNumber_15 (fun a h => by have h := Option.some.inj h; subst h; rfl)
  · refine v_iload_n C (n := 1) rfl rfl dX6_hasNumber_4 ?_
    refine v_bipush C (v := 8) (by decide) dX6_hasNumber_5 ?_
    refine v_icge C (t := 14) dX6_hasNumber_7 (by decide) ?_ ?_
    · refine v_iconst C (v := 0) (by decide) dX6_hasNumber_14 ?_
      exact v_zret C (Or.inl rfl) hr dX6_hasNumber_15 (fun a h => by have h := Option.some.inj h; subst h; rfl)
    · refine v_iconst C (v := 1) (by decide) dX6_hasNumber_10 ?_
      refine v_goto C (t := 15) (by decide) dX6_hasNumber_11 ?_
      exact v_zret C (Or.inr rfl) hr dX6_hasNumber_15 (fun a h => by have h := Option.some.inj h; subst h; rfl)
set_option maxRecDepth 20000 in
set_option maxHeartbeats 4000000 in
theorem s_X6_isMissing {l : Launch} (G : GT) (Z : ZT) (hG : DA G) (hZ : WT G Z) {this : Nat} {a0 : Int32} {μ : MT} {q : Int32} (ht : Ob G Z this 6) (hq : m_X6_isMissing Z this a0 μ = some q) : MZ l G Z yX6_isMissing cX6_isMissing 2 (some .boolean) 0 [.ref (ga G this), .int a0] μ (some (.int q)) μ := by
  refine v_met (J := (fun r : Int32 => (some (.int r), μ))) hG hZ (by decide) (Nat.le_of_ble_eq_true rfl) hq ?_
  intro x C hR _ hr
  show VK x G Z (0, 0) 2 (QM x G Z) (fun r : Int32 => (some (.int r), μ)) 0 [(0, .ref (ga G this)), (1, .int a0)] [] μ _ some
  unfold m_X6_isMissing
  refine v_iload_n C (n := 1) rfl rfl dX6_isMissing_0 ?_
  refine v_joinm 20 (fun t : Unit => []) (fun t : Unit => []) (fun t : Unit => μ) ?_ ?_
  · rintro ⟨⟩
    refine v_iconst C (v := 1) (by decide) dX6_isMissing_20 ?_
    refine v_goto C (t := 25) (by decide) dX6_isMissing_21 ?_
    exact v_zret C (Or.inr rfl) hr dX6_isMissing_25 (fun a h => by have h := Option.some.inj h; subst h; rfl)
  intro F2 e3 hF1
  refine v_iflt C (t := 20) dX6_isMissing_1 (by decide) ?_ ?_
  · refine v_sub (lv' := []) [] rfl ?_
    exact v_leaf (hF1 ())
  · refine v_iload_n C (n := 1) rfl rfl dX6_isMissing_4 ?_
    refine v_bipush C (v := 8) (by decide) dX6_isMissing_5 ?_
    refine v_icge C (t := 20) dX6_isMissing_7 (by decide) ?_ ?_
    · refine v_sub (lv' := []) [] rfl ?_
      exact v_leaf (hF1 ())
    · refine v_aload_n C (n := 0) rfl rfl dX6_isMissing_10 ?_
      refine v_getr C (t := 20) fl_X6_15 rfl rfl ht dX6_isMissing_11 (fun h4 => ?_)
      refine v_iload_n C (n := 1) rfl rfl dX6_isMissing_14 ?_
      refine v_iald C h4.oa dX6_isMissing_15 (fun x5 => ?_)
      refine v_iconst C (v := (-1)) (by decide) dX6_isMissing_16 ?_
      refine v_icne C (t := 24) dX6_isMissing_17 (by decide) ?_ ?_
      · refine v_iconst C (v := 0) (by decide) dX6_isMissing_24 ?_
        exact v_zret C (Or.inl rfl) hr dX6_isMissing_25 (fun a h => by simp only [ob_s, lq, e3] at h; have h := Option.some.inj h; subst h; rfl)
      · refine v_sub (lv' := []) [] rfl ?_
        exact v_leaf (hF1 ())
