set_option maxRecDepth 20000 in
set_option maxHeartbeats 4000000 in
theorem s_X9_word {l : Launch} (G : GT) (Z : ZT) (hG : DA G) (hZ : WT G Z) {this : Nat} {μ : MT} {q : Int64} (ht : Ob G Z this 9) (hq : m_X9_word Z this μ = some q) : MZ l G Z yX9_word cX9_word 4 (some .long) 0 [.ref (ga G this)] μ (some (.long q)) μ := by
  refine v_met (J := (fun r : Int64 => (some (.long r), μ))) hG hZ (by decide) (Nat.le_of_ble_eq_true rfl) hq ?_
  intro x C hR _ hr
  show VK x G Z (0, 0) 4 (QM x G Z) (fun r : Int64 => (some (.long r), μ)) 0 [(0, .ref (ga G this))] [] μ _ some
  unfold m_X9_word
  refine v_lconst C (v := 0) (by decide) dX9_word_0 ?_
  refine v_lstore_n C (lv' := [(1, .long 0), (0, .ref (ga G this))]) rfl (by decide) rfl dX9_word_1 ?_
  refine v_aload_n C (n := 1) rfl rfl dX9_word_2 ?_
  refine v_geti C fl_X9_114 rfl ht dX9_word_3 ?_
  refine v_istore_n C (lv' := [(3, .int (μ this 25)), (1, .long 0), (0, .ref (ga G this))]) rfl (by decide) rfl dX9_word_6 ?_
  refine v_let (y := (μ this 25)) (fun x1 => [(3, .int x1), (1, .long 0), (0, .ref (ga G this))]) (fun x1 => []) (fun x1 => ?_)
  refine v_sub (lv' := [(0, .ref (ga G this)), (1, .long 0), (3, .int x1)]) [2, 1, 0] rfl ?_
  refine v_lp 7 56 (fun t : Int64 × Int32 => [(0, .ref (ga G this)), (1, .long (t.1)), (3, .int (t.2))]) (fun t : Int64 × Int32 => μ) (fun t : Int64 => [(0, .ref (ga G this)), (1, .long t)]) (fun t : Int64 => μ) ?_ ?_ LN (0, x1)
  · intro y4
    refine v_aload_n C (n := 0) rfl rfl dX9_word_56 ?_
    refine v_geti C fl_X9_129 rfl ht dX9_word_57 ?_
    refine v_ifne C (t := 67) dX9_word_60 (by decide) ?_ ?_
    · refine v_lconst C (v := 0) (by decide) dX9_word_67 ?_
      exact v_lret C hr dX9_word_68 (fun a h => by have h := Option.some.inj h; subst h; rfl)
    · refine v_lload_n C (n := 1) rfl rfl dX9_word_63 ?_
      refine v_goto C (t := 68) (by decide) dX9_word_64 ?_
      exact v_lret C hr dX9_word_68 (fun a h => by have h := Option.some.inj h; subst h; rfl)
  · intro X5 F7 hX6 hF8
    rintro ⟨y2, y3⟩
    refine v_iload_n C (n := 2) rfl rfl dX9_word_7 ?_
    refine v_aload_n C (n := 0) rfl rfl dX9_word_8 ?_
    refine v_geti C fl_X9_126 rfl ht dX9_word_9 ?_
    refine v_icge C (t := 56) dX9_word_12 (by decide) ?_ ?_
    · refine v_sub (lv' := [(0, .ref (ga G this)), (1, .long y2)]) [0, 1] rfl ?_
      exact v_leaf (hF8 y2)
    · refine v_aload_n C (n := 0) rfl rfl dX9_word_15 ?_
      refine v_geti C fl_X9_117 rfl ht dX9_word_16 ?_
      refine v_iconst C (v := 2) (by decide) dX9_word_19 ?_
      refine v_icne C (t := 56) dX9_word_20 (by decide) ?_ ?_
      · refine v_sub (lv' := [(0, .ref (ga G this)), (1, .long y2)]) [0, 1] rfl ?_
        exact v_leaf (hF8 y2)
      · refine v_aload_n C (n := 0) rfl rfl dX9_word_23 ?_
        refine v_geti C fl_X9_126 rfl ht dX9_word_24 ?_
        refine v_aload_n C (n := 0) rfl rfl dX9_word_27 ?_
        refine v_geti C fl_X9_114 rfl ht dX9_word_28 ?_
        refine v_isub C dX9_word_31 ?_
        refine v_bipush C (v := 8) (by decide) dX9_word_32 ?_
        refine v_icge C (t := 56) dX9_word_34 (by decide) ?_ ?_
        · refine v_sub (lv' := [(0, .ref (ga G this)), (1, .long y2)]) [0, 1] rfl ?_
          exact v_leaf (hF8 y2)
        · refine v_lload_n C (n := 1) rfl rfl dX9_word_37 ?_
          refine v_bipush C (v := 8) (by decide) dX9_word_38 ?_
          refine v_lshl C (v := y2 <<< ((8 : Int32).toInt64 &&& 63)) rfl dX9_word_40 ?_
          refine v_aload_n C (n := 0) rfl rfl dX9_word_41 ?_
          refine v_getr C (t := 20) fl_X9_37 rfl rfl ht dX9_word_42 (fun h9 => ?_)
          refine v_iload_n C (n := 2) rfl rfl dX9_word_45 ?_
          refine v_iald C h9.oa dX9_word_46 (fun x10 => ?_)
          refine v_i2l C (v := (x10 : Int32).toInt64) rfl dX9_word_47 ?_
          refine v_lor C dX9_word_48 ?_
          refine v_lstore_n C (lv' := [(1, .long ((y2 <<< ((8 : Int32).toInt64 &&& 63)) ||| ((x10 : Int32).toInt64))), (0, .ref (ga G this)), (3, .int y3)]) rfl (by decide) rfl dX9_word_49 ?_
          refine v_let (y := ((y2 <<< ((8 : Int32).toInt64 &&& 63)) ||| ((x10 : Int32).toInt64))) (fun x11 => [(1, .long x11), (0, .ref (ga G this)), (3, .int y3)]) (fun x11 => []) (fun x11 => ?_)
          refine v_iinc C (n := 2) (v := y3 + 1) (lv' := [(3, .int (y3 + 1)), (1, .long x11), (0, .ref (ga G this))]) rfl (congrArg (y3 + ·) (by decide : Int32.ofInt (1) = (1 : Int32))) (by decide) rfl dX9_word_50 ?_
          refine v_let (y := y3 + 1) (fun x12 => [(3, .int x12), (1, .long x11), (0, .ref (ga G this))]) (fun x12 => []) (fun x12 => ?_)
          refine v_goto C (t := 7) (by decide) dX9_word_53 ?_
          refine v_sub (lv' := [(0, .ref (ga G this)), (1, .long x11), (3, .int x12)]) [2, 1, 0] rfl ?_
          exact v_leaf (hX6 (x11, x12))
set_option maxRecDepth 20000 in
set_option maxHeartbeats 4000000 in
theorem s_X9_fault {l : Launch} (G : GT) (Z : ZT) (hG : DA G) (hZ : WT G Z) {this : Nat} {μ : MT} {q : Int32 × MT} (ht : Ob G Z this 9) (hq : m_X9_fault Z this μ = some q) : MZ l G Z yX9_fault cX9_fault 1 (some .int) 0 [.ref (ga G this)] μ (some (.int q.1)) q.2 := by
  refine v_met (J := (fun q : Int32 × MT => (some (.int q.1), q.2))) hG hZ (by decide) (Nat.le_of_ble_eq_true rfl) hq ?_
  intro x C hR _ hr
  show VK x G Z (0, 0) 1 (QM x G Z) (fun q : Int32 × MT => (some (.int q.1), q.2)) 0 [(0, .ref (ga G this))] [] μ _ some
  unfold m_X9_fault
  refine v_aload_n C (n := 0) rfl rfl dX9_fault_0 ?_
  refine v_iconst C (v := 0) (by decide) dX9_fault_1 ?_
  refine v_puti C fp_X9_71 rfl rfl ht dX9_fault_2 (fun ν1 => ?_)
  refine v_aload_n C (n := 0) rfl rfl dX9_fault_5 ?_
  refine v_geti C fl_X9_208 rfl ht dX9_fault_6 ?_
  exact v_iret C hr dX9_fault_9 (fun a h => by have h := Option.some.inj h; subst h; rfl)
set_option maxRecDepth 20000 in
set_option maxHeartbeats 4000000 in
theorem s_X9_minute {l : Launch} (G : GT) (Z : ZT) (hG : DA G) (hZ : WT G Z) {this : Nat} {μ : MT} {q : MT} (ht : Ob G Z this 9) (hq : m_X9_minute Z this μ = some q) : MZ l G Z yX9_minute cX9_minute 2 none 0 [.ref (ga G this)] μ none q := by
  refine v_met (J := (fun ν : MT => ((none : Option Value), ν))) hG hZ (by decide) (Nat.le_of_ble_eq_true rfl) hq ?_
  intro x C hR _ hr
  show VK x G Z (0, 0) 2 (QM x G Z) (fun ν : MT => ((none : Option Value), ν)) 0 [(0, .ref (ga G this))] [] μ _ some
  unfold m_X9_minute
  refine v_iconst C (v := 0) (by decide) dX9_minute_0 ?_
  refine v_istore_n C (lv' := [(1, .int 0), (0, .ref (ga G this))]) rfl (by decide) rfl dX9_minute_1 ?_
  refine v_sub (lv' := [(0, .ref (ga G this)), (1, .int 0)]) [1, 0] rfl ?_
  refine v_lp 2 36 (fun t : Int32 × MT => [(0, .ref (ga G this)), (1, .int (t.1))]) (fun t : Int32 × MT => t.2) (fun t : MT => [(0, .ref (ga G this))]) (fun t : MT => t) ?_ ?_ LN (0, μ)
  · intro ν3
    refine v_aload_n C (n := 0) rfl rfl dX9_minute_36 ?_
    refine v_dup C rfl dX9_minute_37 ?_
    refine v_geti C fl_X9_240 rfl ht dX9_minute_38 ?_
    refine v_iconst C (v := 1) (by decide) dX9_minute_41 ?_
    refine v_iadd C dX9_minute_42 ?_
    refine v_puti C fp_X9_240 rfl rfl ht dX9_minute_43 (fun ν8 => ?_)
    exact v_vret C hr dX9_minute_46 (fun a h => by have h := Option.some.inj h; subst h; rfl)
  · intro X4 F6 hX5 hF7
    rintro ⟨y1, ν2⟩
    refine v_iload_n C (n := 1) rfl rfl dX9_minute_2 ?_
    refine v_aload_n C (n := 0) rfl rfl dX9_minute_3 ?_
    refine v_geti C fl_X9_212 rfl ht dX9_minute_4 ?_
    refine v_icge C (t := 36) dX9_minute_7 (by decide) ?_ ?_
    · refine v_sub (lv' := [(0, .ref (ga G this))]) [0] rfl ?_
      exact v_leaf (hF7 ν2)
    · refine v_aload_n C (n := 0) rfl rfl dX9_minute_10 ?_
      refine v_getr C (t := 20) fl_X9_46 rfl rfl ht dX9_minute_11 (fun h9 => ?_)
      refine v_iconst C (v := 0) (by decide) dX9_minute_14 ?_
      refine v_iload_n C (n := 1) rfl rfl dX9_minute_15 ?_
      refine v_iadd C dX9_minute_16 ?_
      refine v_iconst C (v := 3) (by decide) dX9_minute_17 ?_
      refine v_aload_n C (n := 0) rfl rfl dX9_minute_18 ?_
      refine v_getr C (t := 20) fl_X9_46 rfl rfl ht dX9_minute_19 (fun h10 => ?_)
      refine v_iconst C (v := 0) (by decide) dX9_minute_22 ?_
      refine v_iload_n C (n := 1) rfl rfl dX9_minute_23 ?_
      refine v_iadd C dX9_minute_24 ?_
      refine v_iald C h10.oa dX9_minute_25 (fun x11 => ?_)
      refine v_imul C dX9_minute_26 ?_
      refine v_iconst C (v := 4) (by decide) dX9_minute_27 ?_
      refine v_idiv C dX9_minute_28 (fun x12 => ?_)
      refine v_iast C h9 dX9_minute_29 (fun ν13 => ?_)
      refine v_iinc C (n := 1) (v := y1 + 1) (lv' := [(1, .int (y1 + 1)), (0, .ref (ga G this))]) rfl (congrArg (y1 + ·) (by decide : Int32.ofInt (1) = (1 : Int32))) (by decide) rfl dX9_minute_30 ?_
      refine v_let (y := y1 + 1) (fun x14 => [(1, .int x14), (0, .ref (ga G this))]) (fun x14 => []) (fun x14 => ?_)
      refine v_goto C (t := 2) (by decide) dX9_minute_33 ?_
      refine v_sub (lv' := [(0, .ref (ga G this)), (1, .int x14)]) [1, 0] rfl ?_
      exact v_leaf (hX5 (x14, ν13))
set_option maxRecDepth 20000 in
set_option maxHeartbeats 4000000 in
theorem s_X9_free {l : Launch} (G : GT) (Z : ZT) (hG : DA G) (hZ : WT G Z) {this : Nat} {a0 : Int32} {μ : MT} {q : MT} (ht : Ob G Z this 9) (hq : m_X9_free Z this a0 μ = some q) : MZ l G Z yX9_free cX9_free 2 none 0 [.ref (ga G this), .int a0] μ none q := by
  refine v_met (J := (fun ν : MT => ((none : Option Value), ν))) hG hZ (by decide) (Nat.le_of_ble_eq_true rfl) hq ?_
  intro x C hR _ hr
  show VK x G Z (0, 0) 2 (QM x G Z) (fun ν : MT => ((none : Option Value), ν)) 0 [(0, .ref (ga G this)), (1, .int a0)] [] μ _ some
  unfold m_X9_free
  refine v_aload_n C (n := 0) rfl rfl dX9_free_0 ?_
  refine v_getr C (t := 22) fl_X9_52 rfl rfl ht dX9_free_1 (fun h1 => ?_)
  refine v_iload_n C (n := 1) rfl rfl dX9_free_4 ?_
  refine v_zald C h1 dX9_free_5 (fun x2 => ?_)
  refine v_ifeq C (t := 43) dX9_free_6 (by decide) ?_ ?_
  · exact v_vret C hr dX9_free_43 (fun a h => by have h := Option.some.inj h; subst h; rfl)
  · refine v_aload_n C (n := 0) rfl rfl dX9_free_9 ?_
    refine v_getr C (t := 22) fl_X9_52 rfl rfl ht dX9_free_10 (fun h3 => ?_)
    refine v_iload_n C (n := 1) rfl rfl dX9_free_13 ?_
    refine v_iconst C (v := 0) (by decide) dX9_free_14 ?_
    refine v_zast C h3 dX9_free_15 (fun ν4 => ?_)
    refine v_aload_n C (n := 0) rfl rfl dX9_free_16 ?_
    refine v_getr C (t := 20) fl_X9_46 rfl rfl ht dX9_free_17 (fun h5 => ?_)
    refine v_bipush C (v := 24) (by decide) dX9_free_20 ?_
    refine v_iload_n C (n := 1) rfl rfl dX9_free_22 ?_
    refine v_iadd C dX9_free_23 ?_
    refine v_dup2 C rfl rfl dX9_free_24 ?_
    refine v_iald C h5.oa dX9_free_25 (fun x6 => ?_)
    refine v_aload_n C (n := 0) rfl rfl dX9_free_26 ?_
    refine v_getr C (t := 20) fl_X9_49 rfl rfl ht dX9_free_27 (fun h7 => ?_)
    refine v_iload_n C (n := 1) rfl rfl dX9_free_30 ?_
    refine v_iald C h7.oa dX9_free_31 (fun x8 => ?_)
    refine v_iconst C (v := 2) (by decide) dX9_free_32 ?_
    refine v_idiv C dX9_free_33 (fun x9 => ?_)
    refine v_iadd C dX9_free_34 ?_
    refine v_iast C h5 dX9_free_35 (fun ν10 => ?_)
    refine v_aload_n C (n := 0) rfl rfl dX9_free_36 ?_
    refine v_getr C (t := 20) fl_X9_49 rfl rfl ht dX9_free_37 (fun h11 => ?_)
    refine v_iload_n C (n := 1) rfl rfl dX9_free_40 ?_
    refine v_iconst C (v := 0) (by decide) dX9_free_41 ?_
    refine v_iast C h11 dX9_free_42 (fun ν12 => ?_)
    exact v_vret C hr dX9_free_43 (fun a h => by have h := Option.some.inj h; subst h; rfl)
set_option maxRecDepth 20000 in
set_option maxHeartbeats 4000000 in
theorem s_X9_heightBy {l : Launch} (G : GT) (Z : ZT) (hG : DA G) (hZ : WT G Z) {this : Nat} {a0 : Nat} {a1 : Int32} {μ : MT} {q : Int32} (ht : Ob G Z this 9) (ha0 : Oa G Z a0) (hq : m_X9_heightBy Z this a0 a1 μ = some q) : MZ l G Z yX9_heightBy cX9_heightBy 6 (some .int) 0 [.ref (ga G this), .ref (ga G a0), .int a1] μ (some (.int q)) μ := by
  refine v_met (J := (fun r : Int32 => (some (.int r), μ))) hG hZ (by decide) (Nat.le_of_ble_eq_true rfl) hq ?_
  intro x C hR _ hr
  show VK x G Z (0, 0) 6 (QM x G Z) (fun r : Int32 => (some (.int r), μ)) 0 [(0, .ref (ga G this)), (1, .ref (ga G a0)), (2, .int a1)] [] μ _ some
  unfold m_X9_heightBy
  refine v_iconst C (v := 0) (by decide) dX9_heightBy_0 ?_
  refine v_istore_n C (lv' := [(3, .int 0), (0, .ref (ga G this)), (1, .ref (ga G a0)), (2, .int a1)]) rfl (by decide) rfl dX9_heightBy_1 ?_
  refine v_iconst C (v := 0) (by decide) dX9_heightBy_2 ?_
  refine v_istore C (lv' := [(4, .int 0), (3, .int 0), (0, .ref (ga G this)), (1, .ref (ga G a0)), (2, .int a1)]) (by decide) rfl dX9_heightBy_3 ?_
  refine v_iconst C (v := 0) (by decide) dX9_heightBy_5 ?_
  refine v_istore C (lv' := [(5, .int 0), (4, .int 0), (3, .int 0), (0, .ref (ga G this)), (1, .ref (ga G a0)), (2, .int a1)]) (by decide) rfl dX9_heightBy_6 ?_
  refine v_sub (lv' := [(1, .ref (ga G a0)), (2, .int a1), (3, .int 0), (4, .int 0), (5, .int 0)]) [4, 5, 2, 1, 0] rfl ?_
  refine v_lp 8 37 (fun t : Int32 × Int32 × Int32 => [(1, .ref (ga G a0)), (2, .int a1), (3, .int (t.1)), (4, .int (t.2.1)), (5, .int (t.2.2))]) (fun t : Int32 × Int32 × Int32 => μ) (fun t : Int32 => [(3, .int t)]) (fun t : Int32 => μ) ?_ ?_ LN (0, 0, 0)
  · intro y4
    refine v_iload_n C (n := 0) rfl rfl dX9_heightBy_37 ?_
    exact v_iret C hr dX9_heightBy_38 (fun a h => by have h := Option.some.inj h; subst h; rfl)
  · intro X5 F7 hX6 hF8
    rintro ⟨y1, y2, y3⟩
    refine v_iload C (n := 4) rfl dX9_heightBy_8 ?_
    refine v_iload_n C (n := 1) rfl rfl dX9_heightBy_10 ?_
    refine v_icge C (t := 37) dX9_heightBy_11 (by decide) ?_ ?_
    · refine v_sub (lv' := [(3, .int y1)]) [2] rfl ?_
      exact v_leaf (hF8 y1)
    · refine v_iload C (n := 3) rfl dX9_heightBy_14 ?_
      refine v_aload_n C (n := 0) rfl rfl dX9_heightBy_16 ?_
      refine v_bipush C (v := 24) (by decide) dX9_heightBy_17 ?_
      refine v_iload C (n := 4) rfl dX9_heightBy_19 ?_
      refine v_iadd C dX9_heightBy_21 ?_
      refine v_iald C ha0 dX9_heightBy_22 (fun x9 => ?_)
      refine v_iadd C dX9_heightBy_23 ?_
      refine v_istore C (lv' := [(4, .int (y2 + x9)), (1, .ref (ga G a0)), (2, .int a1), (3, .int y1), (5, .int y3)]) (by decide) rfl dX9_heightBy_24 ?_
      refine v_let (y := (y2 + x9)) (fun x10 => [(4, .int x10), (1, .ref (ga G a0)), (2, .int a1), (3, .int y1), (5, .int y3)]) (fun x10 => []) (fun x10 => ?_)
      refine v_iload_n C (n := 3) rfl rfl dX9_heightBy_26 ?_
      refine v_iload C (n := 0) rfl dX9_heightBy_27 ?_
      refine v_iadd C dX9_heightBy_29 ?_
      refine v_istore_n C (lv' := [(3, .int (y1 + x10)), (4, .int x10), (1, .ref (ga G a0)), (2, .int a1), (5, .int y3)]) rfl (by decide) rfl dX9_heightBy_30 ?_
      refine v_let (y := (y1 + x10)) (fun x11 => [(3, .int x11), (4, .int x10), (1, .ref (ga G a0)), (2, .int a1), (5, .int y3)]) (fun x11 => []) (fun x11 => ?_)
      refine v_iinc C (n := 4) (v := y3 + 1) (lv' := [(5, .int (y3 + 1)), (3, .int x11), (4, .int x10), (1, .ref (ga G a0)), (2, .int a1)]) rfl (congrArg (y3 + ·) (by decide : Int32.ofInt (1) = (1 : Int32))) (by decide) rfl dX9_heightBy_31 ?_
      refine v_let (y := y3 + 1) (fun x12 => [(5, .int x12), (3, .int x11), (4, .int x10), (1, .ref (ga G a0)), (2, .int a1)]) (fun x12 => []) (fun x12 => ?_)
      refine v_goto C (t := 8) (by decide) dX9_heightBy_34 ?_
      refine v_sub (lv' := [(1, .ref (ga G a0)), (2, .int a1), (3, .int x11), (4, .int x10), (5, .int x12)]) [3, 4, 1, 2, 0] rfl ?_
      exact v_leaf (hX6 (x11, x10, x12))
set_option maxRecDepth 20000 in
set_option maxHeartbeats 4000000 in
theorem s_X9_layOpened {l : Launch} (G : GT) (Z : ZT) (hG : DA G) (hZ : WT G Z) {this : Nat} {μ : MT} {q : MT} (ht : Ob G Z this 9) (hq : m_X9_layOpened Z this μ = some q) : MZ l G Z yX9_layOpened cX9_layOpened 2 none 0 [.ref (ga G this)] μ none q := by
  refine v_met (J := (fun ν : MT => ((none : Option Value), ν))) hG hZ (by decide) (Nat.le_of_ble_eq_true rfl) hq ?_
  intro x C hR _ hr
  show VK x G Z (0, 0) 2 (QM x G Z) (fun ν : MT => ((none : Option Value), ν)) 0 [(0, .ref (ga G this))] [] μ _ some
  unfold m_X9_layOpened
  refine v_iconst C (v := 0) (by decide) dX9_layOpened_0 ?_
  refine v_istore_n C (lv' := [(1, .int 0), (0, .ref (ga G this))]) rfl (by decide) rfl dX9_layOpened_1 ?_
  refine v_sub (lv' := [(0, .ref (ga G this)), (1, .int 0)]) [1, 0] rfl ?_
  refine v_lp 2 26 (fun t : Int32 × MT => [(0, .ref (ga G this)), (1, .int (t.1))]) (fun t : Int32 × MT => t.2) (fun t : MT => []) (fun t : MT => t) ?_ ?_ LN (0, μ)
  · intro ν3
    exact v_vret C hr dX9_layOpened_26 (fun a h => by have h := Option.some.inj h; subst h; rfl)
  · intro X4 F6 hX5 hF7
    rintro ⟨y1, ν2⟩
    refine v_iload_n C (n := 1) rfl rfl dX9_layOpened_2 ?_
    refine v_bipush C (v := 12) (by decide) dX9_layOpened_3 ?_
    refine v_icge C (t := 26) dX9_layOpened_5 (by decide) ?_ ?_
    · refine v_sub (lv' := []) [] rfl ?_
      exact v_leaf (hF7 ν2)
    · refine v_aload_n C (n := 0) rfl rfl dX9_layOpened_8 ?_
      refine v_getr C (t := 20) fl_X9_59 rfl rfl ht dX9_layOpened_9 (fun h8 => ?_)
      refine v_iload_n C (n := 1) rfl rfl dX9_layOpened_12 ?_
      refine v_aload_n C (n := 0) rfl rfl dX9_layOpened_13 ?_
      refine v_getr C (t := 20) fl_X9_40 rfl rfl ht dX9_layOpened_14 (fun h9 => ?_)
      refine v_iload_n C (n := 1) rfl rfl dX9_layOpened_17 ?_
      refine v_iald C h9.oa dX9_layOpened_18 (fun x10 => ?_)
      refine v_iast C h8 dX9_layOpened_19 (fun ν11 => ?_)
      refine v_iinc C (n := 1) (v := y1 + 1) (lv' := [(1, .int (y1 + 1)), (0, .ref (ga G this))]) rfl (congrArg (y1 + ·) (by decide : Int32.ofInt (1) = (1 : Int32))) (by decide) rfl dX9_layOpened_20 ?_
      refine v_let (y := y1 + 1) (fun x12 => [(1, .int x12), (0, .ref (ga G this))]) (fun x12 => []) (fun x12 => ?_)
      refine v_goto C (t := 2) (by decide) dX9_layOpened_23 ?_
      refine v_sub (lv' := [(0, .ref (ga G this)), (1, .int x12)]) [1, 0] rfl ?_
      exact v_leaf (hX5 (x12, ν11))
set_option maxRecDepth 20000 in
set_option maxHeartbeats 4000000 in
theorem s_X9_stand {l : Launch} (G : GT) (Z : ZT) (hG : DA G) (hZ : WT G Z) {this : Nat} {μ : MT} {q : MT} (ht : Ob G Z this 9) (hq : m_X9_stand Z this μ = some q) : MZ l G Z yX9_stand cX9_stand 2 none 0 [.ref (ga G this)] μ none q := by
  refine v_met (J := (fun ν : MT => ((none : Option Value), ν))) hG hZ (by decide) (Nat.le_of_ble_eq_true rfl) hq ?_
  intro x C hR _ hr
  show VK x G Z (0, 0) 2 (QM x G Z) (fun ν : MT => ((none : Option Value), ν)) 0 [(0, .ref (ga G this))] [] μ _ some
  unfold m_X9_stand
  refine v_iconst C (v := 0) (by decide) dX9_stand_0 ?_
  refine v_istore_n C (lv' := [(1, .int 0), (0, .ref (ga G this))]) rfl (by decide) rfl dX9_stand_1 ?_
  refine v_sub (lv' := [(0, .ref (ga G this)), (1, .int 0)]) [1, 0] rfl ?_
  refine v_lp 2 26 (fun t : Int32 × MT => [(0, .ref (ga G this)), (1, .int (t.1))]) (fun t : Int32 × MT => t.2) (fun t : MT => [(0, .ref (ga G this))]) (fun t : MT => t) ?_ ?_ LN (0, μ)
  · intro ν3
    refine v_aload_n C (n := 0) rfl rfl dX9_stand_26 ?_
    refine v_aload_n C (n := 0) rfl rfl dX9_stand_27 ?_
    refine v_geti C fl_X9_240 rfl ht dX9_stand_28 ?_
    refine v_puti C fp_X9_270 rfl rfl ht dX9_stand_31 (fun ν8 => ?_)
    refine v_aload_n C (n := 0) rfl rfl dX9_stand_34 ?_
    refine v_iconst C (v := 1) (by decide) dX9_stand_35 ?_
    refine v_putz C (Or.inr rfl) fp_X9_224 rfl rfl ht dX9_stand_36 (fun ν9 => ?_)
    refine v_iconst C (v := 0) (by decide) dX9_stand_39 ?_
    refine v_istore_n C (lv' := [(1, .int 0), (0, .ref (ga G this))]) rfl (by decide) rfl dX9_stand_40 ?_
    refine v_sub (lv' := [(0, .ref (ga G this)), (1, .int 0)]) [1, 0] rfl ?_
    refine v_lp 41 65 (fun t : Int32 × MT => [(0, .ref (ga G this)), (1, .int (t.1))]) (fun t : Int32 × MT => t.2) (fun t : MT => []) (fun t : MT => t) ?_ ?_ LN (0, ν9)
    · intro ν12
      exact v_vret C hr dX9_stand_65 (fun a h => by have h := Option.some.inj h; subst h; rfl)
    · intro X13 F15 hX14 hF16
      rintro ⟨y10, ν11⟩
      refine v_iload_n C (n := 1) rfl rfl dX9_stand_41 ?_
      refine v_bipush C (v := 6) (by decide) dX9_stand_42 ?_
      refine v_icge C (t := 65) dX9_stand_44 (by decide) ?_ ?_
      · refine v_sub (lv' := []) [] rfl ?_
        exact v_leaf (hF16 ν11)
      · refine v_aload_n C (n := 0) rfl rfl dX9_stand_47 ?_
        refine v_getr C (t := 20) fl_X9_43 rfl rfl ht dX9_stand_48 (fun h17 => ?_)
        refine v_iload_n C (n := 1) rfl rfl dX9_stand_51 ?_
        refine v_aload_n C (n := 0) rfl rfl dX9_stand_52 ?_
        refine v_getr C (t := 20) fl_X9_62 rfl rfl ht dX9_stand_53 (fun h18 => ?_)
        refine v_iload_n C (n := 1) rfl rfl dX9_stand_56 ?_
        refine v_iald C h18.oa dX9_stand_57 (fun x19 => ?_)
        refine v_iast C h17 dX9_stand_58 (fun ν20 => ?_)
        refine v_iinc C (n := 1) (v := y10 + 1) (lv' := [(1, .int (y10 + 1)), (0, .ref (ga G this))]) rfl (congrArg (y10 + ·) (by decide : Int32.ofInt (1) = (1 : Int32))) (by decide) rfl dX9_stand_59 ?_
        refine v_let (y := y10 + 1) (fun x21 => [(1, .int x21), (0, .ref (ga G this))]) (fun x21 => []) (fun x21 => ?_)
        refine v_goto C (t := 41) (by decide) dX9_stand_62 ?_
        refine v_sub (lv' := [(0, .ref (ga G this)), (1, .int x21)]) [1, 0] rfl ?_
        exact v_leaf (hX14 (x21, ν20))
  · intro X4 F6 hX5 hF7
    rintro ⟨y1, ν2⟩
    refine v_iload_n C (n := 1) rfl rfl dX9_stand_2 ?_
    refine v_bipush C (v := 48) (by decide) dX9_stand_3 ?_
    refine v_icge C (t := 26) dX9_stand_5 (by decide) ?_ ?_
    · refine v_sub (lv' := [(0, .ref (ga G this))]) [0] rfl ?_
      exact v_leaf (hF7 ν2)
    · refine v_aload_n C (n := 0) rfl rfl dX9_stand_8 ?_
      refine v_getr C (t := 20) fl_X9_56 rfl rfl ht dX9_stand_9 (fun h22 => ?_)
      refine v_iload_n C (n := 1) rfl rfl dX9_stand_12 ?_
      refine v_aload_n C (n := 0) rfl rfl dX9_stand_13 ?_
      refine v_getr C (t := 20) fl_X9_46 rfl rfl ht dX9_stand_14 (fun h23 => ?_)
      refine v_iload_n C (n := 1) rfl rfl dX9_stand_17 ?_
      refine v_iald C h23.oa dX9_stand_18 (fun x24 => ?_)
      refine v_iast C h22 dX9_stand_19 (fun ν25 => ?_)
      refine v_iinc C (n := 1) (v := y1 + 1) (lv' := [(1, .int (y1 + 1)), (0, .ref (ga G this))]) rfl (congrArg (y1 + ·) (by decide : Int32.ofInt (1) = (1 : Int32))) (by decide) rfl dX9_stand_20 ?_
      refine v_let (y := y1 + 1) (fun x26 => [(1, .int x26), (0, .ref (ga G this))]) (fun x26 => []) (fun x26 => ?_)
      refine v_goto C (t := 2) (by decide) dX9_stand_23 ?_
      refine v_sub (lv' := [(0, .ref (ga G this)), (1, .int x26)]) [1, 0] rfl ?_
      exact v_leaf (hX5 (x26, ν25))
set_option maxRecDepth 20000 in
set_option maxHeartbeats 4000000 in
theorem s_X9_layNumbers {l : Launch} (G : GT) (Z : ZT) (hG : DA G) (hZ : WT G Z) {this : Nat} {μ : MT} {q : MT} (ht : Ob G Z this 9) (hq : m_X9_layNumbers Z this μ = some q) : MZ l G Z yX9_layNumbers cX9_layNumbers 2 none 0 [.ref (ga G this)] μ none q := by
  refine v_met (J := (fun ν : MT => ((none : Option Value), ν))) hG hZ (by decide) (Nat.le_of_ble_eq_true rfl) hq ?_
  intro x C hR _ hr
  show VK x G Z (0, 0) 2 (QM x G Z) (fun ν : MT => ((none : Option Value), ν)) 0 [(0, .ref (ga G this))] [] μ _ some
  unfold m_X9_layNumbers
  refine v_iconst C (v := 0) (by decide) dX9_layNumbers_0 ?_
  refine v_istore_n C (lv' := [(1, .int 0), (0, .ref (ga G this))]) rfl (by decide) rfl dX9_layNumbers_1 ?_
  refine v_sub (lv' := [(0, .ref (ga G this)), (1, .int 0)]) [1, 0] rfl ?_
  refine v_lp 2 21 (fun t : Int32 × MT => [(0, .ref (ga G this)), (1, .int (t.1))]) (fun t : Int32 × MT => t.2) (fun t : MT => []) (fun t : MT => t) ?_ ?_ LN (0, μ)
  · intro ν3
    exact v_vret C hr dX9_layNumbers_21 (fun a h => by have h := Option.some.inj h; subst h; rfl)
  · intro X4 F6 hX5 hF7
    rintro ⟨y1, ν2⟩
    refine v_iload_n C (n := 1) rfl rfl dX9_layNumbers_2 ?_
    refine v_bipush C (v := 6) (by decide) dX9_layNumbers_3 ?_
    refine v_icge C (t := 21) dX9_layNumbers_5 (by decide) ?_ ?_
    · refine v_sub (lv' := []) [] rfl ?_
      exact v_leaf (hF7 ν2)
    · refine v_aload_n C (n := 0) rfl rfl dX9_layNumbers_8 ?_
      refine v_getr C (t := 20) fl_X9_62 rfl rfl ht dX9_layNumbers_9 (fun h8 => ?_)
      refine v_iload_n C (n := 1) rfl rfl dX9_layNumbers_12 ?_
      refine v_iload_n C (n := 1) rfl rfl dX9_layNumbers_13 ?_
      refine v_iast C h8 dX9_layNumbers_14 (fun ν9 => ?_)
      refine v_iinc C (n := 1) (v := y1 + 1) (lv' := [(1, .int (y1 + 1)), (0, .ref (ga G this))]) rfl (congrArg (y1 + ·) (by decide : Int32.ofInt (1) = (1 : Int32))) (by decide) rfl dX9_layNumbers_15 ?_
      refine v_let (y := y1 + 1) (fun x10 => [(1, .int x10), (0, .ref (ga G this))]) (fun x10 => []) (fun x10 => ?_)
      refine v_goto C (t := 2) (by decide) dX9_layNumbers_18 ?_
      refine v_sub (lv' := [(0, .ref (ga G this)), (1, .int x10)]) [1, 0] rfl ?_
      exact v_leaf (hX5 (x10, ν9))
set_option maxRecDepth 20000 in
set_option maxHeartbeats 4000000 in
theorem s_X9_minutes {l : Launch} (G : GT) (Z : ZT) (hG : DA G) (hZ : WT G Z) {this : Nat} {μ : MT} {q : Int32 × MT} (ht : Ob G Z this 9) (hq : m_X9_minutes Z this μ = some q) : MZ l G Z yX9_minutes cX9_minutes 1 (some .int) 0 [.ref (ga G this)] μ (some (.int q.1)) q.2 := by
  refine v_met (J := (fun q : Int32 × MT => (some (.int q.1), q.2))) hG hZ (by decide) (Nat.le_of_ble_eq_true rfl) hq ?_
  intro x C hR _ hr
  show VK x G Z (0, 0) 1 (QM x G Z) (fun q : Int32 × MT => (some (.int q.1), q.2)) 0 [(0, .ref (ga G this))] [] μ _ some
  unfold m_X9_minutes
  refine v_aload_n C (n := 0) rfl rfl dX9_minutes_0 ?_
  refine v_iconst C (v := 0) (by decide) dX9_minutes_1 ?_
  refine v_puti C fp_X9_71 rfl rfl ht dX9_minutes_2 (fun ν1 => ?_)
  refine v_aload_n C (n := 0) rfl rfl dX9_minutes_5 ?_
  refine v_geti C fl_X9_224 rfl ht dX9_minutes_6 ?_
  refine v_ifeq C (t := 19) dX9_minutes_9 (by decide) ?_ ?_
  · refine v_iconst C (v := 0) (by decide) dX9_minutes_19 ?_
    exact v_iret C hr dX9_minutes_20 (fun a h => by have h := Option.some.inj h; subst h; rfl)
  · refine v_aload_n C (n := 0) rfl rfl dX9_minutes_12 ?_
    refine v_geti C fl_X9_270 rfl ht dX9_minutes_13 ?_
    refine v_goto C (t := 20) (by decide) dX9_minutes_16 ?_
    exact v_iret C hr dX9_minutes_20 (fun a h => by have h := Option.some.inj h; subst h; rfl)
set_option maxRecDepth 20000 in
set_option maxHeartbeats 4000000 in
theorem s_X9_fits {l : Launch} (G : GT) (Z : ZT) (hG : DA G) (hZ : WT G Z) {this : Nat} {μ : MT} {q : Int32} (ht : Ob G Z this 9) (hq : m_X9_fits Z this μ = some q) : MZ l G Z yX9_fits cX9_fits 6 (some .boolean) 0 [.ref (ga G this)] μ (some (.int q)) μ := by
  refine v_met (J := (fun r : Int32 => (some (.int r), μ))) hG hZ (by decide) (Nat.le_of_ble_eq_true rfl) hq ?_
  intro x C hR _ hr
  show VK x G Z (0, 0) 6 (QM x G Z) (fun r : Int32 => (some (.int r), μ)) 0 [(0, .ref (ga G this))] [] μ _ some
  unfold m_X9_fits
  refine v_iconst C (v := 1) (by decide) dX9_fits_0 ?_
  refine v_istore_n C (lv' := [(1, .int 1), (0, .ref (ga G this))]) rfl (by decide) rfl dX9_fits_1 ?_
  refine v_iconst C (v := 0) (by decide) dX9_fits_2 ?_
  refine v_istore_n C (lv' := [(2, .int 0), (1, .int 1), (0, .ref (ga G this))]) rfl (by decide) rfl dX9_fits_3 ?_
  refine v_sub (lv' := [(0, .ref (ga G this)), (1, .int 1), (2, .int 0)]) [2, 1, 0] rfl ?_
  refine v_lp 4 105 (fun t : Int32 × Int32 => [(0, .ref (ga G this)), (1, .int (t.1)), (2, .int (t.2))]) (fun t : Int32 × Int32 => μ) (fun t : Int32 => [(1, .int t)]) (fun t : Int32 => μ) ?_ ?_ LN (1, 0)
  · intro y3
    refine v_iload_n C (n := 0) rfl rfl dX9_fits_105 ?_
    refine v_bz (fun hb9 => ?_)
    exact v_zret C hb9 hr dX9_fits_106 (fun a h => by have h := Option.some.inj h; subst h; rfl)
  · intro X4 F6 hX5 hF7
    rintro ⟨y1, y2⟩
    refine v_iload_n C (n := 2) rfl rfl dX9_fits_4 ?_
    refine v_aload_n C (n := 0) rfl rfl dX9_fits_5 ?_
    refine v_geti C fl_X9_221 rfl ht dX9_fits_6 ?_
    refine v_icge C (t := 105) dX9_fits_9 (by decide) ?_ ?_
    · refine v_sub (lv' := [(1, .int y1)]) [1] rfl ?_
      exact v_leaf (hF7 y1)
    · refine v_iconst C (v := 0) (by decide) dX9_fits_12 ?_
      refine v_istore_n C (lv' := [(3, .int 0), (0, .ref (ga G this)), (1, .int y1), (2, .int y2)]) rfl (by decide) rfl dX9_fits_13 ?_
      refine v_iconst C (v := 0) (by decide) dX9_fits_14 ?_
      refine v_istore C (lv' := [(4, .int 0), (3, .int 0), (0, .ref (ga G this)), (1, .int y1), (2, .int y2)]) (by decide) rfl dX9_fits_15 ?_
      refine v_iconst C (v := 0) (by decide) dX9_fits_17 ?_
      refine v_istore C (lv' := [(5, .int 0), (4, .int 0), (3, .int 0), (0, .ref (ga G this)), (1, .int y1), (2, .int y2)]) (by decide) rfl dX9_fits_18 ?_
      refine v_sub (lv' := [(0, .ref (ga G this)), (1, .int y1), (2, .int y2), (3, .int 0), (4, .int 0), (5, .int 0)]) [3, 4, 5, 2, 1, 0] rfl ?_
      refine v_lp 20 83 (fun t : Int32 × Int32 × Int32 => [(0, .ref (ga G this)), (1, .int y1), (2, .int y2), (3, .int (t.1)), (4, .int (t.2.1)), (5, .int (t.2.2))]) (fun t : Int32 × Int32 × Int32 => μ) (fun t : Int32 × Int32 => [(0, .ref (ga G this)), (1, .int y1), (2, .int y2), (3, .int (t.1)), (4, .int (t.2))]) (fun t : Int32 × Int32 => μ) ?_ ?_ LN (0, 0, 0)
      · rintro ⟨y13, y14⟩
        refine v_iload_n C (n := 1) rfl rfl dX9_fits_83 ?_
        refine v_join 98 (fun t : Int32 => [(0, .ref (ga G this)), (2, .int y2)]) (fun t : Int32 => [.int t]) (fun t : Int32 => μ) ?_ ?_
        · intro z19
          refine v_istore_n C (lv' := [(1, .int z19), (0, .ref (ga G this)), (2, .int y2)]) rfl (by decide) rfl dX9_fits_98 ?_
          refine v_iinc C (n := 2) (v := y2 + 1) (lv' := [(2, .int (y2 + 1)), (1, .int z19), (0, .ref (ga G this))]) rfl (congrArg (y2 + ·) (by decide : Int32.ofInt (1) = (1 : Int32))) (by decide) rfl dX9_fits_99 ?_
          refine v_let (y := y2 + 1) (fun x22 => [(2, .int x22), (1, .int z19), (0, .ref (ga G this))]) (fun x22 => []) (fun x22 => ?_)
          refine v_goto C (t := 4) (by decide) dX9_fits_102 ?_
          refine v_sub (lv' := [(0, .ref (ga G this)), (1, .int z19), (2, .int x22)]) [2, 1, 0] rfl ?_
          exact v_leaf (hX5 (z19, x22))
        intro F21 hF20
        refine v_joinm 97 (fun t : Unit => [(0, .ref (ga G this)), (2, .int y2)]) (fun t : Unit => []) (fun t : Unit => μ) ?_ ?_
        · rintro ⟨⟩
          refine v_iconst C (v := 0) (by decide) dX9_fits_97 ?_
          exact v_leaf (hF20 0)
        intro F24 e25 hF23
        refine v_ifeq C (t := 97) dX9_fits_84 (by decide) ?_ ?_
        · refine v_sub (lv' := [(0, .ref (ga G this)), (2, .int y2)]) [0, 2] rfl ?_
          exact v_leaf (hF23 ())
        · refine v_iload_n C (n := 3) rfl rfl dX9_fits_87 ?_
          refine v_iload C (n := 4) rfl dX9_fits_88 ?_
          refine v_icge C (t := 97) dX9_fits_90 (by decide) ?_ ?_
          · refine v_sub (lv' := [(0, .ref (ga G this)), (2, .int y2)]) [0, 2] rfl ?_
            exact v_leaf (hF23 ())
          · refine v_iconst C (v := 1) (by decide) dX9_fits_93 ?_
            refine v_goto C (t := 98) (by decide) dX9_fits_94 ?_
            refine v_sub (lv' := [(0, .ref (ga G this)), (2, .int y2)]) [0, 2] rfl ?_
            exact v_leaf (by rw [e25]; exact hF20 1)
      · intro X15 F17 hX16 hF18
        rintro ⟨y10, y11, y12⟩
        refine v_iload C (n := 5) rfl dX9_fits_20 ?_
        refine v_aload_n C (n := 0) rfl rfl dX9_fits_22 ?_
        refine v_geti C fl_X9_215 rfl ht dX9_fits_23 ?_
        refine v_icge C (t := 83) dX9_fits_26 (by decide) ?_ ?_
        · refine v_sub (lv' := [(0, .ref (ga G this)), (1, .int y1), (2, .int y2), (3, .int y10), (4, .int y11)]) [0, 1, 2, 3, 4] rfl ?_
          exact v_leaf (hF18 (y10, y11))
        · refine v_aload_n C (n := 0) rfl rfl dX9_fits_29 ?_
          refine v_getr C (t := 20) fl_X9_62 rfl rfl ht dX9_fits_30 (fun h26 => ?_)
          refine v_iload C (n := 5) rfl dX9_fits_33 ?_
          refine v_iald C h26.oa dX9_fits_35 (fun x27 => ?_)
          refine v_aload_n C (n := 0) rfl rfl dX9_fits_36 ?_
          refine v_getr C (t := 20) fl_X9_22 rfl rfl ht dX9_fits_37 (fun h28 => ?_)
          refine v_iload_n C (n := 2) rfl rfl dX9_fits_40 ?_
          refine v_iald C h28.oa dX9_fits_41 (fun x29 => ?_)
          refine v_join 51 (fun t : Int32 => [(0, .ref (ga G this)), (1, .int y1), (2, .int y2), (4, .int y11), (5, .int y12)]) (fun t : Int32 => [.int t]) (fun t : Int32 => μ) ?_ ?_
          · intro z30
            refine v_istore_n C (lv' := [(3, .int z30), (0, .ref (ga G this)), (1, .int y1), (2, .int y2), (4, .int y11), (5, .int y12)]) rfl (by decide) rfl dX9_fits_51 ?_
            refine v_aload_n C (n := 1) rfl rfl dX9_fits_52 ?_
            refine v_getr C (t := 20) fl_X9_62 rfl rfl ht dX9_fits_53 (fun h33 => ?_)
            refine v_iload C (n := 5) rfl dX9_fits_56 ?_
            refine v_iald C h33.oa dX9_fits_58 (fun x34 => ?_)
            refine v_aload_n C (n := 1) rfl rfl dX9_fits_59 ?_
            refine v_getr C (t := 20) fl_X9_25 rfl rfl ht dX9_fits_60 (fun h35 => ?_)
            refine v_iload_n C (n := 3) rfl rfl dX9_fits_63 ?_
            refine v_iald C h35.oa dX9_fits_64 (fun x36 => ?_)
            refine v_join 75 (fun t : Int32 => [(0, .ref (ga G this)), (1, .int y1), (2, .int y2), (3, .int z30), (5, .int y12)]) (fun t : Int32 => [.int t]) (fun t : Int32 => μ) ?_ ?_
            · intro z37
              refine v_istore C (lv' := [(4, .int z37), (0, .ref (ga G this)), (1, .int y1), (2, .int y2), (3, .int z30), (5, .int y12)]) (by decide) rfl dX9_fits_75 ?_
              refine v_iinc C (n := 5) (v := y12 + 1) (lv' := [(5, .int (y12 + 1)), (4, .int z37), (0, .ref (ga G this)), (1, .int y1), (2, .int y2), (3, .int z30)]) rfl (congrArg (y12 + ·) (by decide : Int32.ofInt (1) = (1 : Int32))) (by decide) rfl dX9_fits_77 ?_
              refine v_let (y := y12 + 1) (fun x40 => [(5, .int x40), (4, .int z37), (0, .ref (ga G this)), (1, .int y1), (2, .int y2), (3, .int z30)]) (fun x40 => []) (fun x40 => ?_)
              refine v_goto C (t := 20) (by decide) dX9_fits_80 ?_
              refine v_sub (lv' := [(0, .ref (ga G this)), (1, .int y1), (2, .int y2), (3, .int z30), (4, .int z37), (5, .int x40)]) [2, 3, 4, 5, 1, 0] rfl ?_
              exact v_leaf (hX16 (z30, z37, x40))
            intro F39 hF38
            refine v_icne C (t := 73) dX9_fits_65 (by decide) ?_ ?_
            · refine v_iload C (n := 4) rfl dX9_fits_73 ?_
              refine v_sub (lv' := [(0, .ref (ga G this)), (1, .int y1), (2, .int y2), (3, .int z30), (5, .int y12)]) [1, 2, 3, 0, 5] rfl ?_
              exact v_leaf (hF38 y11)
            · refine v_iload C (n := 5) rfl dX9_fits_68 ?_
              refine v_goto C (t := 75) (by decide) dX9_fits_70 ?_
              refine v_sub (lv' := [(0, .ref (ga G this)), (1, .int y1), (2, .int y2), (3, .int z30), (5, .int y12)]) [1, 2, 3, 0, 5] rfl ?_
              exact v_leaf (hF38 y12)
          intro F32 hF31
          refine v_icne C (t := 50) dX9_fits_42 (by decide) ?_ ?_
          · refine v_iload_n C (n := 3) rfl rfl dX9_fits_50 ?_
            refine v_sub (lv' := [(0, .ref (ga G this)), (1, .int y1), (2, .int y2), (4, .int y11), (5, .int y12)]) [0, 1, 2, 4, 5] rfl ?_
            exact v_leaf (hF31 y10)
          · refine v_iload C (n := 5) rfl dX9_fits_45 ?_
            refine v_goto C (t := 51) (by decide) dX9_fits_47 ?_
            refine v_sub (lv' := [(0, .ref (ga G this)), (1, .int y1), (2, .int y2), (4, .int y11), (5, .int y12)]) [0, 1, 2, 4, 5] rfl ?_
            exact v_leaf (hF31 y12)
set_option maxRecDepth 20000 in
set_option maxHeartbeats 4000000 in
theorem s_X9_nextOrder {l : Launch} (G : GT) (Z : ZT) (hG : DA G) (hZ : WT G Z) {this : Nat} {μ : MT} {q : Int32 × MT} (ht : Ob G Z this 9) (hq : m_X9_nextOrder Z this μ = some q) : MZ l G Z yX9_nextOrder cX9_nextOrder 6 (some .boolean) 0 [.ref (ga G this)] μ (some (.int q.1)) q.2 := by
  refine v_met (J := (fun q : Int32 × MT => (some (.int q.1), q.2))) hG hZ (by decide) (Nat.le_of_ble_eq_true rfl) hq ?_
  intro x C hR _ hr
  show VK x G Z (0, 0) 6 (QM x G Z) (fun q : Int32 × MT => (some (.int q.1), q.2)) 0 [(0, .ref (ga G this))] [] μ _ some
  unfold m_X9_nextOrder
  refine v_aload_n C (n := 0) rfl rfl dX9_nextOrder_0 ?_
  refine v_geti C fl_X9_215 rfl ht dX9_nextOrder_1 ?_
  refine v_iconst C (v := 2) (by decide) dX9_nextOrder_4 ?_
  refine v_isub C dX9_nextOrder_5 ?_
  refine v_istore_n C (lv' := [(1, .int ((μ this 6) - 2)), (0, .ref (ga G this))]) rfl (by decide) rfl dX9_nextOrder_6 ?_
  refine v_let (y := ((μ this 6) - 2)) (fun x1 => [(1, .int x1), (0, .ref (ga G this))]) (fun x1 => []) (fun x1 => ?_)
  refine v_sub (lv' := [(0, .ref (ga G this)), (1, .int x1)]) [1, 0] rfl ?_
  refine v_lp 7 34 (fun t : Int32 => [(0, .ref (ga G this)), (1, .int t)]) (fun t : Int32 => μ) (fun t : Int32 => [(0, .ref (ga G this)), (1, .int t)]) (fun t : Int32 => μ) ?_ ?_ LN x1
  · intro y3
    refine v_iload_n C (n := 1) rfl rfl dX9_nextOrder_34 ?_
    refine v_ifge C (t := 40) dX9_nextOrder_35 (by decide) ?_ ?_
    · refine v_aload_n C (n := 0) rfl rfl dX9_nextOrder_40 ?_
      refine v_geti C fl_X9_215 rfl ht dX9_nextOrder_41 ?_
      refine v_iconst C (v := 1) (by decide) dX9_nextOrder_44 ?_
      refine v_isub C dX9_nextOrder_45 ?_
      refine v_istore_n C (lv' := [(2, .int ((μ this 6) - 1)), (0, .ref (ga G this)), (1, .int y3)]) rfl (by decide) rfl dX9_nextOrder_46 ?_
      refine v_let (y := ((μ this 6) - 1)) (fun x8 => [(2, .int x8), (0, .ref (ga G this)), (1, .int y3)]) (fun x8 => []) (fun x8 => ?_)
      refine v_sub (lv' := [(0, .ref (ga G this)), (1, .int y3), (2, .int x8)]) [1, 2, 0] rfl ?_
      refine v_lp 47 68 (fun t : Int32 => [(0, .ref (ga G this)), (1, .int y3), (2, .int t)]) (fun t : Int32 => μ) (fun t : Int32 => [(0, .ref (ga G this)), (1, .int y3), (2, .int t)]) (fun t : Int32 => μ) ?_ ?_ LN x8
      · intro y10
        refine v_aload_n C (n := 0) rfl rfl dX9_nextOrder_68 ?_
        refine v_getr C (t := 20) fl_X9_62 rfl rfl ht dX9_nextOrder_69 (fun h15 => ?_)
        refine v_iload_n C (n := 1) rfl rfl dX9_nextOrder_72 ?_
        refine v_iald C h15.oa dX9_nextOrder_73 (fun x16 => ?_)
        refine v_istore_n C (lv' := [(3, .int x16), (0, .ref (ga G this)), (1, .int y3), (2, .int y10)]) rfl (by decide) rfl dX9_nextOrder_74 ?_
        refine v_aload_n C (n := 1) rfl rfl dX9_nextOrder_75 ?_
        refine v_getr C (t := 20) fl_X9_62 rfl rfl ht dX9_nextOrder_76 (fun h17 => ?_)
        refine v_iload_n C (n := 2) rfl rfl dX9_nextOrder_79 ?_
        refine v_aload_n C (n := 1) rfl rfl dX9_nextOrder_80 ?_
        refine v_getr C (t := 20) fl_X9_62 rfl rfl ht dX9_nextOrder_81 (fun h18 => ?_)
        refine v_iload_n C (n := 3) rfl rfl dX9_nextOrder_84 ?_
        refine v_iald C h18.oa dX9_nextOrder_85 (fun x19 => ?_)
        refine v_iast C h17 dX9_nextOrder_86 (fun ν20 => ?_)
        refine v_aload_n C (n := 1) rfl rfl dX9_nextOrder_87 ?_
        refine v_getr C (t := 20) fl_X9_62 rfl rfl ht dX9_nextOrder_88 (fun h21 => ?_)
        refine v_iload_n C (n := 3) rfl rfl dX9_nextOrder_91 ?_
        refine v_iload_n C (n := 0) rfl rfl dX9_nextOrder_92 ?_
        refine v_iast C h21 dX9_nextOrder_93 (fun ν22 => ?_)
        refine v_iload_n C (n := 2) rfl rfl dX9_nextOrder_94 ?_
        refine v_iconst C (v := 1) (by decide) dX9_nextOrder_95 ?_
        refine v_iadd C dX9_nextOrder_96 ?_
        refine v_istore C (lv' := [(4, .int (y3 + 1)), (3, .int x16), (0, .ref (ga G this)), (1, .int y3), (2, .int y10)]) (by decide) rfl dX9_nextOrder_97 ?_
        refine v_let (y := (y3 + 1)) (fun x23 => [(4, .int x23), (3, .int x16), (0, .ref (ga G this)), (1, .int y3), (2, .int y10)]) (fun x23 => []) (fun x23 => ?_)
        refine v_aload_n C (n := 2) rfl rfl dX9_nextOrder_99 ?_
        refine v_geti C fl_X9_215 rfl ht dX9_nextOrder_100 ?_
        refine v_iconst C (v := 1) (by decide) dX9_nextOrder_103 ?_
        refine v_isub C dX9_nextOrder_104 ?_
        refine v_istore C (lv' := [(5, .int ((ν22 this 6) - 1)), (4, .int x23), (3, .int x16), (0, .ref (ga G this)), (1, .int y3), (2, .int y10)]) (by decide) rfl dX9_nextOrder_105 ?_
        refine v_let (y := ((ν22 this 6) - 1)) (fun x24 => [(5, .int x24), (4, .int x23), (3, .int x16), (0, .ref (ga G this)), (1, .int y3), (2, .int y10)]) (fun x24 => []) (fun x24 => ?_)
        refine v_sub (lv' := [(0, .ref (ga G this)), (4, .int x23), (5, .int x24)]) [3, 1, 0] rfl ?_
        refine v_lp 107 153 (fun t : Int32 × Int32 × MT => [(0, .ref (ga G this)), (4, .int (t.1)), (5, .int (t.2.1))]) (fun t : Int32 × Int32 × MT => t.2.2) (fun t : MT => []) (fun t : MT => t) ?_ ?_ LN (x23, x24, ν22)
        · intro ν28
          refine v_iconst C (v := 1) (by decide) dX9_nextOrder_153 ?_
          exact v_zret C (Or.inr rfl) hr dX9_nextOrder_154 (fun a h => by have h := Option.some.inj h; subst h; rfl)
        · intro X29 F31 hX30 hF32
          rintro ⟨y25, y26, ν27⟩
          refine v_iload C (n := 1) rfl dX9_nextOrder_107 ?_
          refine v_iload C (n := 2) rfl dX9_nextOrder_109 ?_
          refine v_icge C (t := 153) dX9_nextOrder_111 (by decide) ?_ ?_
          · refine v_sub (lv' := []) [] rfl ?_
            exact v_leaf (hF32 ν27)
          · refine v_aload_n C (n := 0) rfl rfl dX9_nextOrder_114 ?_
            refine v_getr C (t := 20) fl_X9_62 rfl rfl ht dX9_nextOrder_115 (fun h33 => ?_)
            refine v_iload C (n := 1) rfl dX9_nextOrder_118 ?_
            refine v_iald C h33.oa dX9_nextOrder_120 (fun x34 => ?_)
            refine v_istore_n C (lv' := [(3, .int x34), (0, .ref (ga G this)), (4, .int y25), (5, .int y26)]) rfl (by decide) rfl dX9_nextOrder_121 ?_
            refine v_aload_n C (n := 1) rfl rfl dX9_nextOrder_122 ?_
            refine v_getr C (t := 20) fl_X9_62 rfl rfl ht dX9_nextOrder_123 (fun h35 => ?_)
            refine v_iload C (n := 2) rfl dX9_nextOrder_126 ?_
            refine v_aload_n C (n := 1) rfl rfl dX9_nextOrder_128 ?_
            refine v_getr C (t := 20) fl_X9_62 rfl rfl ht dX9_nextOrder_129 (fun h36 => ?_)
            refine v_iload C (n := 3) rfl dX9_nextOrder_132 ?_
            refine v_iald C h36.oa dX9_nextOrder_134 (fun x37 => ?_)
            refine v_iast C h35 dX9_nextOrder_135 (fun ν38 => ?_)
            refine v_aload_n C (n := 1) rfl rfl dX9_nextOrder_136 ?_
            refine v_getr C (t := 20) fl_X9_62 rfl rfl ht dX9_nextOrder_137 (fun h39 => ?_)
            refine v_iload C (n := 3) rfl dX9_nextOrder_140 ?_
            refine v_iload_n C (n := 0) rfl rfl dX9_nextOrder_142 ?_
            refine v_iast C h39 dX9_nextOrder_143 (fun ν40 => ?_)
            refine v_iinc C (n := 2) (v := y25 + 1) (lv' := [(4, .int (y25 + 1)), (3, .int x34), (0, .ref (ga G this)), (5, .int y26)]) rfl (congrArg (y25 + ·) (by decide : Int32.ofInt (1) = (1 : Int32))) (by decide) rfl dX9_nextOrder_144 ?_
            refine v_let (y := y25 + 1) (fun x41 => [(4, .int x41), (3, .int x34), (0, .ref (ga G this)), (5, .int y26)]) (fun x41 => []) (fun x41 => ?_)
            refine v_iinc C (n := 3) (v := y26 + (-1)) (lv' := [(5, .int (y26 + (-1))), (4, .int x41), (3, .int x34), (0, .ref (ga G this))]) rfl (congrArg (y26 + ·) (by decide : Int32.ofInt (-1) = (-1 : Int32))) (by decide) rfl dX9_nextOrder_147 ?_
            refine v_let (y := y26 + (-1)) (fun x42 => [(5, .int x42), (4, .int x41), (3, .int x34), (0, .ref (ga G this))]) (fun x42 => []) (fun x42 => ?_)
            refine v_goto C (t := 107) (by decide) dX9_nextOrder_150 ?_
            refine v_sub (lv' := [(0, .ref (ga G this)), (4, .int x41), (5, .int x42)]) [3, 1, 0] rfl ?_
            exact v_leaf (hX30 (x41, x42, ν40))
      · intro X11 F13 hX12 hF14
        intro y9
        refine v_aload_n C (n := 0) rfl rfl dX9_nextOrder_47 ?_
        refine v_getr C (t := 20) fl_X9_62 rfl rfl ht dX9_nextOrder_48 (fun h43 => ?_)
        refine v_iload_n C (n := 2) rfl rfl dX9_nextOrder_51 ?_
        refine v_iald C h43.oa dX9_nextOrder_52 (fun x44 => ?_)
        refine v_aload_n C (n := 0) rfl rfl dX9_nextOrder_53 ?_
        refine v_getr C (t := 20) fl_X9_62 rfl rfl ht dX9_nextOrder_54 (fun h45 => ?_)
        refine v_iload_n C (n := 1) rfl rfl dX9_nextOrder_57 ?_
        refine v_iald C h45.oa dX9_nextOrder_58 (fun x46 => ?_)
        refine v_icge C (t := 68) dX9_nextOrder_59 (by decide) ?_ ?_
        · exact v_leaf (hF14 y9)
        · refine v_iinc C (n := 2) (v := y9 + (-1)) (lv' := [(2, .int (y9 + (-1))), (0, .ref (ga G this)), (1, .int y3)]) rfl (congrArg (y9 + ·) (by decide : Int32.ofInt (-1) = (-1 : Int32))) (by decide) rfl dX9_nextOrder_62 ?_
          refine v_let (y := y9 + (-1)) (fun x47 => [(2, .int x47), (0, .ref (ga G this)), (1, .int y3)]) (fun x47 => []) (fun x47 => ?_)
          refine v_goto C (t := 47) (by decide) dX9_nextOrder_65 ?_
          refine v_sub (lv' := [(0, .ref (ga G this)), (1, .int y3), (2, .int x47)]) [1, 2, 0] rfl ?_
          exact v_leaf (hX12 x47)
    · refine v_iconst C (v := 0) (by decide) dX9_nextOrder_38 ?_
      exact v_zret C (Or.inl rfl) hr dX9_nextOrder_39 (fun a h => by have h := Option.some.inj h; subst h; rfl)
  · intro X4 F6 hX5 hF7
    intro y2
    refine v_iload_n C (n := 1) rfl rfl dX9_nextOrder_7 ?_
    refine v_iflt C (t := 34) dX9_nextOrder_8 (by decide) ?_ ?_
    · exact v_leaf (hF7 y2)
    · refine v_aload_n C (n := 0) rfl rfl dX9_nextOrder_11 ?_
      refine v_getr C (t := 20) fl_X9_62 rfl rfl ht dX9_nextOrder_12 (fun h48 => ?_)
      refine v_iload_n C (n := 1) rfl rfl dX9_nextOrder_15 ?_
      refine v_iald C h48.oa dX9_nextOrder_16 (fun x49 => ?_)
      refine v_aload_n C (n := 0) rfl rfl dX9_nextOrder_17 ?_
      refine v_getr C (t := 20) fl_X9_62 rfl rfl ht dX9_nextOrder_18 (fun h50 => ?_)
      refine v_iload_n C (n := 1) rfl rfl dX9_nextOrder_21 ?_
      refine v_iconst C (v := 1) (by decide) dX9_nextOrder_22 ?_
      refine v_iadd C dX9_nextOrder_23 ?_
      refine v_iald C h50.oa dX9_nextOrder_24 (fun x51 => ?_)
      refine v_icle C (t := 34) dX9_nextOrder_25 (by decide) ?_ ?_
      · exact v_leaf (hF7 y2)
      · refine v_iinc C (n := 1) (v := y2 + (-1)) (lv' := [(1, .int (y2 + (-1))), (0, .ref (ga G this))]) rfl (congrArg (y2 + ·) (by decide : Int32.ofInt (-1) = (-1 : Int32))) (by decide) rfl dX9_nextOrder_28 ?_
        refine v_let (y := y2 + (-1)) (fun x52 => [(1, .int x52), (0, .ref (ga G this))]) (fun x52 => []) (fun x52 => ?_)
        refine v_goto C (t := 7) (by decide) dX9_nextOrder_31 ?_
        refine v_sub (lv' := [(0, .ref (ga G this)), (1, .int x52)]) [1, 0] rfl ?_
        exact v_leaf (hX5 x52)
set_option maxRecDepth 20000 in
set_option maxHeartbeats 4000000 in
theorem s_X9_flame {l : Launch} (G : GT) (Z : ZT) (hG : DA G) (hZ : WT G Z) {this : Nat} {a0 : Int32} {a1 : Int32} {μ : MT} {q : MT} (ht : Ob G Z this 9) (hq : m_X9_flame Z this a0 a1 μ = some q) : MZ l G Z yX9_flame cX9_flame 4 none 0 [.ref (ga G this), .int a0, .int a1] μ none q := by
  refine v_met (J := (fun ν : MT => ((none : Option Value), ν))) hG hZ (by decide) (Nat.le_of_ble_eq_true rfl) hq ?_
  intro x C hR _ hr
  show VK x G Z (0, 0) 4 (QM x G Z) (fun ν : MT => ((none : Option Value), ν)) 0 [(0, .ref (ga G this)), (1, .int a0), (2, .int a1)] [] μ _ some
  unfold m_X9_flame
  refine v_aload_n C (n := 0) rfl rfl dX9_flame_0 ?_
  refine v_getr C (t := 20) fl_X9_46 rfl rfl ht dX9_flame_1 (fun h1 => ?_)
  refine v_bipush C (v := 24) (by decide) dX9_flame_4 ?_
  refine v_iload_n C (n := 1) rfl rfl dX9_flame_6 ?_
  refine v_iadd C dX9_flame_7 ?_
  refine v_iald C h1.oa dX9_flame_8 (fun x2 => ?_)
  refine v_istore_n C (lv' := [(3, .int x2), (0, .ref (ga G this)), (1, .int a0), (2, .int a1)]) rfl (by decide) rfl dX9_flame_9 ?_
  refine v_aload_n C (n := 1) rfl rfl dX9_flame_10 ?_
  refine v_getr C (t := 20) fl_X9_46 rfl rfl ht dX9_flame_11 (fun h3 => ?_)
  refine v_bipush C (v := 24) (by decide) dX9_flame_14 ?_
  refine v_iload_n C (n := 2) rfl rfl dX9_flame_16 ?_
  refine v_iadd C dX9_flame_17 ?_
  refine v_iload_n C (n := 0) rfl rfl dX9_flame_18 ?_
  refine v_iload_n C (n := 3) rfl rfl dX9_flame_19 ?_
  refine v_join 42 (fun t : Int32 => [(0, .ref (ga G this)), (1, .int a0)]) (fun t : Int32 => [.int t, .int (24 + a0), .ref (ga G (zr Z this 32))]) (fun t : Int32 => μ) ?_ ?_
  · intro z4
    refine v_iast C h3 dX9_flame_42 (fun ν7 => ?_)
    refine v_iload_n C (n := 1) rfl rfl dX9_flame_43 ?_
    refine v_join 62 (fun t : MT => [(0, .ref (ga G this)), (1, .int a0)]) (fun t : MT => []) (fun t : MT => t) ?_ ?_
    · intro ν8
      refine v_iload_n C (n := 1) rfl rfl dX9_flame_62 ?_
      refine v_aload_n C (n := 0) rfl rfl dX9_flame_63 ?_
      refine v_geti C fl_X9_212 rfl ht dX9_flame_64 ?_
      refine v_iconst C (v := 1) (by decide) dX9_flame_67 ?_
      refine v_isub C dX9_flame_68 ?_
      refine v_icge C (t := 87) dX9_flame_69 (by decide) ?_ ?_
      · exact v_vret C hr dX9_flame_87 (fun a h => by have h := Option.some.inj h; subst h; rfl)
      · refine v_aload_n C (n := 0) rfl rfl dX9_flame_72 ?_
        refine v_getr C (t := 20) fl_X9_46 rfl rfl ht dX9_flame_73 (fun h11 => ?_)
        refine v_bipush C (v := 24) (by decide) dX9_flame_76 ?_
        refine v_iload_n C (n := 1) rfl rfl dX9_flame_78 ?_
        refine v_iadd C dX9_flame_79 ?_
        refine v_iconst C (v := 1) (by decide) dX9_flame_80 ?_
        refine v_iadd C dX9_flame_81 ?_
        refine v_dup2 C rfl rfl dX9_flame_82 ?_
        refine v_iald C h11.oa dX9_flame_83 (fun x12 => ?_)
        refine v_iconst C (v := 1) (by decide) dX9_flame_84 ?_
        refine v_iadd C dX9_flame_85 ?_
        refine v_iast C h11 dX9_flame_86 (fun ν13 => ?_)
        exact v_vret C hr dX9_flame_87 (fun a h => by have h := Option.some.inj h; subst h; rfl)
    intro F10 hF9
    refine v_ifle C (t := 62) dX9_flame_44 (by decide) ?_ ?_
    · exact v_leaf (hF9 ν7)
    · refine v_aload_n C (n := 0) rfl rfl dX9_flame_47 ?_
      refine v_getr C (t := 20) fl_X9_46 rfl rfl ht dX9_flame_48 (fun h14 => ?_)
      refine v_bipush C (v := 24) (by decide) dX9_flame_51 ?_
      refine v_iload_n C (n := 1) rfl rfl dX9_flame_53 ?_
      refine v_iadd C dX9_flame_54 ?_
      refine v_iconst C (v := 1) (by decide) dX9_flame_55 ?_
      refine v_isub C dX9_flame_56 ?_
      refine v_dup2 C rfl rfl dX9_flame_57 ?_
      refine v_iald C h14.oa dX9_flame_58 (fun x15 => ?_)
      refine v_iconst C (v := 1) (by decide) dX9_flame_59 ?_
      refine v_iadd C dX9_flame_60 ?_
      refine v_iast C h14 dX9_flame_61 (fun ν16 => ?_)
      exact v_leaf (hF9 ν16)
  intro F6 hF5
  refine v_icle C (t := 29) dX9_flame_20 (by decide) ?_ ?_
  · refine v_iload_n C (n := 0) rfl rfl dX9_flame_29 ?_
    refine v_iload_n C (n := 3) rfl rfl dX9_flame_30 ?_
    refine v_ineg C dX9_flame_31 ?_
    refine v_icge C (t := 41) dX9_flame_32 (by decide) ?_ ?_
    · refine v_iconst C (v := 0) (by decide) dX9_flame_41 ?_
      refine v_sub (lv' := [(0, .ref (ga G this)), (1, .int a0)]) [1, 2] rfl ?_
      exact v_leaf (hF5 0)
    · refine v_iload_n C (n := 0) rfl rfl dX9_flame_35 ?_
      refine v_iload_n C (n := 3) rfl rfl dX9_flame_36 ?_
      refine v_iadd C dX9_flame_37 ?_
      refine v_goto C (t := 42) (by decide) dX9_flame_38 ?_
      refine v_sub (lv' := [(0, .ref (ga G this)), (1, .int a0)]) [1, 2] rfl ?_
      exact v_leaf (hF5 (x2 + a1))
  · refine v_iload_n C (n := 0) rfl rfl dX9_flame_23 ?_
    refine v_iload_n C (n := 3) rfl rfl dX9_flame_24 ?_
    refine v_isub C dX9_flame_25 ?_
    refine v_goto C (t := 42) (by decide) dX9_flame_26 ?_
    refine v_sub (lv' := [(0, .ref (ga G this)), (1, .int a0)]) [1, 2] rfl ?_
    exact v_leaf (hF5 (x2 - a1))
