set_option maxRecDepth 20000 in
set_option maxHeartbeats 4000000 in
theorem s_X6_howMany {l : Launch} (G : GT) (Z : ZT) (hG : DA G) (hZ : WT G Z) {this : Nat} {μ : MT} {q : Int32} (ht : Ob G Z this 6) (hq : m_X6_howMany Z this μ = some q) : MZ l G Z yX6_howMany cX6_howMany 3 (some .int) 0 [.ref (ga G this)] μ (some (.int q)) μ := by
  refine v_met (J := (fun r : Int32 => (some (.int r), μ))) hG hZ (by decide) (Nat.le_of_ble_eq_true rfl) hq ?_
  intro x C hR _ hr
  show VK x G Z (0, 0) 3 (QM x G Z) (fun r : Int32 => (some (.int r), μ)) 0 [(0, .ref (ga G this))] [] μ _ some
  unfold m_X6_howMany
  refine v_iconst C (v := 0) (by decide) dX6_howMany_0 ?_
  refine v_istore_n C (lv' := [(1, .int 0), (0, .ref (ga G this))]) rfl (by decide) rfl dX6_howMany_1 ?_
  refine v_iconst C (v := 0) (by decide) dX6_howMany_2 ?_
  refine v_istore_n C (lv' := [(2, .int 0), (1, .int 0), (0, .ref (ga G this))]) rfl (by decide) rfl dX6_howMany_3 ?_
  refine v_sub (lv' := [(0, .ref (ga G this)), (1, .int 0), (2, .int 0)]) [2, 1, 0] rfl ?_
  refine v_lp 4 29 (fun t : Int32 × Int32 => [(0, .ref (ga G this)), (1, .int (t.1)), (2, .int (t.2))]) (fun t : Int32 × Int32 => μ) (fun t : Int32 => [(1, .int t)]) (fun t : Int32 => μ) ?_ ?_ LN (0, 0)
  · intro y3
    refine v_iload_n C (n := 0) rfl rfl dX6_howMany_29 ?_
    exact v_iret C hr dX6_howMany_30 (fun a h => by have h := Option.some.inj h; subst h; rfl)
  · intro X4 F6 hX5 hF7
    rintro ⟨y1, y2⟩
    refine v_iload_n C (n := 2) rfl rfl dX6_howMany_4 ?_
    refine v_bipush C (v := 8) (by decide) dX6_howMany_5 ?_
    refine v_icge C (t := 29) dX6_howMany_7 (by decide) ?_ ?_
    · refine v_sub (lv' := [(1, .int y1)]) [1] rfl ?_
      exact v_leaf (hF7 y1)
    · refine v_aload_n C (n := 0) rfl rfl dX6_howMany_10 ?_
      refine v_getr C (t := 20) fl_X6_15 rfl rfl ht dX6_howMany_11 (fun h8 => ?_)
      refine v_iload_n C (n := 2) rfl rfl dX6_howMany_14 ?_
      refine v_iald C h8.oa dX6_howMany_15 (fun x9 => ?_)
      refine v_iconst C (v := (-1)) (by decide) dX6_howMany_16 ?_
      refine v_join 23 (fun t : Int32 => [(0, .ref (ga G this)), (1, .int t), (2, .int y2)]) (fun t : Int32 => []) (fun t : Int32 => μ) ?_ ?_
      · intro y10
        refine v_iinc C (n := 2) (v := y2 + 1) (lv' := [(2, .int (y2 + 1)), (0, .ref (ga G this)), (1, .int y10)]) rfl (congrArg (y2 + ·) (by decide : Int32.ofInt (1) = (1 : Int32))) (by decide) rfl dX6_howMany_23 ?_
        refine v_let (y := y2 + 1) (fun x13 => [(2, .int x13), (0, .ref (ga G this)), (1, .int y10)]) (fun x13 => []) (fun x13 => ?_)
        refine v_goto C (t := 4) (by decide) dX6_howMany_26 ?_
        refine v_sub (lv' := [(0, .ref (ga G this)), (1, .int y10), (2, .int x13)]) [1, 2, 0] rfl ?_
        exact v_leaf (hX5 (y10, x13))
      intro F12 hF11
      refine v_iceq C (t := 23) dX6_howMany_17 (by decide) ?_ ?_
      · exact v_leaf (hF11 y1)
      · refine v_iinc C (n := 1) (v := y1 + 1) (lv' := [(1, .int (y1 + 1)), (0, .ref (ga G this)), (2, .int y2)]) rfl (congrArg (y1 + ·) (by decide : Int32.ofInt (1) = (1 : Int32))) (by decide) rfl dX6_howMany_20 ?_
        refine v_let (y := y1 + 1) (fun x14 => [(1, .int x14), (0, .ref (ga G this)), (2, .int y2)]) (fun x14 => []) (fun x14 => ?_)
        refine v_sub (lv' := [(0, .ref (ga G this)), (1, .int x14), (2, .int y2)]) [1, 0, 2] rfl ?_
        exact v_leaf (hF11 x14)
set_option maxRecDepth 20000 in
set_option maxHeartbeats 4000000 in
theorem s_X6_takeAway {l : Launch} (G : GT) (Z : ZT) (hG : DA G) (hZ : WT G Z) {this : Nat} {a0 : Int32} {μ : MT} {q : Int32 × MT} (ht : Ob G Z this 6) (hq : m_X6_takeAway Z this a0 μ = some q) : MZ l G Z yX6_takeAway cX6_takeAway 3 (some .int) 0 [.ref (ga G this), .int a0] μ (some (.int q.1)) q.2 := by
  refine v_met (J := (fun q : Int32 × MT => (some (.int q.1), q.2))) hG hZ (by decide) (Nat.le_of_ble_eq_true rfl) hq ?_
  intro x C hR _ hr
  show VK x G Z (0, 0) 3 (QM x G Z) (fun q : Int32 × MT => (some (.int q.1), q.2)) 0 [(0, .ref (ga G this)), (1, .int a0)] [] μ _ some
  unfold m_X6_takeAway
  refine v_aload_n C (n := 0) rfl rfl dX6_takeAway_0 ?_
  refine v_getr C (t := 20) fl_X6_15 rfl rfl ht dX6_takeAway_1 (fun h1 => ?_)
  refine v_iload_n C (n := 1) rfl rfl dX6_takeAway_4 ?_
  refine v_iald C h1.oa dX6_takeAway_5 (fun x2 => ?_)
  refine v_istore_n C (lv' := [(2, .int x2), (0, .ref (ga G this)), (1, .int a0)]) rfl (by decide) rfl dX6_takeAway_6 ?_
  refine v_aload_n C (n := 1) rfl rfl dX6_takeAway_7 ?_
  refine v_getr C (t := 20) fl_X6_15 rfl rfl ht dX6_takeAway_8 (fun h3 => ?_)
  refine v_iload_n C (n := 2) rfl rfl dX6_takeAway_11 ?_
  refine v_iconst C (v := (-1)) (by decide) dX6_takeAway_12 ?_
  refine v_iast C h3 dX6_takeAway_13 (fun ν4 => ?_)
  refine v_iload_n C (n := 0) rfl rfl dX6_takeAway_14 ?_
  exact v_iret C hr dX6_takeAway_15 (fun a h => by have h := Option.some.inj h; subst h; rfl)
set_option maxRecDepth 20000 in
set_option maxHeartbeats 4000000 in
theorem s_X6_narrowed {l : Launch} (G : GT) (Z : ZT) (hG : DA G) (hZ : WT G Z) {a0 : Int32} {a1 : Int32} {μ : MT} {q : Int32}  (hq : m_X6_narrowed Z a0 a1 μ = some q) : MZ l G Z yX6_narrowed cX6_narrowed 2 (some .int) 0 [.int a0, .int a1] μ (some (.int q)) μ := by
  refine v_met (J := (fun r : Int32 => (some (.int r), μ))) hG hZ (by decide) (Nat.le_of_ble_eq_true rfl) hq ?_
  intro x C hR _ hr
  show VK x G Z (0, 0) 2 (QM x G Z) (fun r : Int32 => (some (.int r), μ)) 0 [(0, .int a0), (1, .int a1)] [] μ _ some
  unfold m_X6_narrowed
  refine v_iload_n C (n := 0) rfl rfl dX6_narrowed_0 ?_
  refine v_case (fun c1 => ?_) (fun c1 => ?_)
  · refine v_look C (t := 28) (off := 27) dX6_narrowed_1 (by decide) (by rw [c1]; decide) (by decide) ?_
    refine v_iload_n C (n := 1) rfl rfl dX6_narrowed_28 ?_
    refine v_i2b C (v := (a1 : Int32).toInt8.toInt32) rfl dX6_narrowed_29 ?_
    exact v_iret C hr dX6_narrowed_30 (fun a h => by have h := Option.some.inj h; subst h; rfl)
  refine v_case (fun c2 => ?_) (fun c2 => ?_)
  · refine v_look C (t := 31) (off := 30) dX6_narrowed_1 (by decide) (by rw [c2]; decide) (by decide) ?_
    refine v_iload_n C (n := 1) rfl rfl dX6_narrowed_31 ?_
    refine v_i2s C (v := (a1 : Int32).toInt16.toInt32) rfl dX6_narrowed_32 ?_
    exact v_iret C hr dX6_narrowed_33 (fun a h => by have h := Option.some.inj h; subst h; rfl)
  refine v_look C (t := 34) (off := 33) dX6_narrowed_1 (by decide) (by show Op.lookupswitch.offset [(0, 27), (1, 30)] _ _ = _; rw [lv_osw (k := 0) c1 (by decide), lv_osw (k := 1) c2 (by decide)]; rfl) (by decide) ?_
  refine v_iload_n C (n := 1) rfl rfl dX6_narrowed_34 ?_
  exact v_iret C hr dX6_narrowed_35 (fun a h => by have h := Option.some.inj h; subst h; rfl)
set_option maxRecDepth 20000 in
set_option maxHeartbeats 4000000 in
theorem s_X6_carry {l : Launch} (G : GT) (Z : ZT) (hG : DA G) (hZ : WT G Z) {this : Nat} {a0 : Int32} {a1 : Int32} {a2 : Int32} {a3 : Int32} {a4 : Int32} {μ : MT} {q : MT} (ht : Ob G Z this 6) (hq : m_X6_carry Z this a0 a1 a2 a3 a4 μ = some q) : MZ l G Z yX6_carry cX6_carry 6 none 1 [.ref (ga G this), .int a0, .int a1, .int a2, .int a3, .int a4] μ none q := by
  refine v_met (J := (fun ν : MT => ((none : Option Value), ν))) hG hZ (by decide) (Nat.le_of_ble_eq_true rfl) hq ?_
  intro x C hR _ hr
  show VK x G Z (0, 0) 6 (QM x G Z) (fun ν : MT => ((none : Option Value), ν)) 0 [(0, .ref (ga G this)), (1, .int a0), (2, .int a1), (3, .int a2), (4, .int a3), (5, .int a4)] [] μ _ some
  unfold m_X6_carry
  refine v_aload_n C (n := 0) rfl rfl dX6_carry_0 ?_
  refine v_getr C (t := 23) fl_X6_20 rfl rfl ht dX6_carry_1 (fun h1 => ?_)
  refine v_iload_n C (n := 1) rfl rfl dX6_carry_4 ?_
  refine v_aaldI C h1 dX6_carry_5 (fun q2 h3 => ?_)
  refine v_iload_n C (n := 2) rfl rfl dX6_carry_6 ?_
  refine v_aload_n C (n := 0) rfl rfl dX6_carry_7 ?_
  refine v_getr C (t := 23) fl_X6_20 rfl rfl ht dX6_carry_8 (fun h4 => ?_)
  refine v_iload_n C (n := 3) rfl rfl dX6_carry_11 ?_
  refine v_aaldI C h4 dX6_carry_12 (fun q5 h6 => ?_)
  refine v_iload C (n := 4) rfl dX6_carry_13 ?_
  refine v_iload C (n := 5) rfl dX6_carry_15 ?_
  refine v_copy C (hR.le (by omega)) cy_X6_37 h3.oa h6 (Nat.le_of_ble_eq_true rfl) dX6_carry_17 (fun ν7 => ?_)
  exact v_vret C hr dX6_carry_20 (fun a h => by have h := Option.some.inj h; subst h; rfl)
set_option maxRecDepth 20000 in
set_option maxHeartbeats 4000000 in
theorem s_X7_hasRoom {l : Launch} (G : GT) (Z : ZT) (hG : DA G) (hZ : WT G Z) {this : Nat} {a0 : Int32} {μ : MT} {q : Int32} (ht : Ob G Z this 7) (hq : m_X7_hasRoom Z this a0 μ = some q) : MZ l G Z yX7_hasRoom cX7_hasRoom 2 (some .boolean) 0 [.ref (ga G this), .int a0] μ (some (.int q)) μ := by
  refine v_met (J := (fun r : Int32 => (some (.int r), μ))) hG hZ (by decide) (Nat.le_of_ble_eq_true rfl) hq ?_
  intro x C hR _ hr
  show VK x G Z (0, 0) 2 (QM x G Z) (fun r : Int32 => (some (.int r), μ)) 0 [(0, .ref (ga G this)), (1, .int a0)] [] μ _ some
  unfold m_X7_hasRoom
  refine v_iload_n C (n := 1) rfl rfl dX7_hasRoom_0 ?_
  refine v_sipush C (v := 500) (by decide) dX7_hasRoom_1 ?_
  refine v_aload_n C (n := 0) rfl rfl dX7_hasRoom_4 ?_
  refine v_geti C fl_X7_15 rfl ht dX7_hasRoom_5 ?_
  refine v_isub C dX7_hasRoom_8 ?_
  refine v_icgt C (t := 16) dX7_hasRoom_9 (by decide) ?_ ?_
  · refine v_iconst C (v := 0) (by decide) dX7_hasRoom_16 ?_
    exact v_zret C (Or.inl rfl) hr dX7_hasRoom_17 (fun a h => by have h := Option.some.inj h; subst h; rfl)
  · refine v_iconst C (v := 1) (by decide) dX7_hasRoom_12 ?_
    refine v_goto C (t := 17) (by decide) dX7_hasRoom_13 ?_
    exact v_zret C (Or.inr rfl) hr dX7_hasRoom_17 (fun a h => by have h := Option.some.inj h; subst h; rfl)
set_option maxRecDepth 20000 in
set_option maxHeartbeats 4000000 in
theorem s_X7_append {l : Launch} (G : GT) (Z : ZT) (hG : DA G) (hZ : WT G Z) {this : Nat} {a0 : Int64} {a1 : Int32} {μ : MT} {q : Int32 × MT} (ht : Ob G Z this 7) (hq : m_X7_append Z this a0 a1 μ = some q) : MZ l G Z yX7_append cX7_append 5 (some .int) 0 [.ref (ga G this), .long a0, .int a1] μ (some (.int q.1)) q.2 := by
  refine v_met (J := (fun q : Int32 × MT => (some (.int q.1), q.2))) hG hZ (by decide) (Nat.le_of_ble_eq_true rfl) hq ?_
  intro x C hR _ hr
  show VK x G Z (0, 0) 5 (QM x G Z) (fun q : Int32 × MT => (some (.int q.1), q.2)) 0 [(0, .ref (ga G this)), (1, .long a0), (3, .int a1)] [] μ _ some
  unfold m_X7_append
  refine v_iload_n C (n := 2) rfl rfl dX7_append_0 ?_
  refine v_iconst C (v := 1) (by decide) dX7_append_1 ?_
  refine v_isub C dX7_append_2 ?_
  refine v_istore C (lv' := [(4, .int (a1 - 1)), (0, .ref (ga G this)), (1, .long a0), (3, .int a1)]) (by decide) rfl dX7_append_3 ?_
  refine v_let (y := (a1 - 1)) (fun x1 => [(4, .int x1), (0, .ref (ga G this)), (1, .long a0), (3, .int a1)]) (fun x1 => []) (fun x1 => ?_)
  refine v_sub (lv' := [(0, .ref (ga G this)), (1, .long a0), (4, .int x1)]) [1, 2, 0] rfl ?_
  refine v_lp 5 54 (fun t : Int32 × MT => [(0, .ref (ga G this)), (1, .long a0), (4, .int (t.1))]) (fun t : Int32 × MT => t.2) (fun t : MT => [(0, .ref (ga G this))]) (fun t : MT => t) ?_ ?_ LN (x1, μ)
  · intro ν4
    refine v_aload_n C (n := 0) rfl rfl dX7_append_54 ?_
    refine v_geti C fl_X7_15 rfl ht dX7_append_55 ?_
    exact v_iret C hr dX7_append_58 (fun a h => by have h := Option.some.inj h; subst h; rfl)
  · intro X5 F7 hX6 hF8
    rintro ⟨y2, ν3⟩
    refine v_iload C (n := 2) rfl dX7_append_5 ?_
    refine v_iflt C (t := 54) dX7_append_7 (by decide) ?_ ?_
    · refine v_sub (lv' := [(0, .ref (ga G this))]) [0] rfl ?_
      exact v_leaf (hF8 ν3)
    · refine v_aload_n C (n := 0) rfl rfl dX7_append_10 ?_
      refine v_geti C fl_X7_15 rfl ht dX7_append_11 ?_
      refine v_sipush C (v := 500) (by decide) dX7_append_14 ?_
      refine v_icge C (t := 54) dX7_append_17 (by decide) ?_ ?_
      · refine v_sub (lv' := [(0, .ref (ga G this))]) [0] rfl ?_
        exact v_leaf (hF8 ν3)
      · refine v_aload_n C (n := 0) rfl rfl dX7_append_20 ?_
        refine v_getr C (t := 21) fl_X7_9 rfl rfl ht dX7_append_21 (fun h9 => ?_)
        refine v_aload_n C (n := 0) rfl rfl dX7_append_24 ?_
        refine v_geti C fl_X7_15 rfl ht dX7_append_25 ?_
        refine v_lload_n C (n := 1) rfl rfl dX7_append_28 ?_
        refine v_bipush C (v := 8) (by decide) dX7_append_29 ?_
        refine v_iload C (n := 2) rfl dX7_append_31 ?_
        refine v_imul C dX7_append_33 ?_
        refine v_lshr C (v := a0 >>> ((8 * y2 : Int32).toInt64 &&& 63)) rfl dX7_append_34 ?_
        refine v_l2i C (v := (a0 >>> ((8 * y2 : Int32).toInt64 &&& 63) : Int64).toInt32) rfl dX7_append_35 ?_
        refine v_i2b C (v := ((a0 >>> ((8 * y2 : Int32).toInt64 &&& 63) : Int64).toInt32 : Int32).toInt8.toInt32) rfl dX7_append_36 ?_
        refine v_bast C h9 dX7_append_37 (fun ν10 => ?_)
        refine v_aload_n C (n := 0) rfl rfl dX7_append_38 ?_
        refine v_dup C rfl dX7_append_39 ?_
        refine v_geti C fl_X7_15 rfl ht dX7_append_40 ?_
        refine v_iconst C (v := 1) (by decide) dX7_append_43 ?_
        refine v_iadd C dX7_append_44 ?_
        refine v_puti C fp_X7_15 rfl rfl ht dX7_append_45 (fun ν11 => ?_)
        refine v_iinc C (n := 2) (v := y2 + (-1)) (lv' := [(4, .int (y2 + (-1))), (0, .ref (ga G this)), (1, .long a0)]) rfl (congrArg (y2 + ·) (by decide : Int32.ofInt (-1) = (-1 : Int32))) (by decide) rfl dX7_append_48 ?_
        refine v_let (y := y2 + (-1)) (fun x12 => [(4, .int x12), (0, .ref (ga G this)), (1, .long a0)]) (fun x12 => []) (fun x12 => ?_)
        refine v_goto C (t := 5) (by decide) dX7_append_51 ?_
        refine v_sub (lv' := [(0, .ref (ga G this)), (1, .long a0), (4, .int x12)]) [1, 2, 0] rfl ?_
        exact v_leaf (hX6 (x12, ν11))
set_option maxRecDepth 20000 in
set_option maxHeartbeats 4000000 in
theorem s_X7_empty {l : Launch} (G : GT) (Z : ZT) (hG : DA G) (hZ : WT G Z) {this : Nat} {μ : MT} {q : MT} (ht : Ob G Z this 7) (hq : m_X7_empty Z this μ = some q) : MZ l G Z yX7_empty cX7_empty 1 none 0 [.ref (ga G this)] μ none q := by
  refine v_met (J := (fun ν : MT => ((none : Option Value), ν))) hG hZ (by decide) (Nat.le_of_ble_eq_true rfl) hq ?_
  intro x C hR _ hr
  show VK x G Z (0, 0) 1 (QM x G Z) (fun ν : MT => ((none : Option Value), ν)) 0 [(0, .ref (ga G this))] [] μ _ some
  unfold m_X7_empty
  refine v_aload_n C (n := 0) rfl rfl dX7_empty_0 ?_
  refine v_iconst C (v := 0) (by decide) dX7_empty_1 ?_
  refine v_puti C fp_X7_15 rfl rfl ht dX7_empty_2 (fun ν1 => ?_)
  exact v_vret C hr dX7_empty_5 (fun a h => by have h := Option.some.inj h; subst h; rfl)
set_option maxRecDepth 20000 in
set_option maxHeartbeats 4000000 in
theorem s_X7_tokenPlace {l : Launch} (G : GT) (Z : ZT) (hG : DA G) (hZ : WT G Z) {this : Nat} {μ : MT} {q : Int32} (ht : Ob G Z this 7) (hq : m_X7_tokenPlace Z this μ = some q) : MZ l G Z yX7_tokenPlace cX7_tokenPlace 1 (some .int) 0 [.ref (ga G this)] μ (some (.int q)) μ := by
  refine v_met (J := (fun r : Int32 => (some (.int r), μ))) hG hZ (by decide) (Nat.le_of_ble_eq_true rfl) hq ?_
  intro x C hR _ hr
  show VK x G Z (0, 0) 1 (QM x G Z) (fun r : Int32 => (some (.int r), μ)) 0 [(0, .ref (ga G this))] [] μ _ some
  unfold m_X7_tokenPlace
  refine v_aload_n C (n := 0) rfl rfl dX7_tokenPlace_0 ?_
  refine v_geti C fl_X7_19 rfl ht dX7_tokenPlace_1 ?_
  exact v_iret C hr dX7_tokenPlace_4 (fun a h => by have h := Option.some.inj h; subst h; rfl)
set_option maxRecDepth 20000 in
set_option maxHeartbeats 4000000 in
theorem s_X7_sortOf {l : Launch} (G : GT) (Z : ZT) (hG : DA G) (hZ : WT G Z) {a0 : Int32} {μ : MT} {q : Int32}  (hq : m_X7_sortOf Z a0 μ = some q) : MZ l G Z yX7_sortOf cX7_sortOf 1 (some .int) 0 [.int a0] μ (some (.int q)) μ := by
  refine v_met (J := (fun r : Int32 => (some (.int r), μ))) hG hZ (by decide) (Nat.le_of_ble_eq_true rfl) hq ?_
  intro x C hR _ hr
  show VK x G Z (0, 0) 1 (QM x G Z) (fun r : Int32 => (some (.int r), μ)) 0 [(0, .int a0)] [] μ _ some
  unfold m_X7_sortOf
  refine v_iload_n C (n := 0) rfl rfl dX7_sortOf_0 ?_
  refine v_bipush C (v := 97) (by decide) dX7_sortOf_1 ?_
  refine v_joinm 14 (fun t : Unit => [(0, .int a0)]) (fun t : Unit => []) (fun t : Unit => μ) ?_ ?_
  · rintro ⟨⟩
    refine v_iload_n C (n := 0) rfl rfl dX7_sortOf_14 ?_
    refine v_bipush C (v := 48) (by decide) dX7_sortOf_15 ?_
    refine v_joinm 28 (fun t : Unit => [(0, .int a0)]) (fun t : Unit => []) (fun t : Unit => μ) ?_ ?_
    · rintro ⟨⟩
      refine v_iload_n C (n := 0) rfl rfl dX7_sortOf_28 ?_
      refine v_bipush C (v := 59) (by decide) dX7_sortOf_29 ?_
      refine v_icne C (t := 38) dX7_sortOf_31 (by decide) ?_ ?_
      · refine v_iconst C (v := 4) (by decide) dX7_sortOf_38 ?_
        exact v_iret C hr dX7_sortOf_39 (fun a h => by have h := Option.some.inj h; subst h; rfl)
      · refine v_iconst C (v := 3) (by decide) dX7_sortOf_34 ?_
        refine v_goto C (t := 39) (by decide) dX7_sortOf_35 ?_
        exact v_iret C hr dX7_sortOf_39 (fun a h => by have h := Option.some.inj h; subst h; rfl)
    intro F5 e6 hF4
    refine v_iclt C (t := 28) dX7_sortOf_17 (by decide) ?_ ?_
    · exact v_leaf (hF4 ())
    · refine v_iload_n C (n := 0) rfl rfl dX7_sortOf_20 ?_
      refine v_bipush C (v := 57) (by decide) dX7_sortOf_21 ?_
      refine v_icgt C (t := 28) dX7_sortOf_23 (by decide) ?_ ?_
      · exact v_leaf (hF4 ())
      · refine v_iconst C (v := 2) (by decide) dX7_sortOf_26 ?_
        exact v_iret C hr dX7_sortOf_27 (fun a h => by simp only [ob_s, lq, e6] at h; have h := Option.some.inj h; subst h; rfl)
  intro F2 e3 hF1
  refine v_iclt C (t := 14) dX7_sortOf_3 (by decide) ?_ ?_
  · exact v_leaf (hF1 ())
  · refine v_iload_n C (n := 0) rfl rfl dX7_sortOf_6 ?_
    refine v_bipush C (v := 122) (by decide) dX7_sortOf_7 ?_
    refine v_icgt C (t := 14) dX7_sortOf_9 (by decide) ?_ ?_
    · exact v_leaf (hF1 ())
    · refine v_iconst C (v := 1) (by decide) dX7_sortOf_12 ?_
      exact v_iret C hr dX7_sortOf_13 (fun a h => by simp only [ob_s, lq, e3] at h; have h := Option.some.inj h; subst h; rfl)
set_option maxRecDepth 20000 in
set_option maxHeartbeats 4000000 in
theorem s_X7_spelling {l : Launch} (G : GT) (Z : ZT) (hG : DA G) (hZ : WT G Z) {a0 : Int32} {μ : MT} {q : Nat}  (hq : m_X7_spelling Z a0 μ = some q) : MZ l G Z yX7_spelling cX7_spelling 1 (Option.some (.object "java/lang/String")) 0 [.int a0] μ (some (.ref (ga G q))) μ := by
  refine v_met (J := (fun r : Nat => (some (.ref (ga G r)), μ))) hG hZ (by decide) (Nat.le_of_ble_eq_true rfl) hq ?_
  intro x C hR _ hr
  show VK x G Z (0, 0) 1 (QM x G Z) (fun r : Nat => (some (.ref (ga G r)), μ)) 0 [(0, .int a0)] [] μ _ some
  unfold m_X7_spelling
  refine v_iload_n C (n := 0) rfl rfl dX7_spelling_0 ?_
  refine v_case (fun c1 => ?_) (fun c1 => ?_)
  · refine v_tin C (t := 68) (k := 0) c1 dX7_spelling_1 (by decide) (by decide) rfl (by decide) ?_
    refine v_lds C (i := 0) (by decide) rfl dX7_spelling_68 ?_
    exact v_aret C hr dX7_spelling_70 (fun a h => by have h := Option.some.inj h; subst h; rfl)
  refine v_case (fun c2 => ?_) (fun c2 => ?_)
  · refine v_tin C (t := 71) (k := 1) c2 dX7_spelling_1 (by decide) (by decide) rfl (by decide) ?_
    refine v_lds C (i := 1) (by decide) rfl dX7_spelling_71 ?_
    exact v_aret C hr dX7_spelling_73 (fun a h => by have h := Option.some.inj h; subst h; rfl)
  refine v_case (fun c3 => ?_) (fun c3 => ?_)
  · refine v_tin C (t := 74) (k := 2) c3 dX7_spelling_1 (by decide) (by decide) rfl (by decide) ?_
    refine v_lds C (i := 2) (by decide) rfl dX7_spelling_74 ?_
    exact v_aret C hr dX7_spelling_76 (fun a h => by have h := Option.some.inj h; subst h; rfl)
  refine v_case (fun c4 => ?_) (fun c4 => ?_)
  · refine v_tin C (t := 77) (k := 3) c4 dX7_spelling_1 (by decide) (by decide) rfl (by decide) ?_
    refine v_lds C (i := 3) (by decide) rfl dX7_spelling_77 ?_
    exact v_aret C hr dX7_spelling_79 (fun a h => by have h := Option.some.inj h; subst h; rfl)
  refine v_case (fun c5 => ?_) (fun c5 => ?_)
  · refine v_tin C (t := 80) (k := 4) c5 dX7_spelling_1 (by decide) (by decide) rfl (by decide) ?_
    refine v_lds C (i := 4) (by decide) rfl dX7_spelling_80 ?_
    exact v_aret C hr dX7_spelling_82 (fun a h => by have h := Option.some.inj h; subst h; rfl)
  refine v_case (fun c6 => ?_) (fun c6 => ?_)
  · refine v_tin C (t := 83) (k := 5) c6 dX7_spelling_1 (by decide) (by decide) rfl (by decide) ?_
    refine v_lds C (i := 5) (by decide) rfl dX7_spelling_83 ?_
    exact v_aret C hr dX7_spelling_85 (fun a h => by have h := Option.some.inj h; subst h; rfl)
  refine v_case (fun c7 => ?_) (fun c7 => ?_)
  · refine v_tin C (t := 86) (k := 6) c7 dX7_spelling_1 (by decide) (by decide) rfl (by decide) ?_
    refine v_lds C (i := 6) (by decide) rfl dX7_spelling_86 ?_
    exact v_aret C hr dX7_spelling_88 (fun a h => by have h := Option.some.inj h; subst h; rfl)
  refine v_case (fun c8 => ?_) (fun c8 => ?_)
  · refine v_tin C (t := 89) (k := 7) c8 dX7_spelling_1 (by decide) (by decide) rfl (by decide) ?_
    refine v_lds C (i := 7) (by decide) rfl dX7_spelling_89 ?_
    exact v_aret C hr dX7_spelling_91 (fun a h => by have h := Option.some.inj h; subst h; rfl)
  refine v_case (fun c9 => ?_) (fun c9 => ?_)
  · refine v_tin C (t := 92) (k := 8) c9 dX7_spelling_1 (by decide) (by decide) rfl (by decide) ?_
    refine v_lds C (i := 8) (by decide) rfl dX7_spelling_92 ?_
    exact v_aret C hr dX7_spelling_94 (fun a h => by have h := Option.some.inj h; subst h; rfl)
  refine v_case (fun c10 => ?_) (fun c10 => ?_)
  · refine v_tin C (t := 95) (k := 9) c10 dX7_spelling_1 (by decide) (by decide) rfl (by decide) ?_
    refine v_lds C (i := 9) (by decide) rfl dX7_spelling_95 ?_
    exact v_aret C hr dX7_spelling_97 (fun a h => by have h := Option.some.inj h; subst h; rfl)
  refine v_case (fun c11 => ?_) (fun c11 => ?_)
  · refine v_tin C (t := 98) (k := 10) c11 dX7_spelling_1 (by decide) (by decide) rfl (by decide) ?_
    refine v_lds C (i := 10) (by decide) rfl dX7_spelling_98 ?_
    exact v_aret C hr dX7_spelling_100 (fun a h => by have h := Option.some.inj h; subst h; rfl)
  refine v_case (fun c12 => ?_) (fun c12 => ?_)
  · refine v_tin C (t := 101) (k := 11) c12 dX7_spelling_1 (by decide) (by decide) rfl (by decide) ?_
    refine v_lds C (i := 11) (by decide) rfl dX7_spelling_101 ?_
    exact v_aret C hr dX7_spelling_103 (fun a h => by have h := Option.some.inj h; subst h; rfl)
  refine v_case (fun c13 => ?_) (fun c13 => ?_)
  · refine v_tin C (t := 104) (k := 12) c13 dX7_spelling_1 (by decide) (by decide) rfl (by decide) ?_
    refine v_lds C (i := 12) (by decide) rfl dX7_spelling_104 ?_
    exact v_aret C hr dX7_spelling_106 (fun a h => by have h := Option.some.inj h; subst h; rfl)
  have nc1 := lv_neT (k := 0) (a := 0) c1 (by decide)
  have nc2 := lv_neT (k := 1) (a := 1) c2 (by decide)
  have nc3 := lv_neT (k := 2) (a := 2) c3 (by decide)
  have nc4 := lv_neT (k := 3) (a := 3) c4 (by decide)
  have nc5 := lv_neT (k := 4) (a := 4) c5 (by decide)
  have nc6 := lv_neT (k := 5) (a := 5) c6 (by decide)
  have nc7 := lv_neT (k := 6) (a := 6) c7 (by decide)
  have nc8 := lv_neT (k := 7) (a := 7) c8 (by decide)
  have nc9 := lv_neT (k := 8) (a := 8) c9 (by decide)
  have nc10 := lv_neT (k := 9) (a := 9) c10 (by decide)
  have nc11 := lv_neT (k := 10) (a := 10) c11 (by decide)
  have nc12 := lv_neT (k := 11) (a := 11) c12 (by decide)
  have nc13 := lv_neT (k := 12) (a := 12) c13 (by decide)
  refine v_tout C (t := 107) dX7_spelling_1 (by omega) (by decide) ?_
  refine v_lds C (i := 13) (by decide) rfl dX7_spelling_107 ?_
  exact v_aret C hr dX7_spelling_109 (fun a h => by have h := Option.some.inj h; subst h; rfl)
set_option maxRecDepth 20000 in
set_option maxHeartbeats 4000000 in
theorem s_X7_atEnd {l : Launch} (G : GT) (Z : ZT) (hG : DA G) (hZ : WT G Z) {this : Nat} {μ : MT} {q : Int32} (ht : Ob G Z this 7) (hq : m_X7_atEnd Z this μ = some q) : MZ l G Z yX7_atEnd cX7_atEnd 1 (some .boolean) 0 [.ref (ga G this)] μ (some (.int q)) μ := by
  refine v_met (J := (fun r : Int32 => (some (.int r), μ))) hG hZ (by decide) (Nat.le_of_ble_eq_true rfl) hq ?_
  intro x C hR _ hr
  show VK x G Z (0, 0) 1 (QM x G Z) (fun r : Int32 => (some (.int r), μ)) 0 [(0, .ref (ga G this))] [] μ _ some
  unfold m_X7_atEnd
  refine v_aload_n C (n := 0) rfl rfl dX7_atEnd_0 ?_
  refine v_geti C fl_X7_25 rfl ht dX7_atEnd_1 ?_
  refine v_ifne C (t := 11) dX7_atEnd_4 (by decide) ?_ ?_
  · refine v_iconst C (v := 0) (by decide) dX7_atEnd_11 ?_
    exact v_zret C (Or.inl rfl) hr dX7_atEnd_12 (fun a h => by have h := Option.some.inj h; subst h; rfl)
  · refine v_iconst C (v := 1) (by decide) dX7_atEnd_7 ?_
    refine v_goto C (t := 12) (by decide) dX7_atEnd_8 ?_
    exact v_zret C (Or.inr rfl) hr dX7_atEnd_12 (fun a h => by have h := Option.some.inj h; subst h; rfl)
set_option maxRecDepth 20000 in
set_option maxHeartbeats 4000000 in
theorem s_X7_atNumber {l : Launch} (G : GT) (Z : ZT) (hG : DA G) (hZ : WT G Z) {this : Nat} {μ : MT} {q : Int32} (ht : Ob G Z this 7) (hq : m_X7_atNumber Z this μ = some q) : MZ l G Z yX7_atNumber cX7_atNumber 1 (some .boolean) 0 [.ref (ga G this)] μ (some (.int q)) μ := by
  refine v_met (J := (fun r : Int32 => (some (.int r), μ))) hG hZ (by decide) (Nat.le_of_ble_eq_true rfl) hq ?_
  intro x C hR _ hr
  show VK x G Z (0, 0) 1 (QM x G Z) (fun r : Int32 => (some (.int r), μ)) 0 [(0, .ref (ga G this))] [] μ _ some
  unfold m_X7_atNumber
  refine v_aload_n C (n := 0) rfl rfl dX7_atNumber_0 ?_
  refine v_geti C fl_X7_25 rfl ht dX7_atNumber_1 ?_
  refine v_iconst C (v := 2) (by decide) dX7_atNumber_4 ?_
  refine v_icne C (t := 12) dX7_atNumber_5 (by decide) ?_ ?_
  · refine v_iconst C (v := 0) (by decide) dX7_atNumber_12 ?_
    exact v_zret C (Or.inl rfl) hr dX7_atNumber_13 (fun a h => by have h := Option.some.inj h; subst h; rfl)
  · refine v_iconst C (v := 1) (by decide) dX7_atNumber_8 ?_
    refine v_goto C (t := 13) (by decide) dX7_atNumber_9 ?_
    exact v_zret C (Or.inr rfl) hr dX7_atNumber_13 (fun a h => by have h := Option.some.inj h; subst h; rfl)
set_option maxRecDepth 20000 in
set_option maxHeartbeats 4000000 in
theorem s_X7_numberHere {l : Launch} (G : GT) (Z : ZT) (hG : DA G) (hZ : WT G Z) {this : Nat} {μ : MT} {q : Int32} (ht : Ob G Z this 7) (hq : m_X7_numberHere Z this μ = some q) : MZ l G Z yX7_numberHere cX7_numberHere 3 (some .int) 0 [.ref (ga G this)] μ (some (.int q)) μ := by
  refine v_met (J := (fun r : Int32 => (some (.int r), μ))) hG hZ (by decide) (Nat.le_of_ble_eq_true rfl) hq ?_
  intro x C hR _ hr
  show VK x G Z (0, 0) 3 (QM x G Z) (fun r : Int32 => (some (.int r), μ)) 0 [(0, .ref (ga G this))] [] μ _ some
  unfold m_X7_numberHere
  refine v_iconst C (v := 0) (by decide) dX7_numberHere_0 ?_
  refine v_istore_n C (lv' := [(1, .int 0), (0, .ref (ga G this))]) rfl (by decide) rfl dX7_numberHere_1 ?_
  refine v_aload_n C (n := 1) rfl rfl dX7_numberHere_2 ?_
  refine v_geti C fl_X7_19 rfl ht dX7_numberHere_3 ?_
  refine v_istore_n C (lv' := [(2, .int (μ this 2)), (1, .int 0), (0, .ref (ga G this))]) rfl (by decide) rfl dX7_numberHere_6 ?_
  refine v_let (y := (μ this 2)) (fun x1 => [(2, .int x1), (1, .int 0), (0, .ref (ga G this))]) (fun x1 => []) (fun x1 => ?_)
  refine v_sub (lv' := [(0, .ref (ga G this)), (1, .int 0), (2, .int x1)]) [2, 1, 0] rfl ?_
  refine v_lp 7 44 (fun t : Int32 × Int32 => [(0, .ref (ga G this)), (1, .int (t.1)), (2, .int (t.2))]) (fun t : Int32 × Int32 => μ) (fun t : Int32 => [(1, .int t)]) (fun t : Int32 => μ) ?_ ?_ LN (0, x1)
  · intro y4
    refine v_iload_n C (n := 0) rfl rfl dX7_numberHere_44 ?_
    exact v_iret C hr dX7_numberHere_45 (fun a h => by have h := Option.some.inj h; subst h; rfl)
  · intro X5 F7 hX6 hF8
    rintro ⟨y2, y3⟩
    refine v_iload_n C (n := 2) rfl rfl dX7_numberHere_7 ?_
    refine v_aload_n C (n := 0) rfl rfl dX7_numberHere_8 ?_
    refine v_geti C fl_X7_22 rfl ht dX7_numberHere_9 ?_
    refine v_icge C (t := 44) dX7_numberHere_12 (by decide) ?_ ?_
    · refine v_sub (lv' := [(1, .int y2)]) [1] rfl ?_
      exact v_leaf (hF8 y2)
    · refine v_aload_n C (n := 0) rfl rfl dX7_numberHere_15 ?_
      refine v_geti C fl_X7_25 rfl ht dX7_numberHere_16 ?_
      refine v_iconst C (v := 2) (by decide) dX7_numberHere_19 ?_
      refine v_icne C (t := 44) dX7_numberHere_20 (by decide) ?_ ?_
      · refine v_sub (lv' := [(1, .int y2)]) [1] rfl ?_
        exact v_leaf (hF8 y2)
      · refine v_iload_n C (n := 1) rfl rfl dX7_numberHere_23 ?_
        refine v_bipush C (v := 10) (by decide) dX7_numberHere_24 ?_
        refine v_imul C dX7_numberHere_26 ?_
        refine v_aload_n C (n := 0) rfl rfl dX7_numberHere_27 ?_
        refine v_getr C (t := 21) fl_X7_9 rfl rfl ht dX7_numberHere_28 (fun h9 => ?_)
        refine v_iload_n C (n := 2) rfl rfl dX7_numberHere_31 ?_
        refine v_bald C h9 dX7_numberHere_32 (fun x10 => ?_)
        refine v_iadd C dX7_numberHere_33 ?_
        refine v_bipush C (v := 48) (by decide) dX7_numberHere_34 ?_
        refine v_isub C dX7_numberHere_36 ?_
        refine v_istore_n C (lv' := [(1, .int (((y2 * 10) + x10) - 48)), (0, .ref (ga G this)), (2, .int y3)]) rfl (by decide) rfl dX7_numberHere_37 ?_
        refine v_let (y := (((y2 * 10) + x10) - 48)) (fun x11 => [(1, .int x11), (0, .ref (ga G this)), (2, .int y3)]) (fun x11 => []) (fun x11 => ?_)
        refine v_iinc C (n := 2) (v := y3 + 1) (lv' := [(2, .int (y3 + 1)), (1, .int x11), (0, .ref (ga G this))]) rfl (congrArg (y3 + ·) (by decide : Int32.ofInt (1) = (1 : Int32))) (by decide) rfl dX7_numberHere_38 ?_
        refine v_let (y := y3 + 1) (fun x12 => [(2, .int x12), (1, .int x11), (0, .ref (ga G this))]) (fun x12 => []) (fun x12 => ?_)
        refine v_goto C (t := 7) (by decide) dX7_numberHere_41 ?_
        refine v_sub (lv' := [(0, .ref (ga G this)), (1, .int x11), (2, .int x12)]) [2, 1, 0] rfl ?_
        exact v_leaf (hX6 (x11, x12))
set_option maxRecDepth 20000 in
set_option maxHeartbeats 4000000 in
theorem s_X7_atSign {l : Launch} (G : GT) (Z : ZT) (hG : DA G) (hZ : WT G Z) {this : Nat} {μ : MT} {q : Int32} (ht : Ob G Z this 7) (hq : m_X7_atSign Z this μ = some q) : MZ l G Z yX7_atSign cX7_atSign 1 (some .boolean) 0 [.ref (ga G this)] μ (some (.int q)) μ := by
  refine v_met (J := (fun r : Int32 => (some (.int r), μ))) hG hZ (by decide) (Nat.le_of_ble_eq_true rfl) hq ?_
  intro x C hR _ hr
  show VK x G Z (0, 0) 1 (QM x G Z) (fun r : Int32 => (some (.int r), μ)) 0 [(0, .ref (ga G this))] [] μ _ some
  unfold m_X7_atSign
  refine v_aload_n C (n := 0) rfl rfl dX7_atSign_0 ?_
  refine v_geti C fl_X7_25 rfl ht dX7_atSign_1 ?_
  refine v_iconst C (v := 3) (by decide) dX7_atSign_4 ?_
  refine v_icne C (t := 12) dX7_atSign_5 (by decide) ?_ ?_
  · refine v_iconst C (v := 0) (by decide) dX7_atSign_12 ?_
    exact v_zret C (Or.inl rfl) hr dX7_atSign_13 (fun a h => by have h := Option.some.inj h; subst h; rfl)
  · refine v_iconst C (v := 1) (by decide) dX7_atSign_8 ?_
    refine v_goto C (t := 13) (by decide) dX7_atSign_9 ?_
    exact v_zret C (Or.inr rfl) hr dX7_atSign_13 (fun a h => by have h := Option.some.inj h; subst h; rfl)
set_option maxRecDepth 20000 in
set_option maxHeartbeats 4000000 in
theorem s_X8_fault {l : Launch} (G : GT) (Z : ZT) (hG : DA G) (hZ : WT G Z) {this : Nat} {μ : MT} {q : Int32} (ht : Ob G Z this 8) (hq : m_X8_fault Z this μ = some q) : MZ l G Z yX8_fault cX8_fault 1 (some .int) 0 [.ref (ga G this)] μ (some (.int q)) μ := by
  refine v_met (J := (fun r : Int32 => (some (.int r), μ))) hG hZ (by decide) (Nat.le_of_ble_eq_true rfl) hq ?_
  intro x C hR _ hr
  show VK x G Z (0, 0) 1 (QM x G Z) (fun r : Int32 => (some (.int r), μ)) 0 [(0, .ref (ga G this))] [] μ _ some
  unfold m_X8_fault
  refine v_aload_n C (n := 0) rfl rfl dX8_fault_0 ?_
  refine v_geti C fl_X8_87 rfl ht dX8_fault_1 ?_
  exact v_iret C hr dX8_fault_4 (fun a h => by have h := Option.some.inj h; subst h; rfl)
set_option maxRecDepth 20000 in
set_option maxHeartbeats 4000000 in
theorem s_X8_minutes {l : Launch} (G : GT) (Z : ZT) (hG : DA G) (hZ : WT G Z) {this : Nat} {μ : MT} {q : Int32} (ht : Ob G Z this 8) (hq : m_X8_minutes Z this μ = some q) : MZ l G Z yX8_minutes cX8_minutes 1 (some .int) 0 [.ref (ga G this)] μ (some (.int q)) μ := by
  refine v_met (J := (fun r : Int32 => (some (.int r), μ))) hG hZ (by decide) (Nat.le_of_ble_eq_true rfl) hq ?_
  intro x C hR _ hr
  show VK x G Z (0, 0) 1 (QM x G Z) (fun r : Int32 => (some (.int r), μ)) 0 [(0, .ref (ga G this))] [] μ _ some
  unfold m_X8_minutes
  refine v_aload_n C (n := 0) rfl rfl dX8_minutes_0 ?_
  refine v_getr C (t := 2) fl_X8_45 rfl rfl ht dX8_minutes_1 (fun h1 => ?_)
  refine v_getiN C fn_X8_245 rfl h1 dX8_minutes_4 ?_
  exact v_iret C hr dX8_minutes_7 (fun a h => by have h := Option.some.inj h; subst h; rfl)
set_option maxRecDepth 20000 in
set_option maxHeartbeats 4000000 in
theorem s_X8_spotAt {l : Launch} (G : GT) (Z : ZT) (hG : DA G) (hZ : WT G Z) {this : Nat} {a0 : Int32} {a1 : Int32} {μ : MT} {q : MT} (ht : Ob G Z this 8) (hq : m_X8_spotAt Z (gn G) this a0 a1 μ = some q) : MZ l G Z yX8_spotAt cX8_spotAt 3 none 1 [.ref (ga G this), .int a0, .int a1] μ none q := by
  refine v_met (J := (fun ν : MT => ((none : Option Value), ν))) hG hZ (by decide) (Nat.le_of_ble_eq_true rfl) hq ?_
  intro x C hR _ hr
  show VK x G Z (0, 0) 3 (QM x G Z) (fun ν : MT => ((none : Option Value), ν)) 0 [(0, .ref (ga G this)), (1, .int a0), (2, .int a1)] [] μ _ some
  unfold m_X8_spotAt
  refine v_aload_n C (n := 0) rfl rfl dX8_spotAt_0 ?_
  refine v_getr C (t := 20) fl_X8_39 rfl rfl ht dX8_spotAt_1 (fun h1 => ?_)
  refine v_iload_n C (n := 1) rfl rfl dX8_spotAt_4 ?_
  refine v_iald C h1.oa dX8_spotAt_5 (fun x2 => ?_)
  refine v_join 48 (fun t : MT => [(0, .ref (ga G this)), (1, .int a0)]) (fun t : MT => []) (fun t : MT => t) ?_ ?_
  · intro ν3
    refine v_iload_n C (n := 1) rfl rfl dX8_spotAt_48 ?_
    refine v_join 64 (fun t : MT => [(0, .ref (ga G this)), (1, .int a0)]) (fun t : MT => []) (fun t : MT => t) ?_ ?_
    · intro ν6
      refine v_iload_n C (n := 1) rfl rfl dX8_spotAt_64 ?_
      refine v_iconst C (v := 1) (by decide) dX8_spotAt_65 ?_
      refine v_iadd C dX8_spotAt_66 ?_
      refine v_aload_n C (n := 0) rfl rfl dX8_spotAt_67 ?_
      refine v_getm C fl_X8_76 rfl ht dX8_spotAt_68 (fun q9 h10 => ?_)
      refine v_getiN C fn_X8_172 rfl h10 dX8_spotAt_71 ?_
      refine v_icge C (t := 89) dX8_spotAt_74 (by decide) ?_ ?_
      · exact v_vret C hr dX8_spotAt_89 (fun a h => by have h := Option.some.inj h; subst h; rfl)
      · refine v_aload_n C (n := 0) rfl rfl dX8_spotAt_77 ?_
        refine v_getr C (t := 20) fl_X8_39 rfl rfl ht dX8_spotAt_78 (fun h11 => ?_)
        refine v_iload_n C (n := 1) rfl rfl dX8_spotAt_81 ?_
        refine v_iconst C (v := 1) (by decide) dX8_spotAt_82 ?_
        refine v_iadd C dX8_spotAt_83 ?_
        refine v_dup2 C rfl rfl dX8_spotAt_84 ?_
        refine v_iald C h11.oa dX8_spotAt_85 (fun x12 => ?_)
        refine v_iconst C (v := 1) (by decide) dX8_spotAt_86 ?_
        refine v_iadd C dX8_spotAt_87 ?_
        refine v_iast C h11 dX8_spotAt_88 (fun ν13 => ?_)
        exact v_vret C hr dX8_spotAt_89 (fun a h => by have h := Option.some.inj h; subst h; rfl)
    intro F8 hF7
    refine v_ifle C (t := 64) dX8_spotAt_49 (by decide) ?_ ?_
    · exact v_leaf (hF7 ν3)
    · refine v_aload_n C (n := 0) rfl rfl dX8_spotAt_52 ?_
      refine v_getr C (t := 20) fl_X8_39 rfl rfl ht dX8_spotAt_53 (fun h14 => ?_)
      refine v_iload_n C (n := 1) rfl rfl dX8_spotAt_56 ?_
      refine v_iconst C (v := 1) (by decide) dX8_spotAt_57 ?_
      refine v_isub C dX8_spotAt_58 ?_
      refine v_dup2 C rfl rfl dX8_spotAt_59 ?_
      refine v_iald C h14.oa dX8_spotAt_60 (fun x15 => ?_)
      refine v_iconst C (v := 1) (by decide) dX8_spotAt_61 ?_
      refine v_iadd C dX8_spotAt_62 ?_
      refine v_iast C h14 dX8_spotAt_63 (fun ν16 => ?_)
      exact v_leaf (hF7 ν16)
  intro F5 hF4
  refine v_ifle C (t := 30) dX8_spotAt_6 (by decide) ?_ ?_
  · refine v_aload_n C (n := 0) rfl rfl dX8_spotAt_30 ?_
    refine v_getr C (t := 20) fl_X8_39 rfl rfl ht dX8_spotAt_31 (fun h17 => ?_)
    refine v_iload_n C (n := 1) rfl rfl dX8_spotAt_34 ?_
    refine v_iconst C (v := 0) (by decide) dX8_spotAt_35 ?_
    refine v_aload_n C (n := 0) rfl rfl dX8_spotAt_36 ?_
    refine v_getr C (t := 20) fl_X8_39 rfl rfl ht dX8_spotAt_37 (fun h18 => ?_)
    refine v_iload_n C (n := 1) rfl rfl dX8_spotAt_40 ?_
    refine v_iald C h18.oa dX8_spotAt_41 (fun x19 => ?_)
    refine v_iload_n C (n := 2) rfl rfl dX8_spotAt_42 ?_
    refine v_iadd C dX8_spotAt_43 ?_
    refine v_mmin C (hR.le (by omega)) cm_X8_293 (Nat.le_of_ble_eq_true rfl) dX8_spotAt_44 ?_
    refine v_iast C h17 dX8_spotAt_47 (fun ν20 => ?_)
    refine v_sub (lv' := [(0, .ref (ga G this)), (1, .int a0)]) [0, 1] rfl ?_
    exact v_leaf (hF4 ν20)
  · refine v_aload_n C (n := 0) rfl rfl dX8_spotAt_9 ?_
    refine v_getr C (t := 20) fl_X8_39 rfl rfl ht dX8_spotAt_10 (fun h21 => ?_)
    refine v_iload_n C (n := 1) rfl rfl dX8_spotAt_13 ?_
    refine v_iconst C (v := 0) (by decide) dX8_spotAt_14 ?_
    refine v_aload_n C (n := 0) rfl rfl dX8_spotAt_15 ?_
    refine v_getr C (t := 20) fl_X8_39 rfl rfl ht dX8_spotAt_16 (fun h22 => ?_)
    refine v_iload_n C (n := 1) rfl rfl dX8_spotAt_19 ?_
    refine v_iald C h22.oa dX8_spotAt_20 (fun x23 => ?_)
    refine v_iload_n C (n := 2) rfl rfl dX8_spotAt_21 ?_
    refine v_isub C dX8_spotAt_22 ?_
    refine v_mmax C (hR.le (by omega)) cm_X8_290 (Nat.le_of_ble_eq_true rfl) dX8_spotAt_23 ?_
    refine v_iast C h21 dX8_spotAt_26 (fun ν24 => ?_)
    refine v_goto C (t := 48) (by decide) dX8_spotAt_27 ?_
    refine v_sub (lv' := [(0, .ref (ga G this)), (1, .int a0)]) [0, 1] rfl ?_
    exact v_leaf (hF4 ν24)
set_option maxRecDepth 20000 in
set_option maxHeartbeats 4000000 in
theorem s_X8_status {l : Launch} (G : GT) (Z : ZT) (hG : DA G) (hZ : WT G Z) {this : Nat} {μ : MT} {q : Int32} (ht : Ob G Z this 8) (hq : m_X8_status Z this μ = some q) : MZ l G Z yX8_status cX8_status 1 (some .int) 0 [.ref (ga G this)] μ (some (.int q)) μ := by
  refine v_met (J := (fun r : Int32 => (some (.int r), μ))) hG hZ (by decide) (Nat.le_of_ble_eq_true rfl) hq ?_
  intro x C hR _ hr
  show VK x G Z (0, 0) 1 (QM x G Z) (fun r : Int32 => (some (.int r), μ)) 0 [(0, .ref (ga G this))] [] μ _ some
  unfold m_X8_status
  refine v_aload_n C (n := 0) rfl rfl dX8_status_0 ?_
  refine v_geti C fl_X8_91 rfl ht dX8_status_1 ?_
  exact v_iret C hr dX8_status_4 (fun a h => by have h := Option.some.inj h; subst h; rfl)
set_option maxRecDepth 20000 in
set_option maxHeartbeats 4000000 in
theorem s_X8_found {l : Launch} (G : GT) (Z : ZT) (hG : DA G) (hZ : WT G Z) {this : Nat} {a0 : Int32} {μ : MT} {q : Int32 × MT} (ht : Ob G Z this 8) (hq : m_X8_found Z this a0 μ = some q) : MZ l G Z yX8_found cX8_found 2 (some .int) 0 [.ref (ga G this), .int a0] μ (some (.int q.1)) q.2 := by
  refine v_met (J := (fun q : Int32 × MT => (some (.int q.1), q.2))) hG hZ (by decide) (Nat.le_of_ble_eq_true rfl) hq ?_
  intro x C hR _ hr
  show VK x G Z (0, 0) 2 (QM x G Z) (fun q : Int32 × MT => (some (.int q.1), q.2)) 0 [(0, .ref (ga G this)), (1, .int a0)] [] μ _ some
  unfold m_X8_found
  refine v_aload_n C (n := 0) rfl rfl dX8_found_0 ?_
  refine v_iload_n C (n := 1) rfl rfl dX8_found_1 ?_
  refine v_puti C fp_X8_91 rfl rfl ht dX8_found_2 (fun ν1 => ?_)
  refine v_ldcw C (v := (-1000010)) (w4 17 rfl) dX8_found_5 ?_
  refine v_iload_n C (n := 1) rfl rfl dX8_found_8 ?_
  refine v_isub C dX8_found_9 ?_
  exact v_iret C hr dX8_found_10 (fun a h => by have h := Option.some.inj h; subst h; rfl)
set_option maxRecDepth 20000 in
set_option maxHeartbeats 4000000 in
theorem s_X8_fine {l : Launch} (G : GT) (Z : ZT) (hG : DA G) (hZ : WT G Z) {this : Nat} {a0 : Int32} {μ : MT} {q : Int32 × MT} (ht : Ob G Z this 8) (hq : m_X8_fine Z this a0 μ = some q) : MZ l G Z yX8_fine cX8_fine 2 (some .int) 0 [.ref (ga G this), .int a0] μ (some (.int q.1)) q.2 := by
  refine v_met (J := (fun q : Int32 × MT => (some (.int q.1), q.2))) hG hZ (by decide) (Nat.le_of_ble_eq_true rfl) hq ?_
  intro x C hR _ hr
  show VK x G Z (0, 0) 2 (QM x G Z) (fun q : Int32 × MT => (some (.int q.1), q.2)) 0 [(0, .ref (ga G this)), (1, .int a0)] [] μ _ some
  unfold m_X8_fine
  refine v_aload_n C (n := 0) rfl rfl dX8_fine_0 ?_
  refine v_iconst C (v := 0) (by decide) dX8_fine_1 ?_
  refine v_puti C fp_X8_91 rfl rfl ht dX8_fine_2 (fun ν1 => ?_)
  refine v_iload_n C (n := 1) rfl rfl dX8_fine_5 ?_
  exact v_iret C hr dX8_fine_6 (fun a h => by have h := Option.some.inj h; subst h; rfl)
set_option maxRecDepth 20000 in
set_option maxHeartbeats 4000000 in
theorem s_X9_in {l : Launch} (G : GT) (Z : ZT) (hG : DA G) (hZ : WT G Z) {a0 : Int64} {a1 : Int64} {a2 : Int64} {μ : MT} {q : Int32}  (hq : m_X9_in Z a0 a1 a2 μ = some q) : MZ l G Z yX9_in cX9_in 6 (some .boolean) 0 [.long a0, .long a1, .long a2] μ (some (.int q)) μ := by
  refine v_met (J := (fun r : Int32 => (some (.int r), μ))) hG hZ (by decide) (Nat.le_of_ble_eq_true rfl) hq ?_
  intro x C hR _ hr
  show VK x G Z (0, 0) 6 (QM x G Z) (fun r : Int32 => (some (.int r), μ)) 0 [(0, .long a0), (2, .long a1), (4, .long a2)] [] μ _ some
  unfold m_X9_in
  refine v_lload_n C (n := 0) rfl rfl dX9_in_0 ?_
  refine v_lload_n C (n := 1) rfl rfl dX9_in_1 ?_
  refine v_lcmp C dX9_in_2 ?_
  refine v_iflt C (t := 17) dX9_in_3 (by decide) ?_ ?_
  · refine v_iconst C (v := 0) (by decide) dX9_in_17 ?_
    exact v_zret C (Or.inl rfl) hr dX9_in_18 (fun a h => by have h := Option.some.inj h; subst h; rfl)
  · refine v_lload_n C (n := 0) rfl rfl dX9_in_6 ?_
    refine v_lload C (n := 2) rfl dX9_in_7 ?_
    refine v_lcmp C dX9_in_9 ?_
    refine v_ifgt C (t := 17) dX9_in_10 (by decide) ?_ ?_
    · refine v_iconst C (v := 0) (by decide) dX9_in_17 ?_
      exact v_zret C (Or.inl rfl) hr dX9_in_18 (fun a h => by have h := Option.some.inj h; subst h; rfl)
    · refine v_iconst C (v := 1) (by decide) dX9_in_13 ?_
      refine v_goto C (t := 18) (by decide) dX9_in_14 ?_
      exact v_zret C (Or.inr rfl) hr dX9_in_18 (fun a h => by have h := Option.some.inj h; subst h; rfl)
set_option maxRecDepth 20000 in
set_option maxHeartbeats 4000000 in
theorem s_X9_finding {l : Launch} (G : GT) (Z : ZT) (hG : DA G) (hZ : WT G Z) {this : Nat} {a0 : Int32} {μ : MT} {q : Int32 × MT} (ht : Ob G Z this 9) (hq : m_X9_finding Z this a0 μ = some q) : MZ l G Z yX9_finding cX9_finding 2 (some .int) 0 [.ref (ga G this), .int a0] μ (some (.int q.1)) q.2 := by
  refine v_met (J := (fun q : Int32 × MT => (some (.int q.1), q.2))) hG hZ (by decide) (Nat.le_of_ble_eq_true rfl) hq ?_
  intro x C hR _ hr
  show VK x G Z (0, 0) 2 (QM x G Z) (fun q : Int32 × MT => (some (.int q.1), q.2)) 0 [(0, .ref (ga G this)), (1, .int a0)] [] μ _ some
  unfold m_X9_finding
  refine v_aload_n C (n := 0) rfl rfl dX9_finding_0 ?_
  refine v_iload_n C (n := 1) rfl rfl dX9_finding_1 ?_
  refine v_puti C fp_X9_75 rfl rfl ht dX9_finding_2 (fun ν1 => ?_)
  refine v_ldc C (v := (-1000010)) (w14 22 rfl) dX9_finding_5 ?_
  refine v_iload_n C (n := 1) rfl rfl dX9_finding_7 ?_
  refine v_isub C dX9_finding_8 ?_
  exact v_iret C hr dX9_finding_9 (fun a h => by have h := Option.some.inj h; subst h; rfl)
set_option maxRecDepth 20000 in
set_option maxHeartbeats 4000000 in
theorem s_X9_byteAt {l : Launch} (G : GT) (Z : ZT) (hG : DA G) (hZ : WT G Z) {this : Nat} {a0 : Int32} {μ : MT} {q : Int32} (ht : Ob G Z this 9) (hq : m_X9_byteAt Z this a0 μ = some q) : MZ l G Z yX9_byteAt cX9_byteAt 2 (some .int) 0 [.ref (ga G this), .int a0] μ (some (.int q)) μ := by
  refine v_met (J := (fun r : Int32 => (some (.int r), μ))) hG hZ (by decide) (Nat.le_of_ble_eq_true rfl) hq ?_
  intro x C hR _ hr
  show VK x G Z (0, 0) 2 (QM x G Z) (fun r : Int32 => (some (.int r), μ)) 0 [(0, .ref (ga G this)), (1, .int a0)] [] μ _ some
  unfold m_X9_byteAt
  refine v_iload_n C (n := 1) rfl rfl dX9_byteAt_0 ?_
  refine v_aload_n C (n := 0) rfl rfl dX9_byteAt_1 ?_
  refine v_geti C fl_X9_104 rfl ht dX9_byteAt_2 ?_
  refine v_icge C (t := 17) dX9_byteAt_5 (by decide) ?_ ?_
  · refine v_ldc C (v := (-1000000)) (w14 52 rfl) dX9_byteAt_17 ?_
    exact v_iret C hr dX9_byteAt_19 (fun a h => by have h := Option.some.inj h; subst h; rfl)
  · refine v_aload_n C (n := 0) rfl rfl dX9_byteAt_8 ?_
    refine v_getr C (t := 20) fl_X9_37 rfl rfl ht dX9_byteAt_9 (fun h1 => ?_)
    refine v_iload_n C (n := 1) rfl rfl dX9_byteAt_12 ?_
    refine v_iald C h1.oa dX9_byteAt_13 (fun x2 => ?_)
    refine v_goto C (t := 19) (by decide) dX9_byteAt_14 ?_
    exact v_iret C hr dX9_byteAt_19 (fun a h => by have h := Option.some.inj h; subst h; rfl)
set_option maxRecDepth 20000 in
set_option maxHeartbeats 4000000 in
theorem s_X9_isLetter {l : Launch} (G : GT) (Z : ZT) (hG : DA G) (hZ : WT G Z) {a0 : Int32} {μ : MT} {q : Int32}  (hq : m_X9_isLetter Z a0 μ = some q) : MZ l G Z yX9_isLetter cX9_isLetter 1 (some .boolean) 0 [.int a0] μ (some (.int q)) μ := by
  refine v_met (J := (fun r : Int32 => (some (.int r), μ))) hG hZ (by decide) (Nat.le_of_ble_eq_true rfl) hq ?_
  intro x C hR _ hr
  show VK x G Z (0, 0) 1 (QM x G Z) (fun r : Int32 => (some (.int r), μ)) 0 [(0, .int a0)] [] μ _ some
  unfold m_X9_isLetter
  refine v_iload_n C (n := 0) rfl rfl dX9_isLetter_0 ?_
  refine v_bipush C (v := 97) (by decide) dX9_isLetter_1 ?_
  refine v_iclt C (t := 16) dX9_isLetter_3 (by decide) ?_ ?_
  · refine v_iconst C (v := 0) (by decide) dX9_isLetter_16 ?_
    exact v_zret C (Or.inl rfl) hr dX9_isLetter_17 (fun a h => by have h := Option.some.inj h; subst h; rfl)
  · refine v_iload_n C (n := 0) rfl rfl dX9_isLetter_6 ?_
    refine v_bipush C (v := 122) (by decide) dX9_isLetter_7 ?_
    refine v_icgt C (t := 16) dX9_isLetter_9 (by decide) ?_ ?_
    · refine v_iconst C (v := 0) (by decide) dX9_isLetter_16 ?_
      exact v_zret C (Or.inl rfl) hr dX9_isLetter_17 (fun a h => by have h := Option.some.inj h; subst h; rfl)
    · refine v_iconst C (v := 1) (by decide) dX9_isLetter_12 ?_
      refine v_goto C (t := 17) (by decide) dX9_isLetter_13 ?_
      exact v_zret C (Or.inr rfl) hr dX9_isLetter_17 (fun a h => by have h := Option.some.inj h; subst h; rfl)
set_option maxRecDepth 20000 in
set_option maxHeartbeats 4000000 in
theorem s_X9_isFigure {l : Launch} (G : GT) (Z : ZT) (hG : DA G) (hZ : WT G Z) {a0 : Int32} {μ : MT} {q : Int32}  (hq : m_X9_isFigure Z a0 μ = some q) : MZ l G Z yX9_isFigure cX9_isFigure 1 (some .boolean) 0 [.int a0] μ (some (.int q)) μ := by
  refine v_met (J := (fun r : Int32 => (some (.int r), μ))) hG hZ (by decide) (Nat.le_of_ble_eq_true rfl) hq ?_
  intro x C hR _ hr
  show VK x G Z (0, 0) 1 (QM x G Z) (fun r : Int32 => (some (.int r), μ)) 0 [(0, .int a0)] [] μ _ some
  unfold m_X9_isFigure
  refine v_iload_n C (n := 0) rfl rfl dX9_isFigure_0 ?_
  refine v_bipush C (v := 48) (by decide) dX9_isFigure_1 ?_
  refine v_iclt C (t := 16) dX9_isFigure_3 (by decide) ?_ ?_
  · refine v_iconst C (v := 0) (by decide) dX9_isFigure_16 ?_
    exact v_zret C (Or.inl rfl) hr dX9_isFigure_17 (fun a h => by have h := Option.some.inj h; subst h; rfl)
  · refine v_iload_n C (n := 0) rfl rfl dX9_isFigure_6 ?_
    refine v_bipush C (v := 57) (by decide) dX9_isFigure_7 ?_
    refine v_icgt C (t := 16) dX9_isFigure_9 (by decide) ?_ ?_
    · refine v_iconst C (v := 0) (by decide) dX9_isFigure_16 ?_
      exact v_zret C (Or.inl rfl) hr dX9_isFigure_17 (fun a h => by have h := Option.some.inj h; subst h; rfl)
    · refine v_iconst C (v := 1) (by decide) dX9_isFigure_12 ?_
      refine v_goto C (t := 17) (by decide) dX9_isFigure_13 ?_
      exact v_zret C (Or.inr rfl) hr dX9_isFigure_17 (fun a h => by have h := Option.some.inj h; subst h; rfl)
set_option maxRecDepth 20000 in
set_option maxHeartbeats 4000000 in
theorem s_X9_bad {l : Launch} (G : GT) (Z : ZT) (hG : DA G) (hZ : WT G Z) {this : Nat} {a0 : Int32} {μ : MT} {q : MT} (ht : Ob G Z this 9) (hq : m_X9_bad Z this a0 μ = some q) : MZ l G Z yX9_bad cX9_bad 2 none 0 [.ref (ga G this), .int a0] μ none q := by
  refine v_met (J := (fun ν : MT => ((none : Option Value), ν))) hG hZ (by decide) (Nat.le_of_ble_eq_true rfl) hq ?_
  intro x C hR _ hr
  show VK x G Z (0, 0) 2 (QM x G Z) (fun ν : MT => ((none : Option Value), ν)) 0 [(0, .ref (ga G this)), (1, .int a0)] [] μ _ some
  unfold m_X9_bad
  refine v_aload_n C (n := 0) rfl rfl dX9_bad_0 ?_
  refine v_geti C fl_X9_129 rfl ht dX9_bad_1 ?_
  refine v_ifne C (t := 20) dX9_bad_4 (by decide) ?_ ?_
  · exact v_vret C hr dX9_bad_20 (fun a h => by have h := Option.some.inj h; subst h; rfl)
  · refine v_aload_n C (n := 0) rfl rfl dX9_bad_7 ?_
    refine v_iload_n C (n := 1) rfl rfl dX9_bad_8 ?_
    refine v_puti C fp_X9_129 rfl rfl ht dX9_bad_9 (fun ν1 => ?_)
    refine v_aload_n C (n := 0) rfl rfl dX9_bad_12 ?_
    refine v_aload_n C (n := 0) rfl rfl dX9_bad_13 ?_
    refine v_geti C fl_X9_114 rfl ht dX9_bad_14 ?_
    refine v_puti C fp_X9_132 rfl rfl ht dX9_bad_17 (fun ν2 => ?_)
    exact v_vret C hr dX9_bad_20 (fun a h => by have h := Option.some.inj h; subst h; rfl)
