set_option maxRecDepth 20000 in
set_option maxHeartbeats 4000000 in
theorem s_X9_setBy {l : Launch} (G : GT) (Z : ZT) (hG : DA G) (hZ : WT G Z) {this : Nat} {a0 : Int32} {μ : MT} {q : Int32 × MT} (ht : Ob G Z this 9) (hq : m_X9_setBy Z this a0 μ = some q) : MZ l G Z yX9_setBy cX9_setBy 4 (some .int) 7 [.ref (ga G this), .int a0] μ (some (.int q.1)) q.2 := by
  refine v_met (J := (fun q : Int32 × MT => (some (.int q.1), q.2))) hG hZ (by decide) (Nat.le_of_ble_eq_true rfl) hq ?_
  intro x C hR _ hr
  show VK x G Z (0, 0) 4 (QM x G Z) (fun q : Int32 × MT => (some (.int q.1), q.2)) 0 [(0, .ref (ga G this)), (1, .int a0)] [] μ _ some
  unfold m_X9_setBy
  refine v_iconst C (v := 0) (by decide) dX9_setBy_0 ?_
  refine v_istore_n C (lv' := [(2, .int 0), (0, .ref (ga G this)), (1, .int a0)]) rfl (by decide) rfl dX9_setBy_1 ?_
  refine v_sub (lv' := [(0, .ref (ga G this)), (1, .int a0), (2, .int 0)]) [1, 2, 0] rfl ?_
  refine v_lpm 2 58 (fun t : Int32 × MT => [(0, .ref (ga G this)), (1, .int a0), (2, .int (t.1))]) (fun t : Int32 × MT => t.2) (fun t : MT => []) (fun t : MT => t) ?_ ?_ LN (0, μ)
  · intro ν3
    refine v_ldc C (v := (-1000000)) (w14 52 rfl) dX9_setBy_58 ?_
    exact v_iret C hr dX9_setBy_60 (fun a h => by have h := Option.some.inj h; subst h; rfl)
  · intro X4 F6 e8 hX5 hF7
    rintro ⟨y1, ν2⟩
    refine v_iload_n C (n := 2) rfl rfl dX9_setBy_2 ?_
    refine v_bipush C (v := 41) (by decide) dX9_setBy_3 ?_
    refine v_icge C (t := 58) dX9_setBy_5 (by decide) ?_ ?_
    · refine v_sub (lv' := []) [] rfl ?_
      exact v_leaf (hF7 ν2)
    · refine v_iconst C (v := (-1)) (by decide) dX9_setBy_8 ?_
      refine v_istore_n C (lv' := [(3, .int (-1)), (0, .ref (ga G this)), (1, .int a0), (2, .int y1)]) rfl (by decide) rfl dX9_setBy_9 ?_
      refine v_sub (lv' := [(0, .ref (ga G this)), (1, .int a0), (2, .int y1), (3, .int (-1))]) [1, 2, 3, 0] rfl ?_
      refine v_lpm 10 52 (fun t : Int32 × MT => [(0, .ref (ga G this)), (1, .int a0), (2, .int y1), (3, .int (t.1))]) (fun t : Int32 × MT => t.2) (fun t : MT => [(0, .ref (ga G this)), (1, .int a0), (2, .int y1)]) (fun t : MT => t) ?_ ?_ LN ((-1), ν2)
      · intro ν11
        refine v_iinc C (n := 2) (v := y1 + 1) (lv' := [(2, .int (y1 + 1)), (0, .ref (ga G this)), (1, .int a0)]) rfl (congrArg (y1 + ·) (by decide : Int32.ofInt (1) = (1 : Int32))) (by decide) rfl dX9_setBy_52 ?_
        refine v_let (y := y1 + 1) (fun x17 => [(2, .int x17), (0, .ref (ga G this)), (1, .int a0)]) (fun x17 => []) (fun x17 => ?_)
        refine v_goto C (t := 2) (by decide) dX9_setBy_55 ?_
        refine v_sub (lv' := [(0, .ref (ga G this)), (1, .int a0), (2, .int x17)]) [1, 2, 0] rfl ?_
        exact v_leaf (hX5 (x17, ν11))
      · intro X12 F14 e16 hX13 hF15
        rintro ⟨y9, ν10⟩
        refine v_iload_n C (n := 3) rfl rfl dX9_setBy_10 ?_
        refine v_iconst C (v := 2) (by decide) dX9_setBy_11 ?_
        refine v_icge C (t := 52) dX9_setBy_12 (by decide) ?_ ?_
        · refine v_sub (lv' := [(0, .ref (ga G this)), (1, .int a0), (2, .int y1)]) [0, 1, 2] rfl ?_
          exact v_leaf (hF15 ν10)
        · refine v_aload_n C (n := 0) rfl rfl dX9_setBy_15 ?_
          refine v_getr C (t := 20) fl_X9_59 rfl rfl ht dX9_setBy_16 (fun h18 => ?_)
          refine v_iload_n C (n := 1) rfl rfl dX9_setBy_19 ?_
          refine v_iload_n C (n := 3) rfl rfl dX9_setBy_20 ?_
          refine v_iload_n C (n := 2) rfl rfl dX9_setBy_21 ?_
          refine v_imul C dX9_setBy_22 ?_
          refine v_iast C h18 dX9_setBy_23 (fun ν19 => ?_)
          refine v_aload_n C (n := 0) rfl rfl dX9_setBy_24 ?_
          refine v_ldc C (v := (-1000000)) (w14 52 rfl) dX9_setBy_25 ?_
          refine v_cvIv C (d := 6) (hR.le (by omega)) (c := 9) rfl cv_X9_277 (by decide) ht (by decide) [.int (-1000000)] rfl (fun _ hc => s_X9_go G Z hG hZ   ht hc) (Nat.le_of_ble_eq_true rfl) dX9_setBy_27 rfl (fun ν20 => ?_)
          refine v_aload_n C (n := 0) rfl rfl dX9_setBy_30 ?_
          refine v_getr C (t := 20) fl_X9_46 rfl rfl ht dX9_setBy_31 (fun h21 => ?_)
          refine v_bipush C (v := 24) (by decide) dX9_setBy_34 ?_
          refine v_iload_n C (n := 1) rfl rfl dX9_setBy_36 ?_
          refine v_iadd C dX9_setBy_37 ?_
          refine v_iald C h21.oa dX9_setBy_38 (fun x22 => ?_)
          refine v_ifne C (t := 46) dX9_setBy_39 (by decide) ?_ ?_
          · refine v_iinc C (n := 3) (v := y9 + 2) (lv' := [(3, .int (y9 + 2)), (0, .ref (ga G this)), (1, .int a0), (2, .int y1)]) rfl (congrArg (y9 + ·) (by decide : Int32.ofInt (2) = (2 : Int32))) (by decide) rfl dX9_setBy_46 ?_
            refine v_let (y := y9 + 2) (fun x23 => [(3, .int x23), (0, .ref (ga G this)), (1, .int a0), (2, .int y1)]) (fun x23 => []) (fun x23 => ?_)
            refine v_goto C (t := 10) (by decide) dX9_setBy_49 ?_
            refine v_sub (lv' := [(0, .ref (ga G this)), (1, .int a0), (2, .int y1), (3, .int x23)]) [1, 2, 3, 0] rfl ?_
            exact v_leaf (hX13 (x23, ν20))
          · refine v_iload_n C (n := 3) rfl rfl dX9_setBy_42 ?_
            refine v_iload_n C (n := 2) rfl rfl dX9_setBy_43 ?_
            refine v_imul C dX9_setBy_44 ?_
            exact v_iret C hr dX9_setBy_45 (fun a h => by simp only [ob_s, lq, e16, e8] at h; have h := Option.some.inj h; subst h; rfl)
set_option maxRecDepth 20000 in
set_option maxHeartbeats 4000000 in
theorem s_X9_beforehand {l : Launch} (G : GT) (Z : ZT) (hG : DA G) (hZ : WT G Z) {this : Nat} {a0 : Int32} {μ : MT} {q : Int32 × MT} (ht : Ob G Z this 9) (hq : m_X9_beforehand Z this a0 μ = some q) : MZ l G Z yX9_beforehand cX9_beforehand 4 (some .int) 8 [.ref (ga G this), .int a0] μ (some (.int q.1)) q.2 := by
  refine v_met (J := (fun q : Int32 × MT => (some (.int q.1), q.2))) hG hZ (by decide) (Nat.le_of_ble_eq_true rfl) hq ?_
  intro x C hR _ hr
  show VK x G Z (0, 0) 4 (QM x G Z) (fun q : Int32 × MT => (some (.int q.1), q.2)) 0 [(0, .ref (ga G this)), (1, .int a0)] [] μ _ some
  unfold m_X9_beforehand
  refine v_aload_n C (n := 0) rfl rfl dX9_beforehand_0 ?_
  refine v_iconst C (v := 0) (by decide) dX9_beforehand_1 ?_
  refine v_puti C fp_X9_71 rfl rfl ht dX9_beforehand_2 (fun ν1 => ?_)
  refine v_aload_n C (n := 0) rfl rfl dX9_beforehand_5 ?_
  refine v_iload_n C (n := 1) rfl rfl dX9_beforehand_6 ?_
  refine v_cvRi C (d := 1) (hR.le (by omega)) (c := 9) rfl cv_X9_233 (by decide) ht (by decide) [.int a0] rfl (fun _ hc => s_X9_isCell G Z hG hZ   ht hc) (Nat.le_of_ble_eq_true rfl) dX9_beforehand_7 rfl (fun r2 => ?_)
  refine v_ifne C (t := 16) dX9_beforehand_10 (by decide) ?_ ?_
  · refine v_aload_n C (n := 0) rfl rfl dX9_beforehand_16 ?_
    refine v_cvIv C (d := 0) (hR.le (by omega)) (c := 9) rfl cv_X9_286 (by decide) ht (by decide) [] rfl (fun _ hc => s_X9_layNumbers G Z hG hZ   ht hc) (Nat.le_of_ble_eq_true rfl) dX9_beforehand_17 rfl (fun ν3 => ?_)
    refine v_aload_n C (n := 0) rfl rfl dX9_beforehand_20 ?_
    refine v_cvIv C (d := 0) (hR.le (by omega)) (c := 9) rfl cv_X9_274 (by decide) ht (by decide) [] rfl (fun _ hc => s_X9_layOpened G Z hG hZ   ht hc) (Nat.le_of_ble_eq_true rfl) dX9_beforehand_21 rfl (fun ν4 => ?_)
    refine v_iconst C (v := 0) (by decide) dX9_beforehand_24 ?_
    refine v_istore_n C (lv' := [(2, .int 0), (0, .ref (ga G this)), (1, .int a0)]) rfl (by decide) rfl dX9_beforehand_25 ?_
    refine v_iconst C (v := 0) (by decide) dX9_beforehand_26 ?_
    refine v_istore_n C (lv' := [(3, .int 0), (2, .int 0), (0, .ref (ga G this)), (1, .int a0)]) rfl (by decide) rfl dX9_beforehand_27 ?_
    refine v_sub (lv' := [(0, .ref (ga G this)), (1, .int a0), (2, .int 0), (3, .int 0)]) [2, 3, 1, 0] rfl ?_
    refine v_lp 28 51 (fun t : Int32 × Int32 × MT => [(0, .ref (ga G this)), (1, .int a0), (2, .int (t.1)), (3, .int (t.2.1))]) (fun t : Int32 × Int32 × MT => t.2.2) (fun t : Int32 × MT => [(2, .int (t.1))]) (fun t : Int32 × MT => t.2) ?_ ?_ LN (0, 0, ν4)
    · rintro ⟨y8, ν9⟩
      refine v_iload_n C (n := 0) rfl rfl dX9_beforehand_51 ?_
      exact v_iret C hr dX9_beforehand_52 (fun a h => by have h := Option.some.inj h; subst h; rfl)
    · intro X10 F12 hX11 hF13
      rintro ⟨y5, y6, ν7⟩
      refine v_iload_n C (n := 3) rfl rfl dX9_beforehand_28 ?_
      refine v_iload_n C (n := 1) rfl rfl dX9_beforehand_29 ?_
      refine v_icgt C (t := 51) dX9_beforehand_30 (by decide) ?_ ?_
      · refine v_sub (lv' := [(2, .int y5)]) [2] rfl ?_
        exact v_leaf (hF13 (y5, ν7))
      · refine v_iload_n C (n := 2) rfl rfl dX9_beforehand_33 ?_
        refine v_ldc C (v := (-1000000)) (w14 52 rfl) dX9_beforehand_34 ?_
        refine v_iceq C (t := 51) dX9_beforehand_36 (by decide) ?_ ?_
        · refine v_sub (lv' := [(2, .int y5)]) [2] rfl ?_
          exact v_leaf (hF13 (y5, ν7))
        · refine v_aload_n C (n := 0) rfl rfl dX9_beforehand_39 ?_
          refine v_iload_n C (n := 3) rfl rfl dX9_beforehand_40 ?_
          refine v_cvIi C (d := 7) (hR.le (by omega)) (c := 9) rfl cv_X9_299 (by decide) ht (by decide) [.int y6] rfl (fun _ hc => s_X9_setBy G Z hG hZ   ht hc) (Nat.le_of_ble_eq_true rfl) dX9_beforehand_41 rfl (fun r14 ν15 => ?_)
          refine v_istore_n C (lv' := [(2, .int r14), (0, .ref (ga G this)), (1, .int a0), (3, .int y6)]) rfl (by decide) rfl dX9_beforehand_44 ?_
          refine v_iinc C (n := 3) (v := y6 + 1) (lv' := [(3, .int (y6 + 1)), (2, .int r14), (0, .ref (ga G this)), (1, .int a0)]) rfl (congrArg (y6 + ·) (by decide : Int32.ofInt (1) = (1 : Int32))) (by decide) rfl dX9_beforehand_45 ?_
          refine v_let (y := y6 + 1) (fun x16 => [(3, .int x16), (2, .int r14), (0, .ref (ga G this)), (1, .int a0)]) (fun x16 => []) (fun x16 => ?_)
          refine v_goto C (t := 28) (by decide) dX9_beforehand_48 ?_
          refine v_sub (lv' := [(0, .ref (ga G this)), (1, .int a0), (2, .int r14), (3, .int x16)]) [2, 3, 1, 0] rfl ?_
          exact v_leaf (hX11 (r14, x16, ν15))
  · refine v_ldc C (v := (-1000001)) (w14 18 rfl) dX9_beforehand_13 ?_
    exact v_iret C hr dX9_beforehand_15 (fun a h => by have h := Option.some.inj h; subst h; rfl)
set_option maxRecDepth 20000 in
set_option maxHeartbeats 4000000 in
theorem s_X0_asked {l : Launch} (G : GT) (Z : ZT) (hG : DA G) (hZ : WT G Z) (n : Nat) {gv : Nat → Nat → Int32 → Int32 → Int32 → MT → Option (Int32 × MT)} (hgv : ∀ {l : Launch} {this a0 : Nat} {a1 a2 a3 : Int32} {μ : MT} {q : Int32 × MT}, Ob G Z this 0 → Ob G Z a0 3 → gv this a0 a1 a2 a3 μ = some q → MZ l G Z yX0_given cX0_given 5 (some .int) (2 * n + 2) [.ref (ga G this), .ref (ga G a0), .int a1, .int a2, .int a3] μ (some (.int q.1)) q.2) {this : Nat} {a0 : Nat} {a1 : Int32} {a2 : Int32} {a3 : Int32} {μ : MT} {q : Int32 × MT} (ht : Ob G Z this 0) (ha0 : Ob G Z a0 3) (hq : m_X0_asked gv Z this a0 a1 a2 a3 μ = some q) : MZ l G Z yX0_asked cX0_asked 5 (some .int) (2 * n + 3) [.ref (ga G this), .ref (ga G a0), .int a1, .int a2, .int a3] μ (some (.int q.1)) q.2 := by
  refine v_met (J := (fun q : Int32 × MT => (some (.int q.1), q.2))) hG hZ (by decide) (Nat.le_of_ble_eq_true rfl) hq ?_
  intro x C hR _ hr
  show VK x G Z (0, 0) 5 (QM x G Z) (fun q : Int32 × MT => (some (.int q.1), q.2)) 0 [(0, .ref (ga G this)), (1, .ref (ga G a0)), (2, .int a1), (3, .int a2), (4, .int a3)] [] μ _ some
  unfold m_X0_asked
  refine v_aload_n C (n := 0) rfl rfl dX0_asked_0 ?_
  refine v_aload_n C (n := 1) rfl rfl dX0_asked_1 ?_
  refine v_iload_n C (n := 2) rfl rfl dX0_asked_2 ?_
  refine v_aload_n C (n := 1) rfl rfl dX0_asked_3 ?_
  refine v_iload_n C (n := 2) rfl rfl dX0_asked_4 ?_
  refine v_cvRi C (d := 0) (hR.le (by omega)) (c := 3) rfl cv_X0_36 (by decide) ha0 (by decide) [.int a1] rfl (fun _ hc => s_X3_stepKind G Z hG hZ   ha0 hc) (Nat.le_of_ble_eq_true rfl) dX0_asked_5 rfl (fun r1 => ?_)
  refine v_iload_n C (n := 3) rfl rfl dX0_asked_8 ?_
  refine v_csRi C (d := 1) (hR.le (by omega)) cs_X0_42 (by decide) [.int r1, .int a2] rfl (fun _ hc => s_X0_bodyFor G Z hG hZ   hc) (Nat.le_of_ble_eq_true rfl) dX0_asked_9 rfl (fun r2 => ?_)
  refine v_iload C (n := 4) rfl dX0_asked_12 ?_
  refine v_iconst C (v := 1) (by decide) dX0_asked_14 ?_
  refine v_iadd C dX0_asked_15 ?_
  refine v_cvIi C (d := (2 * n + 2)) (hR.le (by omega)) (c := 0) rfl cv_X0_46 (by decide) ht (by decide) [.ref (ga G a0), .int a1, .int r2, .int (a3 + 1)] rfl (fun _ hc => hgv ht ha0 hc) (Nat.le_of_ble_eq_true rfl) dX0_asked_16 rfl (fun r3 ν4 => ?_)
  exact v_iret C hr dX0_asked_19 (fun a h => by have h := Option.some.inj h; subst h; rfl)
set_option maxRecDepth 20000 in
set_option maxHeartbeats 4000000 in
theorem s_X0_given {l : Launch} (G : GT) (Z : ZT) (hG : DA G) (hZ : WT G Z) : ∀ (n : Nat) {this : Nat} {a0 : Nat} {a1 : Int32} {a2 : Int32} {a3 : Int32} {μ : MT} {q : Int32 × MT} (ht : Ob G Z this 0) (ha0 : Ob G Z a0 3) (hq : m_X0_given Z (n) this a0 a1 a2 a3 μ = some q), MZ l G Z yX0_given cX0_given 5 (some .int) (2 * n + 2) [.ref (ga G this), .ref (ga G a0), .int a1, .int a2, .int a3] μ (some (.int q.1)) q.2 := by
  intro n
  induction n generalizing l with
  | zero =>
    intro this a0 a1 a2 a3 μ q ht ha0 hq
    cases hq
  | succ n ih_X0_given =>
  intro this a0 a1 a2 a3 μ q ht ha0 hq
  refine v_met (J := (fun q : Int32 × MT => (some (.int q.1), q.2))) hG hZ (by decide) (Nat.le_of_ble_eq_true rfl) hq ?_
  intro x C hR _ hr
  show VK x G Z (0, 0) 5 (QM x G Z) (fun q : Int32 × MT => (some (.int q.1), q.2)) 0 [(0, .ref (ga G this)), (1, .ref (ga G a0)), (2, .int a1), (3, .int a2), (4, .int a3)] [] μ _ some
  unfold m_X0_given
  refine v_iload C (n := 4) rfl dX0_given_0 ?_
  refine v_bipush C (v := 16) (by decide) dX0_given_2 ?_
  refine v_icle C (t := 9) dX0_given_4 (by decide) ?_ ?_
  · refine v_aload_n C (n := 0) rfl rfl dX0_given_9 ?_
    refine v_iload_n C (n := 3) rfl rfl dX0_given_10 ?_
    refine v_cvIv C (d := 0) (hR.le (by omega)) (c := 0) rfl cv_X0_49 (by decide) ht (by decide) [.int a2] rfl (fun _ hc => s_X0_leave G Z hG hZ   ht hc) (Nat.le_of_ble_eq_true rfl) dX0_given_11 rfl (fun ν1 => ?_)
    refine v_iload_n C (n := 3) rfl rfl dX0_given_14 ?_
    refine v_case (fun c2 => ?_) (fun c2 => ?_)
    · refine v_tin C (t := 84) (k := 10) c2 dX0_given_15 (by decide) (by decide) rfl (by decide) ?_
      refine v_aload_n C (n := 1) rfl rfl dX0_given_84 ?_
      refine v_getrN C (t := 20) fn_X0_53 rfl rfl ha0 dX0_given_85 (fun h3 => ?_)
      refine v_iload_n C (n := 2) rfl rfl dX0_given_88 ?_
      refine v_iald C h3.oa dX0_given_89 (fun x4 => ?_)
      exact v_iret C hr dX0_given_90 (fun a h => by have h := Option.some.inj h; subst h; rfl)
    refine v_case (fun c5 => ?_) (fun c5 => ?_)
    · refine v_tin C (t := 91) (k := 11) c5 dX0_given_15 (by decide) (by decide) rfl (by decide) ?_
      refine v_aload_n C (n := 0) rfl rfl dX0_given_91 ?_
      refine v_aload_n C (n := 1) rfl rfl dX0_given_92 ?_
      refine v_iload_n C (n := 2) rfl rfl dX0_given_93 ?_
      refine v_bipush C (v := 10) (by decide) dX0_given_94 ?_
      refine v_iload C (n := 4) rfl dX0_given_96 ?_
      refine v_iconst C (v := 1) (by decide) dX0_given_98 ?_
      refine v_iadd C dX0_given_99 ?_
      refine v_cvIi C (d := (2 * n + 2)) (hR.le (by omega)) (c := 0) rfl cv_X0_46 (by decide) ht (by decide) [.ref (ga G a0), .int a1, .int 10, .int (a3 + 1)] rfl (fun _ hc => ih_X0_given ht ha0 hc) (Nat.le_of_ble_eq_true rfl) dX0_given_100 rfl (fun r6 ν7 => ?_)
      refine v_aload_n C (n := 0) rfl rfl dX0_given_103 ?_
      refine v_aload_n C (n := 1) rfl rfl dX0_given_104 ?_
      refine v_iload_n C (n := 2) rfl rfl dX0_given_105 ?_
      refine v_iconst C (v := 1) (by decide) dX0_given_106 ?_
      refine v_iload C (n := 4) rfl dX0_given_107 ?_
      refine v_iconst C (v := 1) (by decide) dX0_given_109 ?_
      refine v_iadd C dX0_given_110 ?_
      refine v_cvIi C (d := (2 * n + 3)) (hR.le (by omega)) (c := 0) rfl cv_X0_32 (by decide) ht (by decide) [.ref (ga G a0), .int a1, .int 1, .int (a3 + 1)] rfl (fun _ hc => s_X0_asked G Z hG hZ n ih_X0_given ht ha0 hc) (Nat.le_of_ble_eq_true rfl) dX0_given_111 rfl (fun r8 ν9 => ?_)
      refine v_iadd C dX0_given_114 ?_
      exact v_iret C hr dX0_given_115 (fun a h => by have h := Option.some.inj h; subst h; rfl)
    refine v_case (fun c10 => ?_) (fun c10 => ?_)
    · refine v_tin C (t := 116) (k := 12) c10 dX0_given_15 (by decide) (by decide) rfl (by decide) ?_
      refine v_aload_n C (n := 0) rfl rfl dX0_given_116 ?_
      refine v_aload_n C (n := 1) rfl rfl dX0_given_117 ?_
      refine v_iload_n C (n := 2) rfl rfl dX0_given_118 ?_
      refine v_bipush C (v := 11) (by decide) dX0_given_119 ?_
      refine v_iload C (n := 4) rfl dX0_given_121 ?_
      refine v_iconst C (v := 1) (by decide) dX0_given_123 ?_
      refine v_iadd C dX0_given_124 ?_
      refine v_cvIi C (d := (2 * n + 2)) (hR.le (by omega)) (c := 0) rfl cv_X0_46 (by decide) ht (by decide) [.ref (ga G a0), .int a1, .int 11, .int (a3 + 1)] rfl (fun _ hc => ih_X0_given ht ha0 hc) (Nat.le_of_ble_eq_true rfl) dX0_given_125 rfl (fun r11 ν12 => ?_)
      refine v_iconst C (v := 1) (by decide) dX0_given_128 ?_
      refine v_isub C dX0_given_129 ?_
      exact v_iret C hr dX0_given_130 (fun a h => by have h := Option.some.inj h; subst h; rfl)
    refine v_case (fun c13 => ?_) (fun c13 => ?_)
    · refine v_tin C (t := 131) (k := 13) c13 dX0_given_15 (by decide) (by decide) rfl (by decide) ?_
      refine v_iconst C (v := 2) (by decide) dX0_given_131 ?_
      refine v_aload_n C (n := 0) rfl rfl dX0_given_132 ?_
      refine v_aload_n C (n := 1) rfl rfl dX0_given_133 ?_
      refine v_iload_n C (n := 2) rfl rfl dX0_given_134 ?_
      refine v_bipush C (v := 12) (by decide) dX0_given_135 ?_
      refine v_iload C (n := 4) rfl dX0_given_137 ?_
      refine v_iconst C (v := 1) (by decide) dX0_given_139 ?_
      refine v_iadd C dX0_given_140 ?_
      refine v_cvIi C (d := (2 * n + 2)) (hR.le (by omega)) (c := 0) rfl cv_X0_46 (by decide) ht (by decide) [.ref (ga G a0), .int a1, .int 12, .int (a3 + 1)] rfl (fun _ hc => ih_X0_given ht ha0 hc) (Nat.le_of_ble_eq_true rfl) dX0_given_141 rfl (fun r14 ν15 => ?_)
      refine v_imul C dX0_given_144 ?_
      exact v_iret C hr dX0_given_145 (fun a h => by have h := Option.some.inj h; subst h; rfl)
    refine v_case (fun c16 => ?_) (fun c16 => ?_)
    · refine v_tin C (t := 146) (k := 14) c16 dX0_given_15 (by decide) (by decide) rfl (by decide) ?_
      refine v_aload_n C (n := 0) rfl rfl dX0_given_146 ?_
      refine v_aload_n C (n := 1) rfl rfl dX0_given_147 ?_
      refine v_iload_n C (n := 2) rfl rfl dX0_given_148 ?_
      refine v_bipush C (v := 10) (by decide) dX0_given_149 ?_
      refine v_iload C (n := 4) rfl dX0_given_151 ?_
      refine v_iconst C (v := 1) (by decide) dX0_given_153 ?_
      refine v_iadd C dX0_given_154 ?_
      refine v_cvIi C (d := (2 * n + 2)) (hR.le (by omega)) (c := 0) rfl cv_X0_46 (by decide) ht (by decide) [.ref (ga G a0), .int a1, .int 10, .int (a3 + 1)] rfl (fun _ hc => ih_X0_given ht ha0 hc) (Nat.le_of_ble_eq_true rfl) dX0_given_155 rfl (fun r17 ν18 => ?_)
      refine v_ineg C dX0_given_158 ?_
      exact v_iret C hr dX0_given_159 (fun a h => by have h := Option.some.inj h; subst h; rfl)
    refine v_case (fun c19 => ?_) (fun c19 => ?_)
    · refine v_tin C (t := 160) (k := 20) c19 dX0_given_15 (by decide) (by decide) rfl (by decide) ?_
      refine v_iload_n C (n := 2) rfl rfl dX0_given_160 ?_
      exact v_iret C hr dX0_given_161 (fun a h => by have h := Option.some.inj h; subst h; rfl)
    refine v_case (fun c20 => ?_) (fun c20 => ?_)
    · refine v_tin C (t := 162) (k := 21) c20 dX0_given_15 (by decide) (by decide) rfl (by decide) ?_
      refine v_aload_n C (n := 0) rfl rfl dX0_given_162 ?_
      refine v_aload_n C (n := 1) rfl rfl dX0_given_163 ?_
      refine v_iload_n C (n := 2) rfl rfl dX0_given_164 ?_
      refine v_bipush C (v := 20) (by decide) dX0_given_165 ?_
      refine v_iload C (n := 4) rfl dX0_given_167 ?_
      refine v_iconst C (v := 1) (by decide) dX0_given_169 ?_
      refine v_iadd C dX0_given_170 ?_
      refine v_cvIi C (d := (2 * n + 2)) (hR.le (by omega)) (c := 0) rfl cv_X0_46 (by decide) ht (by decide) [.ref (ga G a0), .int a1, .int 20, .int (a3 + 1)] rfl (fun _ hc => ih_X0_given ht ha0 hc) (Nat.le_of_ble_eq_true rfl) dX0_given_171 rfl (fun r21 ν22 => ?_)
      refine v_bipush C (v := 100) (by decide) dX0_given_174 ?_
      refine v_iadd C dX0_given_176 ?_
      exact v_iret C hr dX0_given_177 (fun a h => by have h := Option.some.inj h; subst h; rfl)
    refine v_case (fun c23 => ?_) (fun c23 => ?_)
    · refine v_tin C (t := 178) (k := 22) c23 dX0_given_15 (by decide) (by decide) rfl (by decide) ?_
      refine v_aload_n C (n := 0) rfl rfl dX0_given_178 ?_
      refine v_aload_n C (n := 1) rfl rfl dX0_given_179 ?_
      refine v_iload_n C (n := 2) rfl rfl dX0_given_180 ?_
      refine v_bipush C (v := 20) (by decide) dX0_given_181 ?_
      refine v_iload C (n := 4) rfl dX0_given_183 ?_
      refine v_iconst C (v := 1) (by decide) dX0_given_185 ?_
      refine v_iadd C dX0_given_186 ?_
      refine v_cvIi C (d := (2 * n + 2)) (hR.le (by omega)) (c := 0) rfl cv_X0_46 (by decide) ht (by decide) [.ref (ga G a0), .int a1, .int 20, .int (a3 + 1)] rfl (fun _ hc => ih_X0_given ht ha0 hc) (Nat.le_of_ble_eq_true rfl) dX0_given_187 rfl (fun r24 ν25 => ?_)
      refine v_ineg C dX0_given_190 ?_
      exact v_iret C hr dX0_given_191 (fun a h => by have h := Option.some.inj h; subst h; rfl)
    refine v_case (fun c26 => ?_) (fun c26 => ?_)
    · refine v_tin C (t := 192) (k := 23) c26 dX0_given_15 (by decide) (by decide) rfl (by decide) ?_
      refine v_aload_n C (n := 0) rfl rfl dX0_given_192 ?_
      refine v_aload_n C (n := 1) rfl rfl dX0_given_193 ?_
      refine v_iload_n C (n := 2) rfl rfl dX0_given_194 ?_
      refine v_bipush C (v := 20) (by decide) dX0_given_195 ?_
      refine v_iload C (n := 4) rfl dX0_given_197 ?_
      refine v_iconst C (v := 1) (by decide) dX0_given_199 ?_
      refine v_iadd C dX0_given_200 ?_
      refine v_cvIi C (d := (2 * n + 2)) (hR.le (by omega)) (c := 0) rfl cv_X0_46 (by decide) ht (by decide) [.ref (ga G a0), .int a1, .int 20, .int (a3 + 1)] rfl (fun _ hc => ih_X0_given ht ha0 hc) (Nat.le_of_ble_eq_true rfl) dX0_given_201 rfl (fun r27 ν28 => ?_)
      refine v_aload_n C (n := 0) rfl rfl dX0_given_204 ?_
      refine v_aload_n C (n := 1) rfl rfl dX0_given_205 ?_
      refine v_iload_n C (n := 2) rfl rfl dX0_given_206 ?_
      refine v_iconst C (v := 0) (by decide) dX0_given_207 ?_
      refine v_iload C (n := 4) rfl dX0_given_208 ?_
      refine v_iconst C (v := 1) (by decide) dX0_given_210 ?_
      refine v_iadd C dX0_given_211 ?_
      refine v_cvIi C (d := (2 * n + 3)) (hR.le (by omega)) (c := 0) rfl cv_X0_32 (by decide) ht (by decide) [.ref (ga G a0), .int a1, .int 0, .int (a3 + 1)] rfl (fun _ hc => s_X0_asked G Z hG hZ n ih_X0_given ht ha0 hc) (Nat.le_of_ble_eq_true rfl) dX0_given_212 rfl (fun r29 ν30 => ?_)
      refine v_iadd C dX0_given_215 ?_
      exact v_iret C hr dX0_given_216 (fun a h => by have h := Option.some.inj h; subst h; rfl)
    have nc2 := lv_neT (k := 10) (a := 10) c2 (by decide)
    have nc5 := lv_neT (k := 11) (a := 11) c5 (by decide)
    have nc10 := lv_neT (k := 12) (a := 12) c10 (by decide)
    have nc13 := lv_neT (k := 13) (a := 13) c13 (by decide)
    have nc16 := lv_neT (k := 14) (a := 14) c16 (by decide)
    have nc19 := lv_neT (k := 20) (a := 20) c19 (by decide)
    have nc20 := lv_neT (k := 21) (a := 21) c20 (by decide)
    have nc23 := lv_neT (k := 22) (a := 22) c23 (by decide)
    have nc26 := lv_neT (k := 23) (a := 23) c26 (by decide)
    refine v_tout2 C (t := 217) dX0_given_15 (by
      by_cases k15 : a2 = 15
      · exact Or.inr ⟨by rw [k15]; decide, by rw [k15]; decide, by rw [k15]; rfl⟩
      have nk15 := lv_neT (k := 15) (a := 15) k15 (by decide)
      by_cases k16 : a2 = 16
      · exact Or.inr ⟨by rw [k16]; decide, by rw [k16]; decide, by rw [k16]; rfl⟩
      have nk16 := lv_neT (k := 16) (a := 16) k16 (by decide)
      by_cases k17 : a2 = 17
      · exact Or.inr ⟨by rw [k17]; decide, by rw [k17]; decide, by rw [k17]; rfl⟩
      have nk17 := lv_neT (k := 17) (a := 17) k17 (by decide)
      by_cases k18 : a2 = 18
      · exact Or.inr ⟨by rw [k18]; decide, by rw [k18]; decide, by rw [k18]; rfl⟩
      have nk18 := lv_neT (k := 18) (a := 18) k18 (by decide)
      by_cases k19 : a2 = 19
      · exact Or.inr ⟨by rw [k19]; decide, by rw [k19]; decide, by rw [k19]; rfl⟩
      have nk19 := lv_neT (k := 19) (a := 19) k19 (by decide)
      exact Or.inl (by omega)) (by decide) ?_
    refine v_iconst C (v := 0) (by decide) dX0_given_217 ?_
    exact v_iret C hr dX0_given_218 (fun a h => by have h := Option.some.inj h; subst h; rfl)
  · refine v_iconst C (v := 0) (by decide) dX0_given_7 ?_
    exact v_iret C hr dX0_given_8 (fun a h => by have h := Option.some.inj h; subst h; rfl)
set_option maxRecDepth 20000 in
set_option maxHeartbeats 4000000 in
theorem s_X0_answerOf {l : Launch} (G : GT) (Z : ZT) (hG : DA G) (hZ : WT G Z) {this : Nat} {a0 : Nat} {a1 : Int32} {a2 : Int32} {μ : MT} {q : Int32 × MT} (ht : Ob G Z this 0) (ha0 : Ob G Z a0 3) (hq : m_X0_answerOf Z this a0 a1 a2 μ = some q) : MZ l G Z yX0_answerOf cX0_answerOf 4 (some .int) 44 [.ref (ga G this), .ref (ga G a0), .int a1, .int a2] μ (some (.int q.1)) q.2 := by
  refine v_met (J := (fun q : Int32 × MT => (some (.int q.1), q.2))) hG hZ (by decide) (Nat.le_of_ble_eq_true rfl) hq ?_
  intro x C hR _ hr
  show VK x G Z (0, 0) 4 (QM x G Z) (fun q : Int32 × MT => (some (.int q.1), q.2)) 0 [(0, .ref (ga G this)), (1, .ref (ga G a0)), (2, .int a1), (3, .int a2)] [] μ _ some
  unfold m_X0_answerOf
  refine v_aload_n C (n := 0) rfl rfl dX0_answerOf_0 ?_
  refine v_iconst C (v := 0) (by decide) dX0_answerOf_1 ?_
  refine v_puti C fp_X0_15 rfl rfl ht dX0_answerOf_2 (fun ν1 => ?_)
  refine v_aload_n C (n := 0) rfl rfl dX0_answerOf_5 ?_
  refine v_aload_n C (n := 1) rfl rfl dX0_answerOf_6 ?_
  refine v_iload_n C (n := 2) rfl rfl dX0_answerOf_7 ?_
  refine v_iload_n C (n := 3) rfl rfl dX0_answerOf_8 ?_
  refine v_iconst C (v := 0) (by decide) dX0_answerOf_9 ?_
  refine v_cvIi C (d := (2 * 20 + 3)) (hR.le (by omega)) (c := 0) rfl cv_X0_32 (by decide) ht (by decide) [.ref (ga G a0), .int a1, .int a2, .int 0] rfl (fun _ hc => s_X0_asked G Z hG hZ 20 (s_X0_given G Z hG hZ 20) ht ha0 hc) (Nat.le_of_ble_eq_true rfl) dX0_answerOf_10 rfl (fun r2 ν3 => ?_)
  exact v_iret C hr dX0_answerOf_13 (fun a h => by have h := Option.some.inj h; subst h; rfl)
set_option maxRecDepth 20000 in
set_option maxHeartbeats 4000000 in
theorem s_X8_ask {l : Launch} (G : GT) (Z : ZT) (hG : DA G) (hZ : WT G Z) {this : Nat} {a0 : Int32} {a1 : Int32} {μ : MT} {q : Int32 × MT} (ht : Ob G Z this 8) (hq : m_X8_ask Z (gn G) this a0 a1 μ = some q) : MZ l G Z yX8_ask cX8_ask 3 (some .int) 45 [.ref (ga G this), .int a0, .int a1] μ (some (.int q.1)) q.2 := by
  refine v_met (J := (fun q : Int32 × MT => (some (.int q.1), q.2))) hG hZ (by decide) (Nat.le_of_ble_eq_true rfl) hq ?_
  intro x C hR _ hr
  show VK x G Z (0, 0) 3 (QM x G Z) (fun q : Int32 × MT => (some (.int q.1), q.2)) 0 [(0, .ref (ga G this)), (1, .int a0), (2, .int a1)] [] μ _ some
  unfold m_X8_ask
  refine v_aload_n C (n := 0) rfl rfl dX8_ask_0 ?_
  refine v_getm C fl_X8_76 rfl ht dX8_ask_1 (fun q1 h2 => ?_)
  refine v_iload_n C (n := 1) rfl rfl dX8_ask_4 ?_
  refine v_cvRi C (d := 1) (hR.le (by omega)) (c := 3) rfl cv_X8_192 (by decide) h2 (by decide) [.int a0] rfl (fun _ hc => s_X3_isStep G Z hG hZ   h2 hc) (Nat.le_of_ble_eq_true rfl) dX8_ask_5 rfl (fun r3 => ?_)
  refine v_ifeq C (t := 20) dX8_ask_8 (by decide) ?_ ?_
  · refine v_ldc C (v := (-1000001)) (w4 13 rfl) dX8_ask_20 ?_
    exact v_iret C hr dX8_ask_22 (fun a h => by have h := Option.some.inj h; subst h; rfl)
  · refine v_iload_n C (n := 2) rfl rfl dX8_ask_11 ?_
    refine v_joinm 23 (fun t : Unit => [(0, .ref (ga G this)), (1, .int a0), (2, .int a1)]) (fun t : Unit => []) (fun t : Unit => μ) ?_ ?_
    · rintro ⟨⟩
      refine v_aload_n C (n := 0) rfl rfl dX8_ask_23 ?_
      refine v_getr C (t := 0) fl_X8_69 rfl rfl ht dX8_ask_24 (fun h7 => ?_)
      refine v_aload_n C (n := 0) rfl rfl dX8_ask_27 ?_
      refine v_getm C fl_X8_76 rfl ht dX8_ask_28 (fun q8 h9 => ?_)
      refine v_iload_n C (n := 1) rfl rfl dX8_ask_31 ?_
      refine v_iload_n C (n := 2) rfl rfl dX8_ask_32 ?_
      refine v_cvIi C (d := 44) (hR.le (by omega)) (c := 0) rfl cv_X8_322 (by decide) h7 (by decide) [.ref (ga G q8), .int a0, .int a1] rfl (fun _ hc => s_X0_answerOf G Z hG hZ   h7 h9 hc) (Nat.le_of_ble_eq_true rfl) dX8_ask_33 rfl (fun r10 ν11 => ?_)
      exact v_iret C hr dX8_ask_36 (fun a h => by have h := Option.some.inj h; subst h; rfl)
    intro F5 e6 hF4
    refine v_ifeq C (t := 23) dX8_ask_12 (by decide) ?_ ?_
    · exact v_leaf (hF4 ())
    · refine v_iload_n C (n := 2) rfl rfl dX8_ask_15 ?_
      refine v_iconst C (v := 1) (by decide) dX8_ask_16 ?_
      refine v_iceq C (t := 23) dX8_ask_17 (by decide) ?_ ?_
      · exact v_leaf (hF4 ())
      · refine v_ldc C (v := (-1000001)) (w4 13 rfl) dX8_ask_20 ?_
        exact v_iret C hr dX8_ask_22 (fun a h => by simp only [ob_s, lq, e6] at h; have h := Option.some.inj h; subst h; rfl)
