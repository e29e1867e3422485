set_option maxRecDepth 20000 in
set_option maxHeartbeats 4000000 in
theorem s_X5_tryFrom {l : Launch} (G : GT) (Z : ZT) (hG : DA G) (hZ : WT G Z) : ∀ (n : Nat) {this : Nat} {a0 : Nat} {a1 : Int32} {a2 : Int32} {μ : MT} {q : MT} (ht : Ob G Z this 5) (ha0 : Ob G Z a0 3) (hq : m_X5_tryFrom Z (n) this a0 a1 a2 μ = some q), MZ l G Z yX5_tryFrom cX5_tryFrom 5 none (n + 4) [.ref (ga G this), .ref (ga G a0), .int a1, .int a2] μ none q := by
  intro n
  induction n generalizing l with
  | zero =>
    intro this a0 a1 a2 μ q ht ha0 hq
    cases hq
  | succ n ih_X5_tryFrom =>
  intro this a0 a1 a2 μ q ht ha0 hq
  refine v_met (J := (fun ν : MT => ((none : Option Value), ν))) hG hZ (by decide) (Nat.le_of_ble_eq_true rfl) hq ?_
  intro x C hR _ hr
  show VK x G Z (0, 0) 5 (QM x G Z) (fun ν : MT => ((none : Option Value), ν)) 0 [(0, .ref (ga G this)), (1, .ref (ga G a0)), (2, .int a1), (3, .int a2)] [] μ _ some
  unfold m_X5_tryFrom
  refine v_iload_n C (n := 2) rfl rfl dX5_tryFrom_0 ?_
  refine v_aload_n C (n := 1) rfl rfl dX5_tryFrom_1 ?_
  refine v_getiN C fn_X5_52 rfl ha0 dX5_tryFrom_2 ?_
  refine v_joinm 14 (fun t : MT => [(0, .ref (ga G this)), (2, .int a1)]) (fun t : MT => []) (fun t : MT => t) ?_ ?_
  · intro ν1
    refine v_aload_n C (n := 0) rfl rfl dX5_tryFrom_14 ?_
    refine v_aload_n C (n := 0) rfl rfl dX5_tryFrom_15 ?_
    refine v_getr C (t := 24) fl_X5_11 rfl rfl ht dX5_tryFrom_16 (fun h5 => ?_)
    refine v_iload_n C (n := 1) rfl rfl dX5_tryFrom_19 ?_
    refine v_aald C h5 dX5_tryFrom_20 (fun q6 h7 => ?_)
    refine v_iload_n C (n := 1) rfl rfl dX5_tryFrom_21 ?_
    refine v_cvIv C (d := 3) (hR.le (by omega)) (c := 5) rfl cv_X5_55 (by decide) ht (by decide) [.ref (ga G q6), .int a1] rfl (fun _ hc => s_X5_weigh G Z hG hZ   ht h7 hc) (Nat.le_of_ble_eq_true rfl) dX5_tryFrom_22 rfl (fun ν8 => ?_)
    exact v_vret C hr dX5_tryFrom_25 (fun a h => by have h := Option.some.inj h; subst h; rfl)
  intro F3 e4 hF2
  refine v_icge C (t := 14) dX5_tryFrom_5 (by decide) ?_ ?_
  · refine v_sub (lv' := [(0, .ref (ga G this)), (2, .int a1)]) [0, 2] rfl ?_
    exact v_leaf (hF2 μ)
  · refine v_iload_n C (n := 2) rfl rfl dX5_tryFrom_8 ?_
    refine v_bipush C (v := 6) (by decide) dX5_tryFrom_9 ?_
    refine v_iclt C (t := 26) dX5_tryFrom_11 (by decide) ?_ ?_
    · refine v_iconst C (v := 0) (by decide) dX5_tryFrom_26 ?_
      refine v_istore C (lv' := [(4, .int 0), (0, .ref (ga G this)), (1, .ref (ga G a0)), (2, .int a1), (3, .int a2)]) (by decide) rfl dX5_tryFrom_27 ?_
      refine v_sub (lv' := [(0, .ref (ga G this)), (1, .ref (ga G a0)), (2, .int a1), (3, .int a2), (4, .int 0)]) [1, 2, 3, 4, 0] rfl ?_
      refine v_lp 29 107 (fun t : Int32 × MT => [(0, .ref (ga G this)), (1, .ref (ga G a0)), (2, .int a1), (3, .int a2), (4, .int (t.1))]) (fun t : Int32 × MT => t.2) (fun t : MT => []) (fun t : MT => t) ?_ ?_ LN (0, μ)
      · intro ν11
        exact v_vret C hr dX5_tryFrom_107 (fun a h => by simp only [ob_s, lq, e4] at h; have h := Option.some.inj h; subst h; rfl)
      · intro X12 F14 hX13 hF15
        rintro ⟨y9, ν10⟩
        refine v_iload C (n := 4) rfl dX5_tryFrom_29 ?_
        refine v_aload_n C (n := 1) rfl rfl dX5_tryFrom_31 ?_
        refine v_getiN C fn_X5_52 rfl ha0 dX5_tryFrom_32 ?_
        refine v_icge C (t := 107) dX5_tryFrom_35 (by decide) ?_ ?_
        · refine v_sub (lv' := []) [] rfl ?_
          exact v_leaf (hF15 ν10)
        · refine v_aload_n C (n := 1) rfl rfl dX5_tryFrom_38 ?_
          refine v_iload C (n := 4) rfl dX5_tryFrom_39 ?_
          refine v_iload_n C (n := 3) rfl rfl dX5_tryFrom_41 ?_
          refine v_cvRi C (d := 1) (hR.le (by omega)) (c := 3) rfl cv_X5_59 (by decide) ha0 (by decide) [.int y9, .int a2] rfl (fun _ hc => s_X3_mayFollow G Z hG hZ   ha0 hc) (Nat.le_of_ble_eq_true rfl) dX5_tryFrom_42 rfl (fun r16 => ?_)
          refine v_join 101 (fun t : MT => [(0, .ref (ga G this)), (1, .ref (ga G a0)), (2, .int a1), (3, .int a2), (4, .int y9)]) (fun t : MT => []) (fun t : MT => t) ?_ ?_
          · intro ν17
            refine v_iinc C (n := 4) (v := y9 + 1) (lv' := [(4, .int (y9 + 1)), (0, .ref (ga G this)), (1, .ref (ga G a0)), (2, .int a1), (3, .int a2)]) rfl (congrArg (y9 + ·) (by decide : Int32.ofInt (1) = (1 : Int32))) (by decide) rfl dX5_tryFrom_101 ?_
            refine v_let (y := y9 + 1) (fun x20 => [(4, .int x20), (0, .ref (ga G this)), (1, .ref (ga G a0)), (2, .int a1), (3, .int a2)]) (fun x20 => []) (fun x20 => ?_)
            refine v_goto C (t := 29) (by decide) dX5_tryFrom_104 ?_
            refine v_sub (lv' := [(0, .ref (ga G this)), (1, .ref (ga G a0)), (2, .int a1), (3, .int a2), (4, .int x20)]) [1, 2, 3, 4, 0] rfl ?_
            exact v_leaf (hX13 (x20, ν17))
          intro F19 hF18
          refine v_ifeq C (t := 101) dX5_tryFrom_45 (by decide) ?_ ?_
          · exact v_leaf (hF18 ν10)
          · refine v_aload_n C (n := 0) rfl rfl dX5_tryFrom_48 ?_
            refine v_getr C (t := 24) fl_X5_11 rfl rfl ht dX5_tryFrom_49 (fun h21 => ?_)
            refine v_iload_n C (n := 2) rfl rfl dX5_tryFrom_52 ?_
            refine v_iconst C (v := 1) (by decide) dX5_tryFrom_53 ?_
            refine v_iadd C dX5_tryFrom_54 ?_
            refine v_aald C h21 dX5_tryFrom_55 (fun q22 h23 => ?_)
            refine v_aload_n C (n := 0) rfl rfl dX5_tryFrom_56 ?_
            refine v_getr C (t := 24) fl_X5_11 rfl rfl ht dX5_tryFrom_57 (fun h24 => ?_)
            refine v_iload_n C (n := 2) rfl rfl dX5_tryFrom_60 ?_
            refine v_aald C h24 dX5_tryFrom_61 (fun q25 h26 => ?_)
            refine v_cvIv C (d := 1) (hR.le (by omega)) (c := 2) rfl cv_X5_63 (by decide) h23 (by decide) [.ref (ga G q25)] rfl (fun _ hc => s_X2_becomeAs G Z hG hZ   h23 h26 hc) (Nat.le_of_ble_eq_true rfl) dX5_tryFrom_62 rfl (fun ν27 => ?_)
            refine v_aload_n C (n := 0) rfl rfl dX5_tryFrom_65 ?_
            refine v_getr C (t := 24) fl_X5_11 rfl rfl ht dX5_tryFrom_66 (fun h28 => ?_)
            refine v_iload_n C (n := 2) rfl rfl dX5_tryFrom_69 ?_
            refine v_iconst C (v := 1) (by decide) dX5_tryFrom_70 ?_
            refine v_iadd C dX5_tryFrom_71 ?_
            refine v_aald C h28 dX5_tryFrom_72 (fun q29 h30 => ?_)
            refine v_aload_n C (n := 1) rfl rfl dX5_tryFrom_73 ?_
            refine v_iload C (n := 4) rfl dX5_tryFrom_74 ?_
            refine v_cvIv C (d := 3) (hR.le (by omega)) (c := 2) rfl cv_X5_67 (by decide) h30 (by decide) [.ref (ga G a0), .int y9] rfl (fun _ hc => s_X2_doSeam G Z hG hZ   h30 ha0 hc) (Nat.le_of_ble_eq_true rfl) dX5_tryFrom_76 rfl (fun ν31 => ?_)
            refine v_aload_n C (n := 0) rfl rfl dX5_tryFrom_79 ?_
            refine v_getr C (t := 20) fl_X5_17 rfl rfl ht dX5_tryFrom_80 (fun h32 => ?_)
            refine v_iload_n C (n := 2) rfl rfl dX5_tryFrom_83 ?_
            refine v_iload C (n := 4) rfl dX5_tryFrom_84 ?_
            refine v_iast C h32 dX5_tryFrom_86 (fun ν33 => ?_)
            refine v_aload_n C (n := 0) rfl rfl dX5_tryFrom_87 ?_
            refine v_aload_n C (n := 1) rfl rfl dX5_tryFrom_88 ?_
            refine v_iload_n C (n := 2) rfl rfl dX5_tryFrom_89 ?_
            refine v_iconst C (v := 1) (by decide) dX5_tryFrom_90 ?_
            refine v_iadd C dX5_tryFrom_91 ?_
            refine v_iload_n C (n := 3) rfl rfl dX5_tryFrom_92 ?_
            refine v_iconst C (v := 1) (by decide) dX5_tryFrom_93 ?_
            refine v_iload C (n := 4) rfl dX5_tryFrom_94 ?_
            refine v_ishl C dX5_tryFrom_96 ?_
            refine v_ior C dX5_tryFrom_97 ?_
            refine v_cvIv C (d := (n + 4)) (hR.le (by omega)) (c := 5) rfl cv_X5_48 (by decide) ht (by decide) [.ref (ga G a0), .int (a1 + 1), .int (a2 ||| (1 <<< (y9 &&& 31)))] rfl (fun _ hc => ih_X5_tryFrom   ht ha0 hc) (Nat.le_of_ble_eq_true rfl) dX5_tryFrom_98 rfl (fun ν34 => ?_)
            exact v_leaf (hF18 ν34)
    · refine v_sub (lv' := [(0, .ref (ga G this)), (2, .int a1)]) [0, 2] rfl ?_
      exact v_leaf (hF2 μ)
set_option maxRecDepth 20000 in
set_option maxHeartbeats 4000000 in
theorem s_X7_actHere {l : Launch} (G : GT) (Z : ZT) (hG : DA G) (hZ : WT G Z) {this : Nat} {μ : MT} {q : Int32} (ht : Ob G Z this 7) (hq : m_X7_actHere Z this μ = some q) : MZ l G Z yX7_actHere cX7_actHere 2 (some .int) 6 [.ref (ga G this)] μ (some (.int q)) μ := by
  refine v_met (J := (fun r : Int32 => (some (.int r), μ))) hG hZ (by decide) (Nat.le_of_ble_eq_true rfl) hq ?_
  intro x C hR _ hr
  show VK x G Z (0, 0) 2 (QM x G Z) (fun r : Int32 => (some (.int r), μ)) 0 [(0, .ref (ga G this))] [] μ _ some
  unfold m_X7_actHere
  refine v_iconst C (v := 0) (by decide) dX7_actHere_0 ?_
  refine v_istore_n C (lv' := [(1, .int 0), (0, .ref (ga G this))]) rfl (by decide) rfl dX7_actHere_1 ?_
  refine v_sub (lv' := [(0, .ref (ga G this)), (1, .int 0)]) [1, 0] rfl ?_
  refine v_lpm 2 24 (fun t : Int32 => [(0, .ref (ga G this)), (1, .int t)]) (fun t : Int32 => μ) (fun t : Unit => []) (fun t : Unit => μ) ?_ ?_ LN 0
  · rintro ⟨⟩
    refine v_iconst C (v := (-1)) (by decide) dX7_actHere_24 ?_
    exact v_iret C hr dX7_actHere_25 (fun a h => by have h := Option.some.inj h; subst h; rfl)
  · intro X2 F4 e6 hX3 hF5
    intro y1
    refine v_iload_n C (n := 1) rfl rfl dX7_actHere_2 ?_
    refine v_bipush C (v := 9) (by decide) dX7_actHere_3 ?_
    refine v_icgt C (t := 24) dX7_actHere_5 (by decide) ?_ ?_
    · refine v_sub (lv' := []) [] rfl ?_
      exact v_leaf (hF5 ())
    · refine v_aload_n C (n := 0) rfl rfl dX7_actHere_8 ?_
      refine v_iload_n C (n := 1) rfl rfl dX7_actHere_9 ?_
      refine v_cvRi C (d := 5) (hR.le (by omega)) (c := 7) rfl cv_X7_81 (by decide) ht (by decide) [.int y1] rfl (fun _ hc => s_X7_atWord G Z hG hZ   ht hc) (Nat.le_of_ble_eq_true rfl) dX7_actHere_10 rfl (fun r7 => ?_)
      refine v_ifeq C (t := 18) dX7_actHere_13 (by decide) ?_ ?_
      · refine v_iinc C (n := 1) (v := y1 + 1) (lv' := [(1, .int (y1 + 1)), (0, .ref (ga G this))]) rfl (congrArg (y1 + ·) (by decide : Int32.ofInt (1) = (1 : Int32))) (by decide) rfl dX7_actHere_18 ?_
        refine v_let (y := y1 + 1) (fun x8 => [(1, .int x8), (0, .ref (ga G this))]) (fun x8 => []) (fun x8 => ?_)
        refine v_goto C (t := 2) (by decide) dX7_actHere_21 ?_
        refine v_sub (lv' := [(0, .ref (ga G this)), (1, .int x8)]) [1, 0] rfl ?_
        exact v_leaf (hX3 x8)
      · refine v_iload_n C (n := 1) rfl rfl dX7_actHere_16 ?_
        exact v_iret C hr dX7_actHere_17 (fun a h => by simp only [ob_s, lq, e6] at h; have h := Option.some.inj h; subst h; rfl)
set_option maxRecDepth 20000 in
set_option maxHeartbeats 4000000 in
theorem s_X8_isSteel {l : Launch} (G : GT) (Z : ZT) (hG : DA G) (hZ : WT G Z) {this : Nat} {a0 : Int32} {a1 : Int32} {a2 : Int32} {μ : MT} {q : Int32} (ht : Ob G Z this 8) (hq : m_X8_isSteel Z (gn G) this a0 a1 a2 μ = some q) : MZ l G Z yX8_isSteel cX8_isSteel 5 (some .boolean) 4 [.ref (ga G this), .int a0, .int a1, .int a2] μ (some (.int q)) μ := by
  refine v_met (J := (fun r : Int32 => (some (.int r), μ))) hG hZ (by decide) (Nat.le_of_ble_eq_true rfl) hq ?_
  intro x C hR _ hr
  show VK x G Z (0, 0) 5 (QM x G Z) (fun r : Int32 => (some (.int r), μ)) 0 [(0, .ref (ga G this)), (1, .int a0), (2, .int a1), (3, .int a2)] [] μ _ some
  unfold m_X8_isSteel
  refine v_iconst C (v := 0) (by decide) dX8_isSteel_0 ?_
  refine v_istore C (lv' := [(4, .int 0), (0, .ref (ga G this)), (1, .int a0), (2, .int a1), (3, .int a2)]) (by decide) rfl dX8_isSteel_1 ?_
  refine v_sub (lv' := [(0, .ref (ga G this)), (1, .int a0), (2, .int a1), (3, .int a2), (4, .int 0)]) [1, 2, 3, 4, 0] rfl ?_
  refine v_lpm 3 48 (fun t : Int32 => [(0, .ref (ga G this)), (1, .int a0), (2, .int a1), (3, .int a2), (4, .int t)]) (fun t : Int32 => μ) (fun t : Unit => []) (fun t : Unit => μ) ?_ ?_ LN 0
  · rintro ⟨⟩
    refine v_iconst C (v := 1) (by decide) dX8_isSteel_48 ?_
    exact v_zret C (Or.inr rfl) hr dX8_isSteel_49 (fun a h => by have h := Option.some.inj h; subst h; rfl)
  · intro X2 F4 e6 hX3 hF5
    intro y1
    refine v_iload C (n := 4) rfl dX8_isSteel_3 ?_
    refine v_aload_n C (n := 0) rfl rfl dX8_isSteel_5 ?_
    refine v_getm C fl_X8_76 rfl ht dX8_isSteel_6 (fun q7 h8 => ?_)
    refine v_getiN C fn_X8_172 rfl h8 dX8_isSteel_9 ?_
    refine v_icge C (t := 48) dX8_isSteel_12 (by decide) ?_ ?_
    · refine v_sub (lv' := []) [] rfl ?_
      exact v_leaf (hF5 ())
    · refine v_aload_n C (n := 0) rfl rfl dX8_isSteel_15 ?_
      refine v_iload_n C (n := 1) rfl rfl dX8_isSteel_16 ?_
      refine v_iload_n C (n := 2) rfl rfl dX8_isSteel_17 ?_
      refine v_iload C (n := 4) rfl dX8_isSteel_18 ?_
      refine v_cvRi C (d := 3) (hR.le (by omega)) (c := 8) rfl cv_X8_306 (by decide) ht (by decide) [.int a0, .int a1, .int y1] rfl (fun _ hc => s_X8_wireBend G Z hG hZ   ht hc) (Nat.le_of_ble_eq_true rfl) dX8_isSteel_20 rfl (fun r9 => ?_)
      refine v_iload_n C (n := 3) rfl rfl dX8_isSteel_23 ?_
      refine v_aload_n C (n := 0) rfl rfl dX8_isSteel_24 ?_
      refine v_getr C (t := 2) fl_X8_45 rfl rfl ht dX8_isSteel_25 (fun h10 => ?_)
      refine v_getrN C (t := 20) fn_X8_236 rfl rfl h10 dX8_isSteel_28 (fun h11 => ?_)
      refine v_iload C (n := 4) rfl dX8_isSteel_31 ?_
      refine v_iald C h11.oa dX8_isSteel_33 (fun x12 => ?_)
      refine v_imul C dX8_isSteel_34 ?_
      refine v_iconst C (v := 4) (by decide) dX8_isSteel_35 ?_
      refine v_idiv C dX8_isSteel_36 (fun x13 => ?_)
      refine v_iceq C (t := 42) dX8_isSteel_37 (by decide) ?_ ?_
      · refine v_iinc C (n := 4) (v := y1 + 1) (lv' := [(4, .int (y1 + 1)), (0, .ref (ga G this)), (1, .int a0), (2, .int a1), (3, .int a2)]) rfl (congrArg (y1 + ·) (by decide : Int32.ofInt (1) = (1 : Int32))) (by decide) rfl dX8_isSteel_42 ?_
        refine v_let (y := y1 + 1) (fun x14 => [(4, .int x14), (0, .ref (ga G this)), (1, .int a0), (2, .int a1), (3, .int a2)]) (fun x14 => []) (fun x14 => ?_)
        refine v_goto C (t := 3) (by decide) dX8_isSteel_45 ?_
        refine v_sub (lv' := [(0, .ref (ga G this)), (1, .int a0), (2, .int a1), (3, .int a2), (4, .int x14)]) [1, 2, 3, 4, 0] rfl ?_
        exact v_leaf (hX3 x14)
      · refine v_iconst C (v := 0) (by decide) dX8_isSteel_40 ?_
        exact v_zret C (Or.inl rfl) hr dX8_isSteel_41 (fun a h => by simp only [ob_s, lq, e6] at h; have h := Option.some.inj h; subst h; rfl)
set_option maxRecDepth 20000 in
set_option maxHeartbeats 4000000 in
theorem s_X9_readAct {l : Launch} (G : GT) (Z : ZT) (hG : DA G) (hZ : WT G Z) {this : Nat} {a0 : Int32} {μ : MT} {q : MT} (ht : Ob G Z this 9) (hq : m_X9_readAct Z this a0 μ = some q) : MZ l G Z yX9_readAct cX9_readAct 4 none 4 [.ref (ga G this), .int a0] μ none q := by
  refine v_met (J := (fun ν : MT => ((none : Option Value), ν))) hG hZ (by decide) (Nat.le_of_ble_eq_true rfl) hq ?_
  intro x C hR _ hr
  show VK x G Z (0, 0) 4 (QM x G Z) (fun ν : MT => ((none : Option Value), ν)) 0 [(0, .ref (ga G this)), (1, .int a0)] [] μ _ some
  unfold m_X9_readAct
  refine v_aload_n C (n := 0) rfl rfl dX9_readAct_0 ?_
  refine v_geti C fl_X9_170 rfl ht dX9_readAct_1 ?_
  refine v_bipush C (v := 40) (by decide) dX9_readAct_4 ?_
  refine v_join 14 (fun t : MT => [(0, .ref (ga G this)), (1, .int a0)]) (fun t : MT => []) (fun t : MT => t) ?_ ?_
  · intro ν1
    refine v_aload_n C (n := 0) rfl rfl dX9_readAct_14 ?_
    refine v_iconst C (v := 1) (by decide) dX9_readAct_15 ?_
    refine v_cvIv C (d := 2) (hR.le (by omega)) (c := 9) rfl cv_X9_142 (by decide) ht (by decide) [.int 1] rfl (fun _ hc => s_X9_must G Z hG hZ   ht hc) (Nat.le_of_ble_eq_true rfl) dX9_readAct_16 rfl (fun ν4 => ?_)
    refine v_iload_n C (n := 1) rfl rfl dX9_readAct_19 ?_
    refine v_bipush C (v := 8) (by decide) dX9_readAct_20 ?_
    refine v_join 50 (fun t : Int32 × MT => [(0, .ref (ga G this)), (1, .int a0)]) (fun t : Int32 × MT => [.int (t.1)]) (fun t : Int32 × MT => t.2) ?_ ?_
    · rintro ⟨z5, ν6⟩
      refine v_istore_n C (lv' := [(2, .int z5), (0, .ref (ga G this)), (1, .int a0)]) rfl (by decide) rfl dX9_readAct_50 ?_
      refine v_iload_n C (n := 2) rfl rfl dX9_readAct_51 ?_
      refine v_bipush C (v := 8) (by decide) dX9_readAct_52 ?_
      refine v_join 71 (fun t : Int32 × MT => [(0, .ref (ga G this)), (1, .int a0), (2, .int z5)]) (fun t : Int32 × MT => [.int (t.1)]) (fun t : Int32 × MT => t.2) ?_ ?_
      · rintro ⟨z9, ν10⟩
        refine v_istore_n C (lv' := [(3, .int z9), (0, .ref (ga G this)), (1, .int a0), (2, .int z5)]) rfl (by decide) rfl dX9_readAct_71 ?_
        refine v_aload_n C (n := 1) rfl rfl dX9_readAct_72 ?_
        refine v_geti C fl_X9_129 rfl ht dX9_readAct_73 ?_
        refine v_ifne C (t := 146) dX9_readAct_76 (by decide) ?_ ?_
        · exact v_vret C hr dX9_readAct_146 (fun a h => by have h := Option.some.inj h; subst h; rfl)
        · refine v_aload_n C (n := 1) rfl rfl dX9_readAct_79 ?_
          refine v_getr C (t := 20) fl_X9_28 rfl rfl ht dX9_readAct_80 (fun h13 => ?_)
          refine v_iconst C (v := 4) (by decide) dX9_readAct_83 ?_
          refine v_aload_n C (n := 1) rfl rfl dX9_readAct_84 ?_
          refine v_geti C fl_X9_170 rfl ht dX9_readAct_85 ?_
          refine v_imul C dX9_readAct_88 ?_
          refine v_iload_n C (n := 2) rfl rfl dX9_readAct_89 ?_
          refine v_iast C h13 dX9_readAct_90 (fun ν14 => ?_)
          refine v_aload_n C (n := 1) rfl rfl dX9_readAct_91 ?_
          refine v_getr C (t := 20) fl_X9_28 rfl rfl ht dX9_readAct_92 (fun h15 => ?_)
          refine v_iconst C (v := 4) (by decide) dX9_readAct_95 ?_
          refine v_aload_n C (n := 1) rfl rfl dX9_readAct_96 ?_
          refine v_geti C fl_X9_170 rfl ht dX9_readAct_97 ?_
          refine v_imul C dX9_readAct_100 ?_
          refine v_iconst C (v := 1) (by decide) dX9_readAct_101 ?_
          refine v_iadd C dX9_readAct_102 ?_
          refine v_iload_n C (n := 3) rfl rfl dX9_readAct_103 ?_
          refine v_iast C h15 dX9_readAct_104 (fun ν16 => ?_)
          refine v_aload_n C (n := 1) rfl rfl dX9_readAct_105 ?_
          refine v_getr C (t := 20) fl_X9_28 rfl rfl ht dX9_readAct_106 (fun h17 => ?_)
          refine v_iconst C (v := 4) (by decide) dX9_readAct_109 ?_
          refine v_aload_n C (n := 1) rfl rfl dX9_readAct_110 ?_
          refine v_geti C fl_X9_170 rfl ht dX9_readAct_111 ?_
          refine v_imul C dX9_readAct_114 ?_
          refine v_iconst C (v := 2) (by decide) dX9_readAct_115 ?_
          refine v_iadd C dX9_readAct_116 ?_
          refine v_iload_n C (n := 0) rfl rfl dX9_readAct_117 ?_
          refine v_iast C h17 dX9_readAct_118 (fun ν18 => ?_)
          refine v_aload_n C (n := 1) rfl rfl dX9_readAct_119 ?_
          refine v_getr C (t := 20) fl_X9_28 rfl rfl ht dX9_readAct_120 (fun h19 => ?_)
          refine v_iconst C (v := 4) (by decide) dX9_readAct_123 ?_
          refine v_aload_n C (n := 1) rfl rfl dX9_readAct_124 ?_
          refine v_geti C fl_X9_170 rfl ht dX9_readAct_125 ?_
          refine v_imul C dX9_readAct_128 ?_
          refine v_iconst C (v := 3) (by decide) dX9_readAct_129 ?_
          refine v_iadd C dX9_readAct_130 ?_
          refine v_aload_n C (n := 1) rfl rfl dX9_readAct_131 ?_
          refine v_geti C fl_X9_180 rfl ht dX9_readAct_132 ?_
          refine v_iast C h19 dX9_readAct_135 (fun ν20 => ?_)
          refine v_aload_n C (n := 1) rfl rfl dX9_readAct_136 ?_
          refine v_dup C rfl dX9_readAct_137 ?_
          refine v_geti C fl_X9_170 rfl ht dX9_readAct_138 ?_
          refine v_iconst C (v := 1) (by decide) dX9_readAct_141 ?_
          refine v_iadd C dX9_readAct_142 ?_
          refine v_puti C fp_X9_170 rfl rfl ht dX9_readAct_143 (fun ν21 => ?_)
          exact v_vret C hr dX9_readAct_146 (fun a h => by have h := Option.some.inj h; subst h; rfl)
      intro F12 hF11
      refine v_icge C (t := 69) dX9_readAct_54 (by decide) ?_ ?_
      · refine v_ldc C (v := (-1000000)) (w14 52 rfl) dX9_readAct_69 ?_
        refine v_sub (lv' := [(0, .ref (ga G this)), (1, .int a0), (2, .int z5)]) [1, 2, 0] rfl ?_
        exact v_leaf (hF11 ((-1000000), ν6))
      · refine v_aload_n C (n := 1) rfl rfl dX9_readAct_57 ?_
        refine v_iconst C (v := 1) (by decide) dX9_readAct_58 ?_
        refine v_bipush C (v := 20) (by decide) dX9_readAct_59 ?_
        refine v_ldc C (v := (-1000000)) (w14 52 rfl) dX9_readAct_61 ?_
        refine v_cvIi C (d := 3) (hR.le (by omega)) (c := 9) rfl cv_X9_173 (by decide) ht (by decide) [.int 1, .int 20, .int (-1000000)] rfl (fun _ hc => s_X9_numberIn G Z hG hZ   ht hc) (Nat.le_of_ble_eq_true rfl) dX9_readAct_63 rfl (fun r22 ν23 => ?_)
        refine v_goto C (t := 71) (by decide) dX9_readAct_66 ?_
        refine v_sub (lv' := [(0, .ref (ga G this)), (1, .int a0), (2, .int z5)]) [1, 2, 0] rfl ?_
        exact v_leaf (hF11 (r22, ν23))
    intro F8 hF7
    refine v_icne C (t := 37) dX9_readAct_22 (by decide) ?_ ?_
    · refine v_aload_n C (n := 0) rfl rfl dX9_readAct_37 ?_
      refine v_iconst C (v := 0) (by decide) dX9_readAct_38 ?_
      refine v_aload_n C (n := 0) rfl rfl dX9_readAct_39 ?_
      refine v_geti C fl_X9_177 rfl ht dX9_readAct_40 ?_
      refine v_iconst C (v := 1) (by decide) dX9_readAct_43 ?_
      refine v_isub C dX9_readAct_44 ?_
      refine v_ldc C (v := (-1000000)) (w14 52 rfl) dX9_readAct_45 ?_
      refine v_cvIi C (d := 3) (hR.le (by omega)) (c := 9) rfl cv_X9_173 (by decide) ht (by decide) [.int 0, .int ((ν4 this 12) - 1), .int (-1000000)] rfl (fun _ hc => s_X9_numberIn G Z hG hZ   ht hc) (Nat.le_of_ble_eq_true rfl) dX9_readAct_47 rfl (fun r24 ν25 => ?_)
      exact v_leaf (hF7 (r24, ν25))
    · refine v_aload_n C (n := 0) rfl rfl dX9_readAct_25 ?_
      refine v_iconst C (v := 1) (by decide) dX9_readAct_26 ?_
      refine v_bipush C (v := 30) (by decide) dX9_readAct_27 ?_
      refine v_ldc C (v := (-1000000)) (w14 52 rfl) dX9_readAct_29 ?_
      refine v_cvIi C (d := 3) (hR.le (by omega)) (c := 9) rfl cv_X9_173 (by decide) ht (by decide) [.int 1, .int 30, .int (-1000000)] rfl (fun _ hc => s_X9_numberIn G Z hG hZ   ht hc) (Nat.le_of_ble_eq_true rfl) dX9_readAct_31 rfl (fun r26 ν27 => ?_)
      refine v_goto C (t := 50) (by decide) dX9_readAct_34 ?_
      exact v_leaf (hF7 (r26, ν27))
  intro F3 hF2
  refine v_icne C (t := 14) dX9_readAct_6 (by decide) ?_ ?_
  · exact v_leaf (hF2 μ)
  · refine v_aload_n C (n := 0) rfl rfl dX9_readAct_9 ?_
    refine v_iconst C (v := 3) (by decide) dX9_readAct_10 ?_
    refine v_cvIv C (d := 0) (hR.le (by omega)) (c := 9) rfl cv_X9_135 (by decide) ht (by decide) [.int 3] rfl (fun _ hc => s_X9_bad G Z hG hZ   ht hc) (Nat.le_of_ble_eq_true rfl) dX9_readAct_11 rfl (fun ν28 => ?_)
    exact v_leaf (hF2 ν28)
set_option maxRecDepth 20000 in
set_option maxHeartbeats 4000000 in
theorem s_X9_readBefore {l : Launch} (G : GT) (Z : ZT) (hG : DA G) (hZ : WT G Z) {this : Nat} {μ : MT} {q : MT} (ht : Ob G Z this 9) (hq : m_X9_readBefore Z this μ = some q) : MZ l G Z yX9_readBefore cX9_readBefore 3 none 4 [.ref (ga G this)] μ none q := by
  refine v_met (J := (fun ν : MT => ((none : Option Value), ν))) hG hZ (by decide) (Nat.le_of_ble_eq_true rfl) hq ?_
  intro x C hR _ hr
  show VK x G Z (0, 0) 3 (QM x G Z) (fun ν : MT => ((none : Option Value), ν)) 0 [(0, .ref (ga G this))] [] μ _ some
  unfold m_X9_readBefore
  refine v_aload_n C (n := 0) rfl rfl dX9_readBefore_0 ?_
  refine v_geti C fl_X9_193 rfl ht dX9_readBefore_1 ?_
  refine v_bipush C (v := 10) (by decide) dX9_readBefore_4 ?_
  refine v_join 14 (fun t : MT => [(0, .ref (ga G this))]) (fun t : MT => []) (fun t : MT => t) ?_ ?_
  · intro ν1
    refine v_aload_n C (n := 0) rfl rfl dX9_readBefore_14 ?_
    refine v_aload_n C (n := 0) rfl rfl dX9_readBefore_15 ?_
    refine v_cvRl C (d := 0) (hR.le (by omega)) (c := 9) rfl cv_X9_146 (by decide) ht (by decide) [] rfl (fun _ hc => s_X9_word G Z hG hZ   ht hc) (Nat.le_of_ble_eq_true rfl) dX9_readBefore_16 rfl (fun r4 => ?_)
    refine v_ldc2 C (v := 108187649798757) (w15 31 rfl) dX9_readBefore_19 ?_
    refine v_lcmp C dX9_readBefore_22 ?_
    refine v_join 31 (fun t : Int32 => [(0, .ref (ga G this))]) (fun t : Int32 => [.int t, .ref (ga G this)]) (fun t : Int32 => ν1) ?_ ?_
    · intro z5
      refine v_cvIv C (d := 2) (hR.le (by omega)) (c := 9) rfl cv_X9_142 (by decide) ht (by decide) [.int z5] rfl (fun _ hc => s_X9_must G Z hG hZ   ht hc) (Nat.le_of_ble_eq_true rfl) dX9_readBefore_31 rfl (fun ν8 => ?_)
      refine v_aload_n C (n := 0) rfl rfl dX9_readBefore_34 ?_
      refine v_iconst C (v := 0) (by decide) dX9_readBefore_35 ?_
      refine v_aload_n C (n := 0) rfl rfl dX9_readBefore_36 ?_
      refine v_geti C fl_X9_180 rfl ht dX9_readBefore_37 ?_
      refine v_iconst C (v := 1) (by decide) dX9_readBefore_40 ?_
      refine v_isub C dX9_readBefore_41 ?_
      refine v_ldc C (v := (-1000000)) (w14 52 rfl) dX9_readBefore_42 ?_
      refine v_cvIi C (d := 3) (hR.le (by omega)) (c := 9) rfl cv_X9_173 (by decide) ht (by decide) [.int 0, .int ((ν8 this 13) - 1), .int (-1000000)] rfl (fun _ hc => s_X9_numberIn G Z hG hZ   ht hc) (Nat.le_of_ble_eq_true rfl) dX9_readBefore_44 rfl (fun r9 ν10 => ?_)
      refine v_istore_n C (lv' := [(1, .int r9), (0, .ref (ga G this))]) rfl (by decide) rfl dX9_readBefore_47 ?_
      refine v_aload_n C (n := 1) rfl rfl dX9_readBefore_48 ?_
      refine v_iconst C (v := 0) (by decide) dX9_readBefore_49 ?_
      refine v_aload_n C (n := 1) rfl rfl dX9_readBefore_50 ?_
      refine v_geti C fl_X9_180 rfl ht dX9_readBefore_51 ?_
      refine v_iconst C (v := 1) (by decide) dX9_readBefore_54 ?_
      refine v_isub C dX9_readBefore_55 ?_
      refine v_iload_n C (n := 0) rfl rfl dX9_readBefore_56 ?_
      refine v_cvIi C (d := 3) (hR.le (by omega)) (c := 9) rfl cv_X9_173 (by decide) ht (by decide) [.int 0, .int ((ν10 this 13) - 1), .int r9] rfl (fun _ hc => s_X9_numberIn G Z hG hZ   ht hc) (Nat.le_of_ble_eq_true rfl) dX9_readBefore_57 rfl (fun r11 ν12 => ?_)
      refine v_istore_n C (lv' := [(2, .int r11), (1, .int r9), (0, .ref (ga G this))]) rfl (by decide) rfl dX9_readBefore_60 ?_
      refine v_aload_n C (n := 2) rfl rfl dX9_readBefore_61 ?_
      refine v_cvIv C (d := 3) (hR.le (by omega)) (c := 9) rfl cv_X9_190 (by decide) ht (by decide) [] rfl (fun _ hc => s_X9_mustEnd G Z hG hZ   ht hc) (Nat.le_of_ble_eq_true rfl) dX9_readBefore_62 rfl (fun ν13 => ?_)
      refine v_aload_n C (n := 2) rfl rfl dX9_readBefore_65 ?_
      refine v_geti C fl_X9_129 rfl ht dX9_readBefore_66 ?_
      refine v_ifne C (t := 102) dX9_readBefore_69 (by decide) ?_ ?_
      · exact v_vret C hr dX9_readBefore_102 (fun a h => by have h := Option.some.inj h; subst h; rfl)
      · refine v_aload_n C (n := 2) rfl rfl dX9_readBefore_72 ?_
        refine v_getr C (t := 20) fl_X9_31 rfl rfl ht dX9_readBefore_73 (fun h14 => ?_)
        refine v_aload_n C (n := 2) rfl rfl dX9_readBefore_76 ?_
        refine v_geti C fl_X9_193 rfl ht dX9_readBefore_77 ?_
        refine v_iload_n C (n := 1) rfl rfl dX9_readBefore_80 ?_
        refine v_iast C h14 dX9_readBefore_81 (fun ν15 => ?_)
        refine v_aload_n C (n := 2) rfl rfl dX9_readBefore_82 ?_
        refine v_getr C (t := 20) fl_X9_34 rfl rfl ht dX9_readBefore_83 (fun h16 => ?_)
        refine v_aload_n C (n := 2) rfl rfl dX9_readBefore_86 ?_
        refine v_geti C fl_X9_193 rfl ht dX9_readBefore_87 ?_
        refine v_iload_n C (n := 0) rfl rfl dX9_readBefore_90 ?_
        refine v_iast C h16 dX9_readBefore_91 (fun ν17 => ?_)
        refine v_aload_n C (n := 2) rfl rfl dX9_readBefore_92 ?_
        refine v_dup C rfl dX9_readBefore_93 ?_
        refine v_geti C fl_X9_193 rfl ht dX9_readBefore_94 ?_
        refine v_iconst C (v := 1) (by decide) dX9_readBefore_97 ?_
        refine v_iadd C dX9_readBefore_98 ?_
        refine v_puti C fp_X9_193 rfl rfl ht dX9_readBefore_99 (fun ν18 => ?_)
        exact v_vret C hr dX9_readBefore_102 (fun a h => by have h := Option.some.inj h; subst h; rfl)
    intro F7 hF6
    refine v_ifne C (t := 30) dX9_readBefore_23 (by decide) ?_ ?_
    · refine v_iconst C (v := 0) (by decide) dX9_readBefore_30 ?_
      exact v_leaf (hF6 0)
    · refine v_iconst C (v := 1) (by decide) dX9_readBefore_26 ?_
      refine v_goto C (t := 31) (by decide) dX9_readBefore_27 ?_
      exact v_leaf (hF6 1)
  intro F3 hF2
  refine v_icne C (t := 14) dX9_readBefore_6 (by decide) ?_ ?_
  · exact v_leaf (hF2 μ)
  · refine v_aload_n C (n := 0) rfl rfl dX9_readBefore_9 ?_
    refine v_iconst C (v := 3) (by decide) dX9_readBefore_10 ?_
    refine v_cvIv C (d := 0) (hR.le (by omega)) (c := 9) rfl cv_X9_135 (by decide) ht (by decide) [.int 3] rfl (fun _ hc => s_X9_bad G Z hG hZ   ht hc) (Nat.le_of_ble_eq_true rfl) dX9_readBefore_11 rfl (fun ν19 => ?_)
    exact v_leaf (hF2 ν19)
set_option maxRecDepth 20000 in
set_option maxHeartbeats 4000000 in
theorem s_X9_step {l : Launch} (G : GT) (Z : ZT) (hG : DA G) (hZ : WT G Z) {this : Nat} {a0 : Int32} {a1 : Int32} {a2 : Int32} {μ : MT} {q : MT} (ht : Ob G Z this 9) (hq : m_X9_step Z this a0 a1 a2 μ = some q) : MZ l G Z yX9_step cX9_step 6 none 4 [.ref (ga G this), .int a0, .int a1, .int a2] μ none q := by
  refine v_met (J := (fun ν : MT => ((none : Option Value), ν))) hG hZ (by decide) (Nat.le_of_ble_eq_true rfl) hq ?_
  intro x C hR _ hr
  show VK x G Z (0, 0) 6 (QM x G Z) (fun ν : MT => ((none : Option Value), ν)) 0 [(0, .ref (ga G this)), (1, .int a0), (2, .int a1), (3, .int a2)] [] μ _ some
  unfold m_X9_step
  refine v_bipush C (v := 8) (by decide) dX9_step_0 ?_
  refine v_aload_n C (n := 0) rfl rfl dX9_step_2 ?_
  refine v_iload_n C (n := 1) rfl rfl dX9_step_3 ?_
  refine v_iload_n C (n := 2) rfl rfl dX9_step_4 ?_
  refine v_iload_n C (n := 3) rfl rfl dX9_step_5 ?_
  refine v_cvRi C (d := 3) (hR.le (by omega)) (c := 9) rfl cv_X9_246 (by decide) ht (by decide) [.int a0, .int a1, .int a2] rfl (fun _ hc => s_X9_shrinks G Z hG hZ   ht hc) (Nat.le_of_ble_eq_true rfl) dX9_step_6 rfl (fun r1 => ?_)
  refine v_imul C dX9_step_9 ?_
  refine v_bipush C (v := 8) (by decide) dX9_step_10 ?_
  refine v_aload_n C (n := 0) rfl rfl dX9_step_12 ?_
  refine v_getr C (t := 20) fl_X9_46 rfl rfl ht dX9_step_13 (fun h2 => ?_)
  refine v_bipush C (v := 12) (by decide) dX9_step_16 ?_
  refine v_iload_n C (n := 2) rfl rfl dX9_step_18 ?_
  refine v_iadd C dX9_step_19 ?_
  refine v_iald C h2.oa dX9_step_20 (fun x3 => ?_)
  refine v_iadd C dX9_step_21 ?_
  refine v_idiv C dX9_step_22 (fun x4 => ?_)
  refine v_istore C (lv' := [(4, .int x4), (0, .ref (ga G this)), (1, .int a0), (2, .int a1), (3, .int a2)]) (by decide) rfl dX9_step_23 ?_
  refine v_aload_n C (n := 1) rfl rfl dX9_step_25 ?_
  refine v_getr C (t := 20) fl_X9_46 rfl rfl ht dX9_step_26 (fun h5 => ?_)
  refine v_iconst C (v := 0) (by decide) dX9_step_29 ?_
  refine v_iload_n C (n := 3) rfl rfl dX9_step_30 ?_
  refine v_iadd C dX9_step_31 ?_
  refine v_iald C h5.oa dX9_step_32 (fun x6 => ?_)
  refine v_bipush C (v := 100) (by decide) dX9_step_33 ?_
  refine v_join 47 (fun t : Int32 => [(0, .ref (ga G this)), (1, .int a0), (2, .int a1), (3, .int a2)]) (fun t : Int32 => [.int t]) (fun t : Int32 => μ) ?_ ?_
  · intro z7
    refine v_istore C (lv' := [(4, .int z7), (0, .ref (ga G this)), (1, .int a0), (2, .int a1), (3, .int a2)]) (by decide) rfl dX9_step_47 ?_
    refine v_aload_n C (n := 1) rfl rfl dX9_step_49 ?_
    refine v_getr C (t := 22) fl_X9_52 rfl rfl ht dX9_step_50 (fun h10 => ?_)
    refine v_iload_n C (n := 3) rfl rfl dX9_step_53 ?_
    refine v_zald C h10 dX9_step_54 (fun x11 => ?_)
    refine v_join 86 (fun t : MT => [(0, .ref (ga G this)), (1, .int a0), (2, .int a1), (3, .int a2), (4, .int z7)]) (fun t : MT => []) (fun t : MT => t) ?_ ?_
    · intro ν12
      refine v_iconst C (v := 0) (by decide) dX9_step_86 ?_
      refine v_istore C (lv' := [(5, .int 0), (0, .ref (ga G this)), (1, .int a0), (2, .int a1), (3, .int a2), (4, .int z7)]) (by decide) rfl dX9_step_87 ?_
      refine v_sub (lv' := [(0, .ref (ga G this)), (1, .int a0), (2, .int a1), (3, .int a2), (4, .int z7), (5, .int 0)]) [1, 2, 3, 4, 5, 0] rfl ?_
      refine v_lp 89 138 (fun t : Int32 × MT => [(0, .ref (ga G this)), (1, .int a0), (2, .int a1), (3, .int a2), (4, .int z7), (5, .int (t.1))]) (fun t : Int32 × MT => t.2) (fun t : MT => [(0, .ref (ga G this)), (1, .int a0), (2, .int a1), (3, .int a2)]) (fun t : MT => t) ?_ ?_ LN (0, ν12)
      · intro ν17
        refine v_aload_n C (n := 0) rfl rfl dX9_step_138 ?_
        refine v_getr C (t := 20) fl_X9_46 rfl rfl ht dX9_step_139 (fun h22 => ?_)
        refine v_iconst C (v := 0) (by decide) dX9_step_142 ?_
        refine v_iload_n C (n := 2) rfl rfl dX9_step_143 ?_
        refine v_iadd C dX9_step_144 ?_
        refine v_dup2 C rfl rfl dX9_step_145 ?_
        refine v_iald C h22.oa dX9_step_146 (fun x23 => ?_)
        refine v_iload_n C (n := 1) rfl rfl dX9_step_147 ?_
        refine v_iconst C (v := 1) (by decide) dX9_step_148 ?_
        refine v_join 172 (fun t : Int32 => [(0, .ref (ga G this)), (1, .int a0), (2, .int a1)]) (fun t : Int32 => [.int t, .int x23, .int (0 + a1), .ref (ga G (zr Z this 32))]) (fun t : Int32 => ν17) ?_ ?_
        · intro z24
          refine v_iadd C dX9_step_172 ?_
          refine v_iast C h22 dX9_step_173 (fun ν27 => ?_)
          refine v_aload_n C (n := 0) rfl rfl dX9_step_174 ?_
          refine v_getr C (t := 20) fl_X9_46 rfl rfl ht dX9_step_175 (fun h28 => ?_)
          refine v_bipush C (v := 12) (by decide) dX9_step_178 ?_
          refine v_iload_n C (n := 2) rfl rfl dX9_step_180 ?_
          refine v_iadd C dX9_step_181 ?_
          refine v_dup2 C rfl rfl dX9_step_182 ?_
          refine v_iald C h28.oa dX9_step_183 (fun x29 => ?_)
          refine v_iload_n C (n := 1) rfl rfl dX9_step_184 ?_
          refine v_bipush C (v := 7) (by decide) dX9_step_185 ?_
          refine v_join 209 (fun t : Int32 => [(0, .ref (ga G this))]) (fun t : Int32 => [.int t, .int x29, .int (12 + a1), .ref (ga G (zr Z this 32))]) (fun t : Int32 => ν27) ?_ ?_
          · intro z30
            refine v_iadd C dX9_step_209 ?_
            refine v_iast C h28 dX9_step_210 (fun ν33 => ?_)
            refine v_aload_n C (n := 0) rfl rfl dX9_step_211 ?_
            refine v_cvIv C (d := 0) (hR.le (by omega)) (c := 9) rfl cv_X9_249 (by decide) ht (by decide) [] rfl (fun _ hc => s_X9_minute G Z hG hZ   ht hc) (Nat.le_of_ble_eq_true rfl) dX9_step_212 rfl (fun ν34 => ?_)
            exact v_vret C hr dX9_step_215 (fun a h => by have h := Option.some.inj h; subst h; rfl)
          intro F32 hF31
          refine v_icne C (t := 194) dX9_step_187 (by decide) ?_ ?_
          · refine v_iload_n C (n := 1) rfl rfl dX9_step_194 ?_
            refine v_iconst C (v := 1) (by decide) dX9_step_195 ?_
            refine v_joinm 204 (fun t : Unit => [(0, .ref (ga G this))]) (fun t : Unit => [.int x29, .int (12 + a1), .ref (ga G (zr Z this 32))]) (fun t : Unit => ν27) ?_ ?_
            · rintro ⟨⟩
              refine v_iconst C (v := 1) (by decide) dX9_step_204 ?_
              refine v_goto C (t := 209) (by decide) dX9_step_205 ?_
              exact v_leaf (hF31 1)
            intro F36 e37 hF35
            refine v_iceq C (t := 204) dX9_step_196 (by decide) ?_ ?_
            · refine v_sub (lv' := [(0, .ref (ga G this))]) [0] rfl ?_
              exact v_leaf (hF35 ())
            · refine v_iload_n C (n := 1) rfl rfl dX9_step_199 ?_
              refine v_iconst C (v := 5) (by decide) dX9_step_200 ?_
              refine v_icne C (t := 208) dX9_step_201 (by decide) ?_ ?_
              · refine v_iconst C (v := 2) (by decide) dX9_step_208 ?_
                refine v_sub (lv' := [(0, .ref (ga G this))]) [0] rfl ?_
                exact v_leaf (by rw [e37]; exact hF31 2)
              · refine v_sub (lv' := [(0, .ref (ga G this))]) [0] rfl ?_
                exact v_leaf (hF35 ())
          · refine v_iconst C (v := 0) (by decide) dX9_step_190 ?_
            refine v_goto C (t := 209) (by decide) dX9_step_191 ?_
            refine v_sub (lv' := [(0, .ref (ga G this))]) [0] rfl ?_
            exact v_leaf (hF31 0)
        intro F26 hF25
        refine v_icne C (t := 156) dX9_step_149 (by decide) ?_ ?_
        · refine v_iload_n C (n := 1) rfl rfl dX9_step_156 ?_
          refine v_bipush C (v := 7) (by decide) dX9_step_157 ?_
          refine v_icne C (t := 169) dX9_step_159 (by decide) ?_ ?_
          · refine v_iconst C (v := 4) (by decide) dX9_step_169 ?_
            refine v_iload_n C (n := 3) rfl rfl dX9_step_170 ?_
            refine v_imul C dX9_step_171 ?_
            refine v_sub (lv' := [(0, .ref (ga G this)), (1, .int a0), (2, .int a1)]) [0, 1, 2] rfl ?_
            exact v_leaf (hF25 (4 * a2))
          · refine v_bipush C (v := 6) (by decide) dX9_step_162 ?_
            refine v_iload_n C (n := 3) rfl rfl dX9_step_164 ?_
            refine v_imul C dX9_step_165 ?_
            refine v_goto C (t := 172) (by decide) dX9_step_166 ?_
            refine v_sub (lv' := [(0, .ref (ga G this)), (1, .int a0), (2, .int a1)]) [0, 1, 2] rfl ?_
            exact v_leaf (hF25 (6 * a2))
        · refine v_iload_n C (n := 3) rfl rfl dX9_step_152 ?_
          refine v_goto C (t := 172) (by decide) dX9_step_153 ?_
          refine v_sub (lv' := [(0, .ref (ga G this)), (1, .int a0), (2, .int a1)]) [0, 1, 2] rfl ?_
          exact v_leaf (hF25 a2)
      · intro X18 F20 hX19 hF21
        rintro ⟨y15, ν16⟩
        refine v_iload C (n := 5) rfl dX9_step_89 ?_
        refine v_aload_n C (n := 0) rfl rfl dX9_step_91 ?_
        refine v_geti C fl_X9_212 rfl ht dX9_step_92 ?_
        refine v_icge C (t := 138) dX9_step_95 (by decide) ?_ ?_
        · refine v_sub (lv' := [(0, .ref (ga G this)), (1, .int a0), (2, .int a1), (3, .int a2)]) [0, 1, 2, 3] rfl ?_
          exact v_leaf (hF21 ν16)
        · refine v_aload_n C (n := 0) rfl rfl dX9_step_98 ?_
          refine v_getr C (t := 20) fl_X9_46 rfl rfl ht dX9_step_99 (fun h38 => ?_)
          refine v_bipush C (v := 36) (by decide) dX9_step_102 ?_
          refine v_iload C (n := 5) rfl dX9_step_104 ?_
          refine v_iadd C dX9_step_106 ?_
          refine v_dup2 C rfl rfl dX9_step_107 ?_
          refine v_iald C h38.oa dX9_step_108 (fun x39 => ?_)
          refine v_iload C (n := 5) rfl dX9_step_109 ?_
          refine v_iload_n C (n := 2) rfl rfl dX9_step_111 ?_
          refine v_join 130 (fun t : Int32 => [(0, .ref (ga G this)), (1, .int a0), (2, .int a1), (3, .int a2), (4, .int z7), (5, .int y15)]) (fun t : Int32 => [.int t, .int x39, .int (36 + y15), .ref (ga G (zr Z this 32))]) (fun t : Int32 => ν16) ?_ ?_
          · intro z40
            refine v_iadd C dX9_step_130 ?_
            refine v_iast C h38 dX9_step_131 (fun ν43 => ?_)
            refine v_iinc C (n := 5) (v := y15 + 1) (lv' := [(5, .int (y15 + 1)), (0, .ref (ga G this)), (1, .int a0), (2, .int a1), (3, .int a2), (4, .int z7)]) rfl (congrArg (y15 + ·) (by decide : Int32.ofInt (1) = (1 : Int32))) (by decide) rfl dX9_step_132 ?_
            refine v_let (y := y15 + 1) (fun x44 => [(5, .int x44), (0, .ref (ga G this)), (1, .int a0), (2, .int a1), (3, .int a2), (4, .int z7)]) (fun x44 => []) (fun x44 => ?_)
            refine v_goto C (t := 89) (by decide) dX9_step_135 ?_
            refine v_sub (lv' := [(0, .ref (ga G this)), (1, .int a0), (2, .int a1), (3, .int a2), (4, .int z7), (5, .int x44)]) [1, 2, 3, 4, 5, 0] rfl ?_
            exact v_leaf (hX19 (x44, ν43))
          intro F42 hF41
          refine v_icne C (t := 127) dX9_step_112 (by decide) ?_ ?_
          · refine v_iload C (n := 4) rfl dX9_step_127 ?_
            refine v_ineg C dX9_step_129 ?_
            exact v_leaf (hF41 (-z7))
          · refine v_iload C (n := 4) rfl dX9_step_115 ?_
            refine v_aload_n C (n := 0) rfl rfl dX9_step_117 ?_
            refine v_geti C fl_X9_212 rfl ht dX9_step_118 ?_
            refine v_iconst C (v := 1) (by decide) dX9_step_121 ?_
            refine v_isub C dX9_step_122 ?_
            refine v_imul C dX9_step_123 ?_
            refine v_goto C (t := 130) (by decide) dX9_step_124 ?_
            exact v_leaf (hF41 (z7 * ((ν16 this 5) - 1)))
    intro F14 hF13
    refine v_ifeq C (t := 72) dX9_step_55 (by decide) ?_ ?_
    · refine v_aload_n C (n := 1) rfl rfl dX9_step_72 ?_
      refine v_getr C (t := 20) fl_X9_46 rfl rfl ht dX9_step_73 (fun h45 => ?_)
      refine v_bipush C (v := 24) (by decide) dX9_step_76 ?_
      refine v_iload_n C (n := 3) rfl rfl dX9_step_78 ?_
      refine v_iadd C dX9_step_79 ?_
      refine v_dup2 C rfl rfl dX9_step_80 ?_
      refine v_iald C h45.oa dX9_step_81 (fun x46 => ?_)
      refine v_iload C (n := 0) rfl dX9_step_82 ?_
      refine v_iadd C dX9_step_84 ?_
      refine v_iast C h45 dX9_step_85 (fun ν47 => ?_)
      refine v_sub (lv' := [(0, .ref (ga G this)), (1, .int a0), (2, .int a1), (3, .int a2), (4, .int z7)]) [1, 2, 3, 4, 0] rfl ?_
      exact v_leaf (hF13 ν47)
    · refine v_aload_n C (n := 1) rfl rfl dX9_step_58 ?_
      refine v_getr C (t := 20) fl_X9_49 rfl rfl ht dX9_step_59 (fun h48 => ?_)
      refine v_iload_n C (n := 3) rfl rfl dX9_step_62 ?_
      refine v_dup2 C rfl rfl dX9_step_63 ?_
      refine v_iald C h48.oa dX9_step_64 (fun x49 => ?_)
      refine v_iload C (n := 0) rfl dX9_step_65 ?_
      refine v_iadd C dX9_step_67 ?_
      refine v_iast C h48 dX9_step_68 (fun ν50 => ?_)
      refine v_goto C (t := 86) (by decide) dX9_step_69 ?_
      refine v_sub (lv' := [(0, .ref (ga G this)), (1, .int a0), (2, .int a1), (3, .int a2), (4, .int z7)]) [1, 2, 3, 4, 0] rfl ?_
      exact v_leaf (hF13 ν50)
  intro F9 hF8
  refine v_iclt C (t := 45) dX9_step_35 (by decide) ?_ ?_
  · refine v_iload C (n := 0) rfl dX9_step_45 ?_
    refine v_sub (lv' := [(0, .ref (ga G this)), (1, .int a0), (2, .int a1), (3, .int a2)]) [1, 2, 3, 4] rfl ?_
    exact v_leaf (hF8 x4)
  · refine v_iload C (n := 0) rfl dX9_step_38 ?_
    refine v_iconst C (v := 2) (by decide) dX9_step_40 ?_
    refine v_idiv C dX9_step_41 (fun x51 => ?_)
    refine v_goto C (t := 47) (by decide) dX9_step_42 ?_
    refine v_sub (lv' := [(0, .ref (ga G this)), (1, .int a0), (2, .int a1), (3, .int a2)]) [1, 2, 3, 4] rfl ?_
    exact v_leaf (hF8 x51)
set_option maxRecDepth 20000 in
set_option maxHeartbeats 4000000 in
theorem s_X9_ask {l : Launch} (G : GT) (Z : ZT) (hG : DA G) (hZ : WT G Z) {this : Nat} {a0 : Int32} {a1 : Int32} {μ : MT} {q : Int32 × MT} (ht : Ob G Z this 9) (hq : m_X9_ask Z this a0 a1 μ = some q) : MZ l G Z yX9_ask cX9_ask 3 (some .int) 4 [.ref (ga G this), .int a0, .int a1] μ (some (.int q.1)) q.2 := by
  refine v_met (J := (fun q : Int32 × MT => (some (.int q.1), q.2))) hG hZ (by decide) (Nat.le_of_ble_eq_true rfl) hq ?_
  intro x C hR _ hr
  show VK x G Z (0, 0) 3 (QM x G Z) (fun q : Int32 × MT => (some (.int q.1), q.2)) 0 [(0, .ref (ga G this)), (1, .int a0), (2, .int a1)] [] μ _ some
  unfold m_X9_ask
  refine v_aload_n C (n := 0) rfl rfl dX9_ask_0 ?_
  refine v_iconst C (v := 0) (by decide) dX9_ask_1 ?_
  refine v_puti C fp_X9_71 rfl rfl ht dX9_ask_2 (fun ν1 => ?_)
  refine v_aload_n C (n := 0) rfl rfl dX9_ask_5 ?_
  refine v_iload_n C (n := 1) rfl rfl dX9_ask_6 ?_
  refine v_cvRi C (d := 2) (hR.le (by omega)) (c := 9) rfl cv_X9_325 (by decide) ht (by decide) [.int a0] rfl (fun _ hc => s_X9_isStep G Z hG hZ   ht hc) (Nat.le_of_ble_eq_true rfl) dX9_ask_7 rfl (fun r2 => ?_)
  refine v_ifeq C (t := 23) dX9_ask_10 (by decide) ?_ ?_
  · refine v_ldc C (v := (-1000001)) (w14 18 rfl) dX9_ask_23 ?_
    exact v_iret C hr dX9_ask_25 (fun a h => by have h := Option.some.inj h; subst h; rfl)
  · refine v_iload_n C (n := 2) rfl rfl dX9_ask_13 ?_
    refine v_i2l C (v := (a1 : Int32).toInt64) rfl dX9_ask_14 ?_
    refine v_lconst C (v := 0) (by decide) dX9_ask_15 ?_
    refine v_lconst C (v := 1) (by decide) dX9_ask_16 ?_
    refine v_csRi C (d := 0) (hR.le (by omega)) cs_X9_81 (by decide) [.long ((a1 : Int32).toInt64), .long 0, .long 1] rfl (fun _ hc => s_X9_in G Z hG hZ   hc) (Nat.le_of_ble_eq_true rfl) dX9_ask_17 rfl (fun r3 => ?_)
    refine v_ifne C (t := 26) dX9_ask_20 (by decide) ?_ ?_
    · refine v_aload_n C (n := 0) rfl rfl dX9_ask_26 ?_
      refine v_iconst C (v := 0) (by decide) dX9_ask_27 ?_
      refine v_puti C fp_X9_332 rfl rfl ht dX9_ask_28 (fun ν4 => ?_)
      refine v_iload_n C (n := 2) rfl rfl dX9_ask_31 ?_
      refine v_ifne C (t := 51) dX9_ask_32 (by decide) ?_ ?_
      · refine v_aload_n C (n := 0) rfl rfl dX9_ask_51 ?_
        refine v_iload_n C (n := 1) rfl rfl dX9_ask_52 ?_
        refine v_aload_n C (n := 0) rfl rfl dX9_ask_53 ?_
        refine v_getr C (t := 20) fl_X9_19 rfl rfl ht dX9_ask_54 (fun h5 => ?_)
        refine v_iconst C (v := 4) (by decide) dX9_ask_57 ?_
        refine v_iload_n C (n := 1) rfl rfl dX9_ask_58 ?_
        refine v_imul C dX9_ask_59 ?_
        refine v_iald C h5.oa dX9_ask_60 (fun x6 => ?_)
        refine v_cvIi C (d := 2) (hR.le (by omega)) (c := 9) rfl cv_X9_341 (by decide) ht (by decide) [.int a0, .int x6] rfl (fun _ hc => s_X9_markOf G Z hG hZ   ht hc) (Nat.le_of_ble_eq_true rfl) dX9_ask_61 rfl (fun r7 ν8 => ?_)
        exact v_iret C hr dX9_ask_64 (fun a h => by have h := Option.some.inj h; subst h; rfl)
      · refine v_aload_n C (n := 0) rfl rfl dX9_ask_35 ?_
        refine v_iload_n C (n := 1) rfl rfl dX9_ask_36 ?_
        refine v_aload_n C (n := 0) rfl rfl dX9_ask_37 ?_
        refine v_getr C (t := 20) fl_X9_19 rfl rfl ht dX9_ask_38 (fun h9 => ?_)
        refine v_iconst C (v := 4) (by decide) dX9_ask_41 ?_
        refine v_iload_n C (n := 1) rfl rfl dX9_ask_42 ?_
        refine v_imul C dX9_ask_43 ?_
        refine v_iald C h9.oa dX9_ask_44 (fun x10 => ?_)
        refine v_cvIi C (d := 3) (hR.le (by omega)) (c := 9) rfl cv_X9_344 (by decide) ht (by decide) [.int a0, .int x10] rfl (fun _ hc => s_X9_sizeOf G Z hG hZ   ht hc) (Nat.le_of_ble_eq_true rfl) dX9_ask_45 rfl (fun r11 ν12 => ?_)
        refine v_goto C (t := 64) (by decide) dX9_ask_48 ?_
        exact v_iret C hr dX9_ask_64 (fun a h => by have h := Option.some.inj h; subst h; rfl)
    · refine v_ldc C (v := (-1000001)) (w14 18 rfl) dX9_ask_23 ?_
      exact v_iret C hr dX9_ask_25 (fun a h => by have h := Option.some.inj h; subst h; rfl)
