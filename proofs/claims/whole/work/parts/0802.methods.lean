def m_X2_go (Z : ZT) (this : Nat) (a0 : Nat) (a1 : Nat) (a2 : Nat) (a3 : Int32) (μ : MT) : Option (MT) :=
  (m_X2_begin Z this (μ a0 0) a1 μ).bind fun ν1 => (loop (σ := Int32 × MT) (τ := MT) (fun (y2, ν3) => ((if (ν3 a0 1) ≤ y2 then some (Sum.inr ν3) else (if (Int32.ofNat (zl Z a2)) ≤ y2 then some (Sum.inr ν3) else (ald Z ν3 a2 y2).bind fun x10 => (((if x10 = a3 then some ν3 else (ald Z ν3 a2 y2).bind fun x15 => (m_X2_doSeam Z this a0 x15 ν3).bind fun ν16 => some ν16) : Option (MT))).bind (fun ν11 => (some (y2 + 1)).bind fun x14 => some (Sum.inl (x14, ν11))))) : Option ((Int32 × MT) ⊕ (MT)))) LN (0, ν1)).bind (fun ν4 => (m_X2_freeAll Z this ν4).bind fun ν9 => some ν9)
set_option maxRecDepth 20000 in
set_option maxHeartbeats 4000000 in
theorem s_X2_go {l : Launch} (G : GT) (Z : ZT) (hG : DA G) (hZ : WT G Z) {this : Nat} {a0 : Nat} {a1 : Nat} {a2 : Nat} {a3 : Int32} {μ : MT} {q : MT} (ht : Ob G Z this 2) (ha0 : Ob G Z a0 3) (ha1 : Oa G Z a1) (ha2 : Oa G Z a2) (hq : m_X2_go Z this a0 a1 a2 a3 μ = some q) : MZ l G Z yX2_go cX2_go 6 none 4 [.ref (ga G this), .ref (ga G a0), .ref (ga G a1), .ref (ga G a2), .int a3] μ none q := by
  refine v_met (J := (fun ν : MT => ((none : Option Value), ν))) hG hZ (by decide) (Nat.le_of_ble_eq_true rfl) hq ?_
  intro x C hR _ hr
  show VK x G Z (0, 0) 6 (QM x G Z) (fun ν : MT => ((none : Option Value), ν)) 0 [(0, .ref (ga G this)), (1, .ref (ga G a0)), (2, .ref (ga G a1)), (3, .ref (ga G a2)), (4, .int a3)] [] μ _ some
  unfold m_X2_go
  refine v_aload_n C (n := 0) rfl rfl dX2_go_0 ?_
  refine v_aload_n C (n := 1) rfl rfl dX2_go_1 ?_
  refine v_getiN C fn_X2_61 rfl ha0 dX2_go_2 ?_
  refine v_aload_n C (n := 2) rfl rfl dX2_go_5 ?_
  refine v_cvIv C (d := 1) (hR.le (by decide)) (c := 2) rfl cv_X2_64 (by decide) ht (by decide) [.int (μ a0 0), .ref (ga G a1)] rfl (fun _ hc => s_X2_begin G Z hG hZ   ht ha1 hc) (Nat.le_of_ble_eq_true rfl) dX2_go_6 rfl (fun ν1 => ?_)
  refine v_iconst C (v := 0) (by decide) dX2_go_9 ?_
  refine v_istore C (lv' := [(5, .int 0), (0, .ref (ga G this)), (1, .ref (ga G a0)), (2, .ref (ga G a1)), (3, .ref (ga G a2)), (4, .int a3)]) (by decide) rfl dX2_go_10 ?_
  refine v_sub (lv' := [(0, .ref (ga G this)), (1, .ref (ga G a0)), (3, .ref (ga G a2)), (4, .int a3), (5, .int 0)]) [1, 2, 4, 5, 0] rfl ?_
  refine v_lp 12 52 (fun t => [(0, .ref (ga G this)), (1, .ref (ga G a0)), (3, .ref (ga G a2)), (4, .int a3), (5, .int (t.1))]) (fun t => t.2) (fun t => [(0, .ref (ga G this))]) (fun t => t) ?_ ?_ LN (0, ν1)
  · intro ν4
    refine v_aload_n C (n := 0) rfl rfl dX2_go_52 ?_
    refine v_cvIv C (d := 2) (hR.le (by decide)) (c := 2) rfl cv_X2_75 (by decide) ht (by decide) [] rfl (fun _ hc => s_X2_freeAll G Z hG hZ   ht hc) (Nat.le_of_ble_eq_true rfl) dX2_go_53 rfl (fun ν9 => ?_)
    exact v_vret C hr dX2_go_56 (fun a h => by cases h; rfl)
  · intro X5 F7 hX6 hF8
    rintro ⟨y2, ν3⟩
    refine v_iload C (n := 4) rfl dX2_go_12 ?_
    refine v_aload_n C (n := 1) rfl rfl dX2_go_14 ?_
    refine v_getiN C fn_X2_68 rfl ha0 dX2_go_15 ?_
    refine v_icge C (t := 52) dX2_go_18 (by decide) ?_ ?_
    · refine v_sub (lv' := [(0, .ref (ga G this))]) [0] rfl ?_
      exact v_leaf (hF8 ν3)
    · refine v_iload C (n := 4) rfl dX2_go_21 ?_
      refine v_aload_n C (n := 2) rfl rfl dX2_go_23 ?_
      refine v_alena C ha2 dX2_go_24 ?_
      refine v_icge C (t := 52) dX2_go_25 (by decide) ?_ ?_
      · refine v_sub (lv' := [(0, .ref (ga G this))]) [0] rfl ?_
        exact v_leaf (hF8 ν3)
      · refine v_aload_n C (n := 2) rfl rfl dX2_go_28 ?_
        refine v_iload C (n := 4) rfl dX2_go_29 ?_
        refine v_iald C ha2 dX2_go_31 (fun x10 => ?_)
        refine v_iload C (n := 3) rfl dX2_go_32 ?_
        refine v_join 46 (fun t => [(0, .ref (ga G this)), (1, .ref (ga G a0)), (3, .ref (ga G a2)), (4, .int a3), (5, .int y2)]) (fun t => []) (fun t => t) ?_ ?_
        · intro ν11
          refine v_iinc C (n := 4) (v := y2 + 1) (lv' := [(5, .int (y2 + 1)), (0, .ref (ga G this)), (1, .ref (ga G a0)), (3, .ref (ga G a2)), (4, .int a3)]) rfl rfl (by decide) rfl dX2_go_46 ?_
          refine v_let (y := y2 + 1) (fun x14 => [(5, .int x14), (0, .ref (ga G this)), (1, .ref (ga G a0)), (3, .ref (ga G a2)), (4, .int a3)]) (fun x14 => []) (fun x14 => ?_)
          refine v_goto C (t := 12) (by decide) dX2_go_49 ?_
          refine v_sub (lv' := [(0, .ref (ga G this)), (1, .ref (ga G a0)), (3, .ref (ga G a2)), (4, .int a3), (5, .int x14)]) [1, 2, 3, 4, 0] rfl ?_
          exact v_leaf (hX6 (x14, ν11))
        intro F13 hF12
        refine v_iceq C (t := 46) dX2_go_34 (by decide) ?_ ?_
        · exact v_leaf (hF12 ν3)
        · refine v_aload_n C (n := 0) rfl rfl dX2_go_37 ?_
          refine v_aload_n C (n := 1) rfl rfl dX2_go_38 ?_
          refine v_aload_n C (n := 2) rfl rfl dX2_go_39 ?_
          refine v_iload C (n := 4) rfl dX2_go_40 ?_
          refine v_iald C ha2 dX2_go_42 (fun x15 => ?_)
          refine v_cvIv C (d := 3) (hR.le (by decide)) (c := 2) rfl cv_X2_71 (by decide) ht (by decide) [.ref (ga G a0), .int x15] rfl (fun _ hc => s_X2_doSeam G Z hG hZ   ht ha0 hc) (Nat.le_of_ble_eq_true rfl) dX2_go_43 rfl (fun ν16 => ?_)
          exact v_leaf (hF12 ν16)
