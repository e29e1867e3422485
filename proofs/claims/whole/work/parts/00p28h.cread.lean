/-! ===== the program reads a whole plan ===== -/
theorem p_seamL {μ : MT} {T : Nat → Nat} {N d nc : Nat} {k : PT} (hd : isPl d) (h : TxI μ T N) (hk : CtI μ k) (hok : TkOK T N k) (hc : CPl μ d nc [] [] []) (hnc : nc ≤ 12) {γ : Type} {G : Int32 × MT → Option γ} {R : γ → Prop}
    (hG : ∀ (y : Int32) (ν : MT), FrD d μ ν → CRs T N (y, ν) (pSeams T N nc 7 ([], []) k) (fun _ => True) (fun r ν => CtI ν r.2 ∧ CPl ν d nc r.1.1 r.1.2 []) → Ok (G (y, ν)) R) :
    Ok ((loop (σ := Int32 × Int32 × MT) (τ := Int32 × MT) (fun (y6, y7, ν8) => ((if 6 < y7 then some (Sum.inr (y6, ν8)) else (if y6 = 0 then (m_X7_atWord Zc 13 11 ν8).bind fun r32 => (if r32 = 0 then some (Sum.inr (y6, ν8)) else (m_X4_takeSeam Zc 15 d ν8).bind fun (r33, ν34) => (some (y7 + 1)).bind fun x35 => some (Sum.inl (r33, x35, ν34))) else some (Sum.inr (y6, ν8)))) : Option ((Int32 × Int32 × MT) ⊕ (Int32 × MT)))) LN (0, 0, μ)).bind G) R := by
  have hg0 : GdA nc [] := fun a ha => by simp at ha
  have hs0 : SgA [] [] := ⟨fun s hs => by simp at hs, Nat.le_refl _, fun a h1 h2 => by simp at h2⟩
  generalize htg : pSeams T N nc 7 ([], []) k = tgt at hG
  refine ok_l (fun m s => FrD d μ s.2.2 ∧ ((s.1 = 0 ∧ ∃ LE k', pSeams T N nc m LE k' = tgt ∧ 7 ≤ LE.2.length + m ∧ LE.2.length ≤ 6 ∧ LE.1.length ≤ 40 ∧ (∃ c, s.2.1 = nI c ∧ c ≤ LE.2.length) ∧ CtI s.2.2 k' ∧ TkOK T N k' ∧ CPl s.2.2 d nc LE.1 LE.2 [] ∧ GdA nc LE.1 ∧ SgA LE.1 LE.2 ∧ eE LE.2 LE.2.length = LE.1.length) ∨ (m = 0 ∧ ¬ s.1 = 0 ∧ ∃ e, tgt = .inl e ∧ CRs T N (s.1, s.2.2) (α := Unit) (.inl e) (fun _ => True) (fun _ _ => True)))) 7 (by omega) ⟨FrD.refl d μ, Or.inl ⟨rfl, ([], []), k, htg, by simp, by simp, by simp, ⟨0, rfl, by omega⟩, hk, hok, hc, hg0, hs0, rfl⟩⟩ ?_
  rintro m ⟨y6, y7, ν8⟩ ⟨f8, hh⟩
  simp only at f8 hh ⊢
  rcases hh with ⟨rfl, LE, k', a1, a2, a3, a4, ⟨c, a5, a5'⟩, a6, a7, a8, a9, a10, a11⟩ | ⟨rfl, hne, e, b1, b2⟩
  · subst a5
    obtain ⟨n, rfl⟩ : ∃ n, m = n + 1 := ⟨m - 1, by omega⟩
    rw [pSeams] at a1
    have h8 := FrD.tx hd f8 h
    have haw : m_X7_atWord Zc 13 11 ν8 = some (bI (wsB T k' 11 = true)) := p_atWord (i := 11) h8 a6 a7 (by omega)
    rw [if_neg (by rw [x_llt (by omega) (by omega)]; omega), if_pos rfl, haw, ob_s]
    by_cases hw : wsB T k' 11 = true
    · rw [bI_t hw, if_neg (by decide)]
      rw [if_pos hw] at a1
      refine ok_b (p_tSeam hd h8 a6 a7 a8 a4 a3 hnc a9 a10) ?_
      rintro ⟨r33, ν34⟩ ⟨f34, q34⟩
      simp only [ob_s, n1] at f34 q34 ⊢
      cases hsm : pSeam T N nc LE.1 LE.2 k' with
      | inl e =>
        rw [hsm] at q34 a1
        simp only [] at a1
        have hr : ¬ r33 = 0 := by
          rw [show r33 = nI e.1 from q34.1, x_eql (by have := q34.2.2.1; omega) (by omega)]
          have := q34.2.1
          omega
        exact ok_s (Or.inr ⟨_, 0, rfl, by omega, f8.trans f34, Or.inr ⟨rfl, hr, e, a1.symm, q34⟩⟩)
      | inr w =>
        rw [hsm] at q34 a1
        simp only [] at a1
        obtain ⟨t1, t2, t3, t4, t5, t6, t7⟩ := pSeam_r a7 a4 a9 a10 a11 hsm
        exact ok_s (Or.inr ⟨_, n, rfl, by omega, f8.trans f34, Or.inl ⟨q34.1, w.1, w.2, a1, by omega, by omega, t1, ⟨c + 1, rfl, by omega⟩, q34.2.1, t4, q34.2.2, t5, t6, t7⟩⟩)
    · rw [bI_f hw, if_pos rfl]
      rw [if_neg hw] at a1
      refine ok_s (Or.inl ⟨_, rfl, hG 0 ν8 f8 ?_⟩)
      rw [← a1]
      exact ⟨rfl, a6, a8⟩
  · have hend : Ok (G (y6, ν8)) R := hG y6 ν8 f8 (by rw [b1]; exact b2)
    by_cases hy : 6 < y7
    · rw [if_pos hy]
      exact ok_s (Or.inl ⟨_, rfl, hend⟩)
    · rw [if_neg hy, if_neg hne]
      exact ok_s (Or.inl ⟨_, rfl, hend⟩)
theorem p_seamF {μ : MT} {d : Nat} {y : Int32} (hne : ¬ y = 0) {γ : Type} {G : Int32 × MT → Option γ} {R : γ → Prop} (hG : Ok (G (y, μ)) R) :
    Ok ((loop (σ := Int32 × Int32 × MT) (τ := Int32 × MT) (fun (y6, y7, ν8) => ((if 6 < y7 then some (Sum.inr (y6, ν8)) else (if y6 = 0 then (m_X7_atWord Zc 13 11 ν8).bind fun r32 => (if r32 = 0 then some (Sum.inr (y6, ν8)) else (m_X4_takeSeam Zc 15 d ν8).bind fun (r33, ν34) => (some (y7 + 1)).bind fun x35 => some (Sum.inl (r33, x35, ν34))) else some (Sum.inr (y6, ν8)))) : Option ((Int32 × Int32 × MT) ⊕ (Int32 × MT)))) LN (y, 0, μ)).bind G) R := by
  refine ok_l (fun m s => s = (y, 0, μ)) 0 (by omega) rfl ?_
  rintro m s rfl
  simp only []
  rw [if_neg (by decide), if_neg hne]
  exact ok_s (Or.inl ⟨_, rfl, hG⟩)
theorem p_befL {μ : MT} {T : Nat → Nat} {N d nc : Nat} {L : List AC} {E : List Nat} {k : PT} (hd : isPl d) (h : TxI μ T N) (hk : CtI μ k) (hok : TkOK T N k) (hc : CPl μ d nc L E []) (hE : E.length ≤ 6) {γ : Type} {G : Int32 × MT → Option γ} {R : γ → Prop}
    (hG : ∀ (y : Int32) (ν : MT), FrD d μ ν → CRs T N (y, ν) (pBefs T N E.length 11 [] k) (fun _ => True) (fun r ν => CtI ν r.2 ∧ CPl ν d nc L E r.1) → Ok (G (y, ν)) R) :
    Ok ((loop (σ := Int32 × Int32 × MT) (τ := Int32 × MT) (fun (y15, y16, ν17) => ((if 10 < y16 then some (Sum.inr (y15, ν17)) else (if y15 = 0 then (m_X7_atWord Zc 13 12 ν17).bind fun r27 => (if r27 = 0 then some (Sum.inr (y15, ν17)) else (m_X4_takeBefore Zc 15 d ν17).bind fun (r28, ν29) => (some (y16 + 1)).bind fun x30 => some (Sum.inl (r28, x30, ν29))) else some (Sum.inr (y15, ν17)))) : Option ((Int32 × Int32 × MT) ⊕ (Int32 × MT)))) LN (0, 0, μ)).bind G) R := by
  have hb0 : BfA E.length [] := fun a ha => by simp at ha
  generalize htg : pBefs T N E.length 11 [] k = tgt at hG
  refine ok_l (fun m s => FrD d μ s.2.2 ∧ ((s.1 = 0 ∧ ∃ B k', pBefs T N E.length m B k' = tgt ∧ 11 ≤ B.length + m ∧ B.length ≤ 10 ∧ (∃ c, s.2.1 = nI c ∧ c ≤ B.length) ∧ CtI s.2.2 k' ∧ TkOK T N k' ∧ CPl s.2.2 d nc L E B ∧ BfA E.length B) ∨ (m = 0 ∧ ¬ s.1 = 0 ∧ ∃ e, tgt = .inl e ∧ CRs T N (s.1, s.2.2) (α := Unit) (.inl e) (fun _ => True) (fun _ _ => True)))) 11 (by omega) ⟨FrD.refl d μ, Or.inl ⟨rfl, [], k, htg, by simp, by simp, ⟨0, rfl, by omega⟩, hk, hok, hc, hb0⟩⟩ ?_
  rintro m ⟨y6, y7, ν8⟩ ⟨f8, hh⟩
  simp only at f8 hh ⊢
  rcases hh with ⟨rfl, B, k', a1, a2, a3, ⟨c, a5, a5'⟩, a6, a7, a8, a9⟩ | ⟨rfl, hne, e, b1, b2⟩
  · subst a5
    obtain ⟨n, rfl⟩ : ∃ n, m = n + 1 := ⟨m - 1, by omega⟩
    rw [pBefs] at a1
    have h8 := FrD.tx hd f8 h
    have haw : m_X7_atWord Zc 13 12 ν8 = some (bI (wsB T k' 12 = true)) := p_atWord (i := 12) h8 a6 a7 (by omega)
    rw [if_neg (by rw [x_llt (by omega) (by omega)]; omega), if_pos rfl, haw, ob_s]
    by_cases hw : wsB T k' 12 = true
    · rw [bI_t hw, if_neg (by decide)]
      rw [if_pos hw] at a1
      refine ok_b (p_tBef hd h8 a6 a7 a8 hE a3) ?_
      rintro ⟨r33, ν34⟩ ⟨f34, q34⟩
      simp only [ob_s, n1] at f34 q34 ⊢
      cases hsm : pBef T N E.length B k' with
      | inl e =>
        rw [hsm] at q34 a1
        simp only [] at a1
        have hr : ¬ r33 = 0 := by
          rw [show r33 = nI e.1 from q34.1, x_eql (by have := q34.2.2.1; omega) (by omega)]
          have := q34.2.1
          omega
        exact ok_s (Or.inr ⟨_, 0, rfl, by omega, f8.trans f34, Or.inr ⟨rfl, hr, e, a1.symm, q34⟩⟩)
      | inr w =>
        rw [hsm] at q34 a1
        simp only [] at a1
        obtain ⟨t1, t2, t3, t4⟩ := pBef_r a7 a9 hsm
        exact ok_s (Or.inr ⟨_, n, rfl, by omega, f8.trans f34, Or.inl ⟨q34.1, w.1, w.2, a1, by omega, by omega, ⟨c + 1, rfl, by omega⟩, q34.2.1, t3, q34.2.2, t4⟩⟩)
    · rw [bI_f hw, if_pos rfl]
      rw [if_neg hw] at a1
      refine ok_s (Or.inl ⟨_, rfl, hG 0 ν8 f8 ?_⟩)
      rw [← a1]
      exact ⟨rfl, a6, a8⟩
  · have hend : Ok (G (y6, ν8)) R := hG y6 ν8 f8 (by rw [b1]; exact b2)
    by_cases hy : 10 < y7
    · rw [if_pos hy]
      exact ok_s (Or.inl ⟨_, rfl, hend⟩)
    · rw [if_neg hy, if_neg hne]
      exact ok_s (Or.inl ⟨_, rfl, hend⟩)
theorem p_befF {μ : MT} {d : Nat} {y : Int32} (hne : ¬ y = 0) {γ : Type} {G : Int32 × MT → Option γ} {R : γ → Prop} (hG : Ok (G (y, μ)) R) :
    Ok ((loop (σ := Int32 × Int32 × MT) (τ := Int32 × MT) (fun (y15, y16, ν17) => ((if 10 < y16 then some (Sum.inr (y15, ν17)) else (if y15 = 0 then (m_X7_atWord Zc 13 12 ν17).bind fun r27 => (if r27 = 0 then some (Sum.inr (y15, ν17)) else (m_X4_takeBefore Zc 15 d ν17).bind fun (r28, ν29) => (some (y16 + 1)).bind fun x30 => some (Sum.inl (r28, x30, ν29))) else some (Sum.inr (y15, ν17)))) : Option ((Int32 × Int32 × MT) ⊕ (Int32 × MT)))) LN (y, 0, μ)).bind G) R := by
  refine ok_l (fun m s => s = (y, 0, μ)) 0 (by omega) rfl ?_
  rintro m s rfl
  simp only []
  rw [if_neg (by decide), if_neg hne]
  exact ok_s (Or.inl ⟨_, rfl, hG⟩)
theorem crs_ne {α : Type} {T : Nat → Nat} {N : Nat} {y : Int32} {ν : MT} {e : Nat × Nat} {QF : MT → Prop} {Q : α → MT → Prop} (h : CRs T N (y, ν) (.inl e) QF Q) : ¬ y = 0 := by
  have h1 : y = nI e.1 := h.1
  have h2 := h.2.1
  have h3 := h.2.2.1
  rw [h1, x_eql (by omega) (by omega)]
  omega
theorem p_read {μ : MT} {T : Nat → Nat} {N d : Nat} (hd : isPl d) (h : TxI μ T N) :
    Ok (m_X4_readInto Zc 15 d μ) (fun q => FrD d μ q.2 ∧ CRs T N q (pPlan T N) (fun _ => True) (fun r ν => CPl ν d r.1 r.2.1.1 r.2.1.2 r.2.2)) := by
  have hdl := isPl_le hd
  obtain ⟨l1, l2, l3, l4, l5, l6⟩ := zql hd
  unfold m_X4_readInto m_X3_clear m_X7_toFirst
  simp only [zA, ob_s]
  rw [zq_9 hd, q_fill l6 (by omega), ob_s, ob_s]
  have f1 : FrD d μ (u1 (u2 (u2 (u2 (u2 μ d 0 0) d 1 0) d 2 0) d 3 0) (d + 6) (fun j => if j < 6 then 0 else u2 (u2 (u2 (u2 μ d 0 0) d 1 0) d 2 0) d 3 0 (d + 6) j)) := by
    refine ⟨fun q a b c => ?_, ?_⟩
    · rw [u1_w, if_neg (by omega), u2_w, if_neg (by omega), u2_w, if_neg (by omega), u2_w, if_neg (by omega), u2_w, if_neg (by omega)]
    · rw [u1_r, if_neg (by omega), u2_r, if_neg (by omega), u2_r, if_neg (by omega), u2_r, if_neg (by omega), u2_r, if_neg (by omega)]
  have hc1 : CPl (u1 (u2 (u2 (u2 (u2 μ d 0 0) d 1 0) d 2 0) d 3 0) (d + 6) (fun j => if j < 6 then 0 else u2 (u2 (u2 (u2 μ d 0 0) d 1 0) d 2 0) d 3 0 (d + 6) j)) d 0 [] [] [] := by
    refine ⟨⟨?_, ?_, ?_, ?_⟩, fun a ha => by simp at ha, fun s hs => by simp at hs, fun s hs => ?_⟩
    · simp [u1_r, u2_r]; rfl
    · simp [u1_r, u2_r]; rfl
    · simp [u1_r, u2_r]; rfl
    · simp [u1_r, u2_r]; rfl
    · rw [u1_r, if_pos rfl, if_pos hs]; rfl
  generalize u1 (u2 (u2 (u2 (u2 μ d 0 0) d 1 0) d 2 0) d 3 0) (d + 6) (fun j => if j < 6 then 0 else u2 (u2 (u2 (u2 μ d 0 0) d 1 0) d 2 0) d 3 0 (d + 6) j) = ν1 at f1 hc1 ⊢
  have f2 : Fr13 ν1 (u2 ν1 13 3 0) := ⟨fun q a => by rw [u2_w, if_neg a], by rw [u2_r, if_neg (by omega)]⟩
  have fd2 : FrD d μ (u2 ν1 13 3 0) := f1.trans (FrD.of f2)
  refine ok_b (R1 := fun ν3 => CtI ν3 (tkA T N 0) ∧ FrD d μ ν3 ∧ CPl ν3 d 0 [] [] []) ?_ ?_
  · refine ok_b (p_toNext (e := 0) (FrD.tx hd fd2 h) (by omega) (by rw [u2_r, if_pos ⟨rfl, rfl⟩]; rfl)) ?_
    rintro ν3 ⟨g1, g2⟩
    exact ok_s ⟨g1, fd2.trans (FrD.of g2), (hc1.fr hd (FrE.of f2)).fr hd (FrE.of g2)⟩
  rintro ν3 ⟨g1, g2, g3⟩
  have hok0 : TkOK T N (tkA T N 0) := tk_ok (by omega)
  unfold pPlan
  generalize tkA T N 0 = k0 at g1 hok0 ⊢
  refine ok_b (p_tPan hd (FrD.tx hd g2 h) g1 hok0 g3) ?_
  rintro ⟨r4, ν5⟩ ⟨f5, q5⟩
  have fd5 := g2.trans f5
  simp only at f5 q5 fd5 ⊢
  have hfin : ∀ (y : Int32) (ν : MT) (e : Nat × Nat), FrD d μ ν → CRs T N (y, ν) (α := Unit) (.inl e) (fun _ => True) (fun _ _ => True) → Ok (if y = 0 then (m_X7_atEnd Zc 13 ν).bind fun r25 => (if r25 = 0 then some (1, ν) else some (y, ν)) else some (y, ν)) (fun q => FrD d μ q.2 ∧ CRs T N q (α := Nat × (List AC × List Nat) × List (Nat × Nat)) (.inl e) (fun _ => True) (fun r ν => CPl ν d r.1 r.2.1.1 r.2.1.2 r.2.2)) := fun y ν e a1 a2 => by
    rw [if_neg (crs_ne a2)]
    exact ok_s ⟨a1, a2⟩
  cases hpan : pPan T N k0 with
  | inl e =>
    rw [hpan] at q5
    have hne := crs_ne q5
    refine p_seamF hne ?_
    dsimp only
    refine p_befF hne ?_
    exact hfin r4 ν5 e fd5 q5
  | inr w =>
    rw [hpan] at q5
    obtain ⟨q1, q2, q3⟩ := q5
    simp only at q1 q2 q3
    subst q1
    have hww : w.1 ≤ 12 ∧ TkOK T N w.2 := by
      unfold pPan at hpan
      by_cases hw : wsB T k0 10 = true
      · rw [if_pos hw] at hpan
        cases h1 : pNum T N (rgB 4 13) (tkA T N k0.2.1) with
        | inl e => rw [h1] at hpan; cases hpan
        | inr v =>
          rw [h1] at hpan
          simp only [] at hpan
          obtain ⟨a1, a2, a3, a4⟩ := pNum_r h1
          rw [rg_i] at a1
          cases h2 : pSgn T N v.2 with
          | inl e => rw [h2] at hpan; cases hpan
          | inr u =>
            rw [h2] at hpan
            have h3 := Sum.inr.inj hpan
            rw [← h3]
            refine ⟨by simp only []; omega, ?_⟩
            simp only []
            rw [(pSgn_r h2).2]
            refine tk_ok ?_
            rw [a3]
            exact (tk_ok (tk_ok hok0.2.1).2.1).2.1
      · rw [if_neg hw] at hpan; cases hpan
    simp only []
    refine p_seamL hd (FrD.tx hd fd5 h) q2 hww.2 q3 hww.1 ?_
    intro y ν6 f6 q6
    have fd6 := fd5.trans f6
    cases hsm : pSeams T N w.1 7 ([], []) w.2 with
    | inl e =>
      rw [hsm] at q6
      dsimp only
      exact p_befF (crs_ne q6) (hfin y ν6 e fd6 q6)
    | inr v =>
      rw [hsm] at q6
      obtain ⟨a1, a2, a3⟩ := q6
      simp only at a1 a2 a3
      subst a1
      obtain ⟨s1, s2, s3, s4, s5, s6⟩ := pSeams_r 7 ([], []) w.2 v hww.2 (by simp) (by simp) (fun a ha => by simp at ha) ⟨fun s hs => by simp at hs, Nat.le_refl _, fun a h1 h2 => by simp at h2⟩ rfl hsm
      dsimp only
      refine p_befL hd (FrD.tx hd fd6 h) a2 s3 a3 s2 ?_
      intro y ν7 f7 q7
      have fd7 := fd6.trans f7
      cases hbf : pBefs T N v.1.2.length 11 [] v.2 with
      | inl e =>
        rw [hbf] at q7
        exact hfin y ν7 e fd7 q7
      | inr u =>
        rw [hbf] at q7
        obtain ⟨b1, b2, b3⟩ := q7
        simp only at b1 b2 b3
        subst b1
        obtain ⟨t1, t2, t3⟩ := pBefs_r 11 [] v.2 u s3 (by simp) (fun a ha => by simp at ha) hbf
        have t4 := t2.2.2.1
        unfold m_X7_atEnd
        dsimp only
        rw [if_pos rfl]
        by_cases h0 : u.2.2.2 = 0
        · rw [if_pos (show ν7 13 4 = 0 by rw [b2.2.2, h0]; rfl), ob_s, if_neg (by decide), if_pos h0]
          exact ok_s ⟨fd7, rfl, b3⟩
        · rw [if_neg (show ¬ ν7 13 4 = 0 by rw [b2.2.2, x_eql (by omega) (by omega)]; exact h0), ob_s, if_pos rfl, if_neg h0]
          exact ok_s ⟨fd7, rfl, by simp, by simp, b2.1, ⟨u.2, b2, t2⟩, trivial⟩
