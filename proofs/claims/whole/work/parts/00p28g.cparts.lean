/-! ===== the program's parts of a plan ===== -/
theorem ct_13 {μ ν : MT} {k : PT} (h : ν 13 = μ 13) (g : CtI μ k) : CtI ν k := by
  unfold CtI
  rw [h]; exact g
theorem p_tAct {μ : MT} {T : Nat → Nat} {N d nc kd : Nat} {L : List AC} {E : List Nat} {B : List (Nat × Nat)} {k : PT} (hd : isPl d) (h : TxI μ T N) (hk : CtI μ k) (hok : TkOK T N k) (hc : CPl μ d nc L E B) (hkd : kd < 10) (hl : L.length ≤ 40) (hnc : nc ≤ 12) :
    Ok (m_X4_takeAct Zc 15 d (nI kd) μ) (fun q => FrD d μ q.2 ∧ CRs T N q (pTake T N nc L E.length kd k) (fun ν => CPl ν d nc L E B) (fun r ν => CtI ν r.2 ∧ CPl ν d nc r.1 E B)) := by
  have hdl := isPl_le hd
  unfold m_X4_takeAct pTake
  simp only [zA]
  rw [hc.1.2.2.1]
  by_cases h40 : 40 ≤ L.length
  · rw [if_neg (by rw [x_ltl (by omega) (by omega)]; omega), if_pos h40]
    exact ok_s ⟨FrD.refl d μ, rfl, by simp, by simp, hk.1, ⟨k, hk, hok⟩, hc⟩
  · rw [if_pos (by rw [x_ltl (by omega) (by omega)]; omega), if_neg h40]
    refine ok_b (p_toNext h hok.2.1 hk.2.1) ?_
    rintro ν2 ⟨g1, g2⟩
    have fE2 : FrE μ ν2 := FrE.of g2
    have h2 := fE2.tx h
    have hc2 := hc.fr hd fE2
    have hok1 : TkOK T N (tkA T N k.2.1) := tk_ok hok.2.1
    generalize tkA T N k.2.1 = k1 at g1 hok1 ⊢
    have hn1 : Ok (if nI kd = (7 : Int32) then (m_X4_takeNumber Zc 15 1 30 ν2).bind fun (r19, ν20) => some (r19, ν20) else (m_X4_takeNumber Zc 15 0 ((ν2 d 0) - 1) ν2).bind fun (r17, ν18) => some (r17, ν18)) (fun q => FrE ν2 q.2 ∧ CRs T N q (pNum T N (if kd = 7 then rgB 1 31 else rgB 0 nc) k1) (fun _ => True) (fun r ν => CtI ν r.2 ∧ ν 15 1 = nI r.1)) := by
      by_cases h7 : kd = 7
      · rw [if_pos (by rw [h7]; rfl), if_pos h7]
        refine ok_b (p_tNum (a := 1) (b := 30) (P := rgB 1 31) h2 g1 hok1 (rg_P (lo := 1) (hi := 31) rfl (by omega) (by omega) (by decide))) ?_
        rintro ⟨r, ν⟩ hq
        exact ok_s hq
      · rw [if_neg (by rw [x_eql (by omega) (by omega)]; exact h7), if_neg h7]
        refine ok_b (p_tNum (P := rgB 0 nc) h2 g1 hok1 (rg_P (lo := 0) (hi := nc) rfl (by omega) (by omega) (by rw [hc2.1.1]))) ?_
        rintro ⟨r, ν⟩ hq
        exact ok_s hq
    refine ok_b hn1 ?_
    rintro ⟨r, ν4⟩ ⟨f4, q4⟩
    simp only [ob_s] at f4 q4 ⊢
    have fE4 := fE2.trans f4
    have h4 := f4.tx h2
    have hc4 := hc2.fr hd f4
    unfold pAct
    cases h1 : pNum T N (if kd = 7 then rgB 1 31 else rgB 0 nc) k1 with
    | inl e =>
      rw [h1] at q4
      obtain ⟨q1, q2, q3, q5, q6, q7⟩ := q4
      simp only at q1 q5 q6
      have hr : ¬ r = 0 := by rw [q1, x_eql (by omega) (by omega)]; omega
      rw [if_neg hr, ob_s]
      simp only []
      rw [if_neg hr]
      exact ok_s ⟨fE4.d, q1, q2, q3, q5, q6, hc4⟩
    | inr w =>
      rw [h1] at q4
      obtain ⟨q1, q2, q3⟩ := q4
      simp only at q1 q2 q3
      subst q1
      simp only []
      have hokw : TkOK T N w.2 := by rw [(pNum_r h1).2.2.1]; exact tk_ok hok1.2.1
      rw [q3, if_pos trivial]
      by_cases h7 : kd < 7
      · rw [if_neg (by rw [x_llt (by omega) (by omega)]; omega), if_pos h7]
        refine ok_b (R1 := fun q => FrD d μ q.2.2 ∧ CRs T N (q.1, q.2.2) (pNum T N (rgB 1 21) w.2) (fun ν => CPl ν d nc L E B) (fun r ν => CtI ν r.2 ∧ q.2.1 = nI r.1 ∧ CPl ν d nc L E B ∧ FrE ν4 ν)) ?_ ?_
        · refine ok_b (p_tNum (a := 1) (b := 20) (P := rgB 1 21) h4 q2 hokw (rg_P (lo := 1) (hi := 21) rfl (by omega) (by omega) (by decide))) ?_
          rintro ⟨r5, ν5⟩ ⟨f5, q5⟩
          simp only [ob_s] at f5 q5 ⊢
          refine ok_s ⟨(fE4.trans f5).d, ?_⟩
          cases h3 : pNum T N (rgB 1 21) w.2 with
          | inl e =>
            rw [h3] at q5
            obtain ⟨a1, a2, a3, a4, a5, a6⟩ := q5
            exact ⟨a1, a2, a3, a4, a5, hc4.fr hd f5⟩
          | inr v =>
            rw [h3] at q5
            obtain ⟨a1, a2, a3⟩ := q5
            exact ⟨a1, a2, a3, hc4.fr hd f5, f5⟩
        · rintro ⟨y8, y9, ν10⟩ ⟨f10, q10⟩
          simp only at f10 q10 ⊢
          cases h3 : pNum T N (rgB 1 21) w.2 with
          | inl e =>
            rw [h3] at q10
            obtain ⟨a1, a2, a3, a4, a5, a6⟩ := q10
            simp only at a1 a4 a5 a6
            have hr : ¬ y8 = 0 := by rw [a1, x_eql (by omega) (by omega)]; omega
            rw [if_neg hr]
            exact ok_s ⟨f10, a1, a2, a3, a4, a5, a6⟩
          | inr v =>
            rw [h3] at q10
            obtain ⟨a1, a2, a3, a4, a5⟩ := q10
            simp only at a1 a2 a3 a4
            subst a1
            rw [if_pos rfl, a3]
            refine ok_b (p_addAct (kd := kd) (pl := w.1) (st := v.1) hd a4 (by omega)) ?_
            rintro ν13 ⟨b1, b2, b3⟩
            exact ok_s ⟨f10.trans b2, rfl, ct_13 b3 a2, b1⟩
      · rw [if_pos (by rw [x_llt (by omega) (by omega)]; omega), if_neg h7, ob_s]
        simp only []
        rw [if_pos trivial]
        refine ok_b (p_addAct (kd := kd) (pl := w.1) (st := 0) hd hc4 (by omega)) ?_
        rintro ν13 ⟨b1, b2, b3⟩
        exact ok_s ⟨fE4.d.trans b2, rfl, ct_13 b3 q2, b1⟩
theorem p_tSeam {μ : MT} {T : Nat → Nat} {N d nc : Nat} {L : List AC} {E : List Nat} {B : List (Nat × Nat)} {k : PT} (hd : isPl d) (h : TxI μ T N) (hk : CtI μ k) (hok : TkOK T N k) (hc : CPl μ d nc L E B) (hl : L.length ≤ 40) (hE : E.length ≤ 6) (hnc : nc ≤ 12) (hg : GdA nc L) (hsg : SgA L E) :
    Ok (m_X4_takeSeam Zc 15 d μ) (fun q => FrD d μ q.2 ∧ CRs T N q (pSeam T N nc L E k) (fun _ => True) (fun r ν => CtI ν r.2 ∧ CPl ν d nc r.1.1 r.1.2 B)) := by
  have hdl := isPl_le hd
  unfold m_X4_takeSeam pSeam
  simp only [zA]
  rw [hc.1.2.1]
  by_cases h6 : 6 ≤ E.length
  · rw [if_neg (by rw [x_ltl (by omega) (by omega)]; omega), if_pos h6]
    exact ok_s ⟨FrD.refl d μ, rfl, by simp, by simp, hk.1, ⟨k, hk, hok⟩, trivial⟩
  · rw [if_pos (by rw [x_ltl (by omega) (by omega)]; omega), if_neg h6]
    refine ok_b (p_toNext h hok.2.1 hk.2.1) ?_
    rintro ν2 ⟨g1, g2⟩
    have fE2 : FrE μ ν2 := FrE.of g2
    have h2 := fE2.tx h
    have hc2 := hc.fr hd fE2
    have hok1 : TkOK T N (tkA T N k.2.1) := tk_ok hok.2.1
    generalize tkA T N k.2.1 = k1 at g1 hok1 ⊢
    rw [p_actHere h2 g1 hok1, ob_s]
    generalize hpa : pActs T N nc E.length 41 L k1 = tgt
    refine ok_l (fun m s => FrD d μ s.2.2.2 ∧ ((s.1 = 0 ∧ ∃ L' k', pActs T N nc E.length m L' k' = tgt ∧ 41 ≤ L'.length + m ∧ L'.length ≤ 40 ∧ (∃ c, s.2.2.1 = nI c ∧ c ≤ L'.length) ∧ s.2.1 = akI (akA T k') ∧ CtI s.2.2.2 k' ∧ TkOK T N k' ∧ CPl s.2.2.2 d nc L' E B ∧ GdA nc L' ∧ SgA L' E) ∨ (m = 0 ∧ ¬ s.1 = 0 ∧ ∃ e : Nat × Nat, tgt = .inl e ∧ s.1 = nI e.1 ∧ 1 ≤ e.1 ∧ e.1 ≤ 3 ∧ s.2.2.2 13 2 = nI e.2 ∧ (∃ k, CtI s.2.2.2 k ∧ TkOK T N k) ∧ ∃ L', CPl s.2.2.2 d nc L' E B))) 41 (by omega) ⟨fE2.d, Or.inl ⟨rfl, L, k1, hpa, by omega, hl, ⟨0, rfl, by omega⟩, rfl, g1, hok1, hc2, hg, hsg⟩⟩ ?_
    rintro m ⟨y5, y6, y7, ν8⟩ ⟨f8, hh⟩
    simp only at f8 hh ⊢
    rcases hh with ⟨rfl, L', k', a1, a2, a3, ⟨c, a4, a4'⟩, a5, a6, a7, a8, a9, a10⟩ | ⟨rfl, hne, e, b1, b2, b3, b4, b5, ⟨kx, b6, b6'⟩, L', b7⟩
    · subst a4 a5
      obtain ⟨n, rfl⟩ : ∃ n, m = n + 1 := ⟨m - 1, by omega⟩
      rw [pActs] at a1
      rw [if_neg (by rw [x_llt (by omega) (by omega)]; omega), if_pos rfl]
      cases hak : akA T k' with
      | none =>
        rw [hak] at a1
        simp only [] at a1
        rw [if_pos (show akI none = -1 from rfl)]
        refine ok_s (Or.inl ⟨_, rfl, ?_⟩)
        rw [← a1]
        simp only []
        refine ok_b (p_endSeam hd a8 (by omega)) ?_
        rintro ν15 ⟨e1, e2, e3⟩
        rw [if_pos trivial]
        have h15 : TxI ν15 T N := FrD.tx hd (f8.trans e2) h
        refine ok_b (p_tSgn h15 (ct_13 e3 a6) a7) ?_
        rintro ⟨r16, ν17⟩ ⟨f17, q17⟩
        refine ok_s ⟨(f8.trans e2).trans f17.d, ?_⟩
        cases hsn : pSgn T N k' with
        | inl e =>
          rw [hsn] at q17
          exact q17
        | inr v =>
          rw [hsn] at q17
          exact ⟨q17.1, q17.2, e1.fr hd f17⟩
      | some kd =>
        rw [hak] at a1
        simp only [] at a1
        have hkd : kd < 10 := by
          have := ak_lt 10 0 hak
          omega
        rw [if_neg (show ¬ akI (some kd) = -1 from m1n (by omega))]
        refine ok_b (p_tAct hd (FrD.tx hd f8 h) a6 a7 a8 hkd a3 hnc) ?_
        rintro ⟨r18, ν19⟩ ⟨f19, q19⟩
        simp only at f19 q19 ⊢
        have h19 : TxI ν19 T N := FrD.tx hd (f8.trans f19) h
        cases htk : pTake T N nc L' E.length kd k' with
        | inl e =>
          rw [htk] at q19 a1
          simp only [] at a1
          obtain ⟨b1, b2, b3, b4, ⟨kx, b5, b6⟩, b7⟩ := q19
          simp only at b1 b4 b5 b7
          rw [p_actHere h19 b5 b6, ob_s, n1]
          have hr : ¬ r18 = 0 := by rw [b1, x_eql (by omega) (by omega)]; omega
          exact ok_s (Or.inr ⟨_, 0, rfl, by omega, f8.trans f19, Or.inr ⟨rfl, hr, e, a1.symm, b1, b2, b3, b4, ⟨kx, b5, b6⟩, L', b7⟩⟩)
        | inr w =>
          rw [htk] at q19 a1
          simp only [] at a1
          obtain ⟨b1, b2, b3⟩ := q19
          simp only at b1 b2 b3
          obtain ⟨t1, t2, t3, t4, t5⟩ := pTake_r a7 hkd rfl a9 a10 htk
          rw [p_actHere h19 b2 t3, ob_s, n1]
          exact ok_s (Or.inr ⟨_, n, rfl, by omega, f8.trans f19, Or.inl ⟨b1, w.1, w.2, a1, by omega, by omega, ⟨c + 1, rfl, by omega⟩, rfl, b2, t3, b3, t4, t5⟩⟩)
    · have hend : Ok ((m_X3_endSeam Zc d ν8).bind fun ν15 => (if y5 = 0 then (m_X4_takeSign Zc 15 ν15).bind fun (r16, ν17) => some (r16, ν17) else some (y5, ν15))) (fun q => FrD d μ q.2 ∧ CRs T N q (match tgt with
          | .inl e => .inl e
          | .inr q => match pSgn T N q.2 with
            | .inl e => .inl e
            | .inr r => .inr ((q.1, E ++ [q.1.length]), r)) (fun _ => True) (fun r ν => CtI ν r.2 ∧ CPl ν d nc r.1.1 r.1.2 B)) := by
        refine ok_b (p_endSeam hd b7 (by omega)) ?_
        rintro ν15 ⟨e1, e2, e3⟩
        rw [if_neg hne, b1]
        exact ok_s ⟨f8.trans e2, b2, b3, b4, by show ν15 13 2 = _; rw [e3]; exact b5, ⟨kx, ct_13 e3 b6, b6'⟩, trivial⟩
      by_cases hy : 40 < y7
      · rw [if_pos hy]
        exact ok_s (Or.inl ⟨_, rfl, hend⟩)
      · rw [if_neg hy, if_neg hne]
        exact ok_s (Or.inl ⟨_, rfl, hend⟩)
theorem p_tPan {μ : MT} {T : Nat → Nat} {N d : Nat} {k : PT} (hd : isPl d) (h : TxI μ T N) (hk : CtI μ k) (hok : TkOK T N k) (hc : CPl μ d 0 [] [] []) :
    Ok (m_X4_takePanel Zc 15 d μ) (fun q => FrD d μ q.2 ∧ CRs T N q (pPan T N k) (fun _ => True) (fun r ν => CtI ν r.2 ∧ CPl ν d r.1 [] [] [])) := by
  have hdl := isPl_le hd
  unfold m_X4_takePanel pPan
  simp only [zA]
  have haw : m_X7_atWord Zc 13 10 μ = some (bI (wsB T k 10 = true)) := p_atWord (i := 10) h hk hok (by omega)
  rw [haw, ob_s]
  by_cases hw : wsB T k 10 = true
  · rw [bI_t hw, if_neg (by decide), if_pos hw]
    refine ok_b (p_toNext h hok.2.1 hk.2.1) ?_
    rintro ν4 ⟨g1, g2⟩
    have fE4 : FrE μ ν4 := FrE.of g2
    have h4 := fE4.tx h
    have hc4 := hc.fr hd fE4
    have hok1 : TkOK T N (tkA T N k.2.1) := tk_ok hok.2.1
    generalize tkA T N k.2.1 = k1 at g1 hok1 ⊢
    refine ok_b (p_tNum (a := 4) (b := 12) (P := rgB 4 13) h4 g1 hok1 (rg_P (lo := 4) (hi := 13) rfl (by omega) (by omega) (by decide))) ?_
    rintro ⟨r5, ν6⟩ ⟨f6, q6⟩
    simp only at f6 q6 ⊢
    cases h1 : pNum T N (rgB 4 13) k1 with
    | inl e =>
      rw [h1] at q6
      have hr : ¬ r5 = 0 := by
        rw [show r5 = nI e.1 from q6.1, x_eql (by have := q6.2.2.1; omega) (by omega)]
        have := q6.2.1
        omega
      rw [if_neg hr]
      exact ok_s ⟨(fE4.trans f6).d, q6⟩
    | inr w =>
      rw [h1] at q6
      obtain ⟨q1, q2, q3⟩ := q6
      simp only at q1 q2 q3
      subst q1
      rw [if_pos rfl, ob_s, q3]
      have hokw : TkOK T N w.2 := by rw [(pNum_r h1).2.2.1]; exact tk_ok hok1.2.1
      have hfr7 : FrD d μ (u2 ν6 d 0 (nI w.1)) := (fE4.trans f6).d.w hd (by omega)
      have e13 : u2 ν6 d 0 (nI w.1) 13 = ν6 13 := by rw [u2_w, if_neg (by omega)]
      have hc7 : CPl (u2 ν6 d 0 (nI w.1)) d w.1 [] [] [] := by
        obtain ⟨⟨c0, c1, c2, c3⟩, c4, c5, c6⟩ := hc4.fr hd f6
        refine ⟨⟨?_, ?_, ?_, ?_⟩, fun a ha => by simp at ha, fun s hs => by simp at hs, fun s hs => ?_⟩
        · rw [u2_r, if_pos ⟨rfl, rfl⟩]
        · rw [u2_r, if_neg (by omega)]; exact c1
        · rw [u2_r, if_neg (by omega)]; exact c2
        · rw [u2_r, if_neg (by omega)]; exact c3
        · rw [u2_r, if_neg (by omega)]; exact c6 s hs
      refine ok_b (p_tSgn (FrD.tx hd hfr7 h) (ct_13 e13 q2) hokw) ?_
      rintro ⟨r8, ν9⟩ ⟨f9, q9⟩
      refine ok_s ⟨hfr7.trans f9.d, ?_⟩
      simp only []
      cases h3 : pSgn T N w.2 with
      | inl e => rw [h3] at q9; exact q9
      | inr v => rw [h3] at q9; exact ⟨q9.1, q9.2, hc7.fr hd f9⟩
  · rw [bI_f hw, if_pos rfl, if_neg hw]
    exact ok_s ⟨FrD.refl d μ, rfl, by simp, by simp, hk.1, ⟨k, hk, hok⟩, trivial⟩
theorem p_tBef {μ : MT} {T : Nat → Nat} {N d nc : Nat} {L : List AC} {E : List Nat} {B : List (Nat × Nat)} {k : PT} (hd : isPl d) (h : TxI μ T N) (hk : CtI μ k) (hok : TkOK T N k) (hc : CPl μ d nc L E B) (hE : E.length ≤ 6) (hB : B.length ≤ 10) :
    Ok (m_X4_takeBefore Zc 15 d μ) (fun q => FrD d μ q.2 ∧ CRs T N q (pBef T N E.length B k) (fun _ => True) (fun r ν => CtI ν r.2 ∧ CPl ν d nc L E r.1)) := by
  have hdl := isPl_le hd
  unfold m_X4_takeBefore pBef
  simp only [zA]
  rw [hc.1.2.2.2]
  by_cases h10 : 10 ≤ B.length
  · rw [if_neg (by rw [x_ltl (by omega) (by omega)]; omega), if_pos h10]
    exact ok_s ⟨FrD.refl d μ, rfl, by simp, by simp, hk.1, ⟨k, hk, hok⟩, trivial⟩
  · rw [if_pos (by rw [x_ltl (by omega) (by omega)]; omega), if_neg h10]
    refine ok_b (p_toNext h hok.2.1 hk.2.1) ?_
    rintro ν2 ⟨g1, g2⟩
    have fE2 : FrE μ ν2 := FrE.of g2
    have h2 := fE2.tx h
    have hc2 := hc.fr hd fE2
    have hok1 : TkOK T N (tkA T N k.2.1) := tk_ok hok.2.1
    generalize tkA T N k.2.1 = k1 at g1 hok1 ⊢
    refine ok_b (p_tNum (a := 0) (P := rgB 0 E.length) h2 g1 hok1 (rg_P (lo := 0) (hi := E.length) rfl (by omega) (by omega) (by rw [hc2.1.2.1]))) ?_
    rintro ⟨r3, ν4⟩ ⟨f4, q4⟩
    simp only at f4 q4 ⊢
    have fE4 := fE2.trans f4
    have h4 := f4.tx h2
    have hc4 := hc2.fr hd f4
    cases h1 : pNum T N (rgB 0 E.length) k1 with
    | inl e =>
      rw [h1] at q4
      have hr : ¬ r3 = 0 := by
        rw [show r3 = nI e.1 from q4.1, x_eql (by have := q4.2.2.1; omega) (by omega)]
        have := q4.2.1
        omega
      rw [if_neg hr]
      exact ok_s ⟨fE4.d, q4⟩
    | inr w =>
      rw [h1] at q4
      obtain ⟨q1, q2, q3⟩ := q4
      simp only at q1 q2 q3
      subst q1
      rw [if_pos rfl, ob_s, q3]
      simp only []
      obtain ⟨w1, w2, w3, w4⟩ := pNum_r h1
      rw [rg_i] at w1
      have hokw : TkOK T N w.2 := by rw [w3]; exact tk_ok hok1.2.1
      have os := hokw.2.2.1
      unfold m_X7_atNumber
      rw [q2.2.2]
      have htwo : ∀ (hne : w.2.2.2 = 2 → ¬ nvA T w.2 = w.1), Ok ((m_X4_takeNumber Zc 15 0 ((ν4 d 1) - 1) ν4).bind fun (r11, ν12) => (if r11 = 0 then (m_X3_addBefore Zc d (nI w.1) (ν12 15 1) ν12).bind fun ν13 => (m_X4_takeSign Zc 15 ν13).bind fun (r14, ν15) => some (r14, ν15) else some (r11, ν12))) (fun q => FrD d μ q.2 ∧ CRs T N q (match pNum T N (neB E.length w.1) w.2 with
          | .inl e => .inl e
          | .inr r => match pSgn T N r.2 with
            | .inl e => .inl e
            | .inr v => .inr (B ++ [(w.1, r.1)], v)) (fun _ => True) (fun r ν => CtI ν r.2 ∧ CPl ν d nc L E r.1)) := fun hne => by
        have hpe : pNum T N (neB E.length w.1) w.2 = pNum T N (rgB 0 E.length) w.2 := by
          unfold pNum
          by_cases hs : w.2.2.2 = 2
          · rw [if_pos hs, if_pos hs]
            have hv := hne hs
            by_cases hp : nvA T w.2 < E.length
            · rw [if_pos (ne_i.mpr ⟨hp, hv⟩), if_pos (rg_i.mpr ⟨by omega, hp⟩)]
            · rw [if_neg (fun hq => hp (ne_i.mp hq).1), if_neg (fun hq => hp (rg_i.mp hq).2)]
          · rw [if_neg hs, if_neg hs]
        rw [hpe]
        refine ok_b (p_tNum (a := 0) (P := rgB 0 E.length) h4 q2 hokw (rg_P (lo := 0) (hi := E.length) rfl (by omega) (by omega) (by rw [hc4.1.2.1]))) ?_
        rintro ⟨r11, ν12⟩ ⟨f12, q12⟩
        simp only at f12 q12 ⊢
        have fE12 := fE4.trans f12
        cases h3 : pNum T N (rgB 0 E.length) w.2 with
        | inl e =>
          rw [h3] at q12
          have hr : ¬ r11 = 0 := by
            rw [show r11 = nI e.1 from q12.1, x_eql (by have := q12.2.2.1; omega) (by omega)]
            have := q12.2.1
            omega
          rw [if_neg hr]
          exact ok_s ⟨fE12.d, q12⟩
        | inr v =>
          rw [h3] at q12
          obtain ⟨p1, p2, p3⟩ := q12
          simp only at p1 p2 p3
          subst p1
          obtain ⟨v1, v2, v3, v4⟩ := pNum_r h3
          rw [rg_i] at v1
          have hokv : TkOK T N v.2 := by rw [v3]; exact tk_ok hokw.2.1
          rw [if_pos rfl, p3]
          refine ok_b (p_addBef hd (hc4.fr hd f12) hE w1.2 v1.2 (by omega)) ?_
          rintro ν13 ⟨b1, b2, b3⟩
          have f13 := fE12.d.trans b2
          refine ok_b (p_tSgn (FrD.tx hd f13 h) (ct_13 b3 p2) hokv) ?_
          rintro ⟨r14, ν15⟩ ⟨f15, q15⟩
          refine ok_s ⟨f13.trans f15.d, ?_⟩
          simp only []
          cases h5 : pSgn T N v.2 with
          | inl e => rw [h5] at q15; exact q15
          | inr u => rw [h5] at q15; exact ⟨q15.1, q15.2, b1.fr hd f15⟩
      by_cases hs : w.2.2.2 = 2
      · rw [if_pos (by rw [hs]; rfl), ob_s, if_neg (by decide), p_numH h4 q2 hokw hs, ob_s]
        have hnv := nv_le hokw hs
        by_cases hv : nvA T w.2 = w.1
        · rw [if_pos (by rw [hv]), ob_s]
          have hpf : pNum T N (neB E.length w.1) w.2 = .inl (2, w.2.1) := by
            unfold pNum
            rw [if_pos hs, if_neg (fun hq => (ne_i.mp hq).2 hv)]
          rw [hpf]
          exact ok_s ⟨fE4.d, rfl, by simp, by simp, q2.1, ⟨w.2, q2, hokw⟩, trivial⟩
        · rw [if_neg (by rw [x_eq (by omega) (by have := nv_le hok1 w2; omega)]; exact hv), ob_s]
          exact htwo (fun _ => hv)
      · rw [if_neg (by rw [x_eql (by omega) (by omega)]; exact hs), ob_s, if_pos rfl, ob_s]
        exact htwo (fun hq => absurd hq hs)
