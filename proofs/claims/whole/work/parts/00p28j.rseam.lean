/-! ===== the reference's seams and befores ===== -/
theorem r_rSeam {μ : MT} {T : Nat → Nat} {N nc : Nat} {L : List AC} {E : List Nat} {B : List (Nat × Nat)} {k : PT} (h : TrI μ T N) (hk : RkI μ k) (hok : TkOK T N k) (h27 : μ 106 27 = 0) (hc : RPl μ nc L E B) (hl : L.length ≤ 40) (hE : E.length ≤ 6) (hnc : nc ≤ 12) (hg : GdA nc L) (hsg : SgA L E) :
    Ok (m_X9_readSeam Zc 106 μ) (fun ν => FrQ μ ν ∧ RRs T N ν (pSeam T N nc L E k) (fun r ν => RkI ν r.2 ∧ RPl ν nc r.1.1 r.1.2 B)) := by
  unfold m_X9_readSeam pSeam
  rw [hc.1.2.1]
  have hinc : ∀ (ν : MT) (c pl : Nat), FsI ν T N c pl → FrQ μ ν → Ok ((m_X9_mustEnd Zc 106 ν).bind fun ν13 => (some (u2 ν13 106 13 ((ν13 106 13) + 1))).bind fun ν14 => some ν14) (fun ν' => FrQ μ ν' ∧ FsI ν' T N c pl) := fun ν c pl hf hfr => by
    rw [r_end_f hf, ob_s, ob_s]
    refine ok_s ⟨hfr.w6 (by omega), fs_fr hf (fun q hq => by rw [u2_w, if_neg (by omega)]) (fun j a b => by rw [u2_r, if_neg (by omega)])⟩
  by_cases h6 : 6 ≤ E.length
  · rw [if_pos (by rw [show E.length = 6 by omega]; rfl), if_pos h6]
    refine ok_b (R1 := fun ν => FsI ν T N 3 k.1 ∧ FrU μ ν) ?_ ?_
    · refine ok_b (r_bad (c := 3) h hk hok h27 (by omega)) ?_
      rintro ν ⟨g1, g2, g3⟩
      exact ok_s ⟨g1, g2⟩
    · rintro ν1 ⟨g1, g2⟩
      rw [r_must_f g1, ob_s, r_kow_f g1, ob_s]
      refine ok_l (fun m s => s = (-1000000, ν1)) 0 (by omega) rfl ?_
      rintro m s rfl
      simp only []
      rw [if_neg g1.ne.1]
      exact ok_s (Or.inl ⟨_, rfl, hinc ν1 3 k.1 g1 (FrQ.of g2)⟩)
  · rw [if_neg (by rw [x_eql (by omega) (by omega)]; omega), if_neg h6, ob_s]
    refine ok_b (r_must1 h hk hok h27) ?_
    rintro ν4 ⟨g1, g2, g3⟩
    have h4 := g2.tr h
    have hc4 := hc.fr g2
    have hok1 : TkOK T N (tkA T N k.2.1) := tk_ok hok.2.1
    generalize tkA T N k.2.1 = k1 at g1 hok1 ⊢
    rw [r_kow h4 g1 hok1, if_pos g3, ob_s]
    generalize hpa : pActs T N nc E.length 41 L k1 = tgt
    refine ok_l (fun m s => FrQ μ s.2 ∧ ((s.2 106 27 = 0 ∧ ∃ L' k', pActs T N nc E.length m L' k' = tgt ∧ 41 ≤ L'.length + m ∧ L'.length ≤ 40 ∧ s.1 = krI (akA T k') ∧ RkI s.2 k' ∧ TkOK T N k' ∧ RPl s.2 nc L' E B ∧ GdA nc L' ∧ SgA L' E) ∨ (m = 0 ∧ ∃ e : Nat × Nat, tgt = .inl e ∧ FsI s.2 T N e.1 e.2))) 41 (by omega) ⟨FrQ.of g2, Or.inl ⟨g3, L, k1, hpa, by omega, hl, rfl, g1, hok1, hc4, hg, hsg⟩⟩ ?_
    rintro m ⟨y6, ν7⟩ ⟨f7, hh⟩
    simp only at f7 hh ⊢
    rcases hh with ⟨a0, L', k', a1, a2, a3, a4, a5, a6, a7, a8, a9⟩ | ⟨rfl, e, b1, b2⟩
    · subst a4
      obtain ⟨n, rfl⟩ : ∃ n, m = n + 1 := ⟨m - 1, by omega⟩
      rw [pActs] at a1
      rw [if_pos a0]
      cases hak : akA T k' with
      | none =>
        rw [hak] at a1
        simp only [] at a1
        rw [if_pos (show krI none = -1000000 from rfl)]
        refine ok_s (Or.inl ⟨_, rfl, ?_⟩)
        rw [← a1]
        simp only []
        refine ok_b (r_end (f7.tr h) a5 a6 a0) ?_
        rintro ν13 ⟨f13, q13⟩
        have hc13 := a7.fr f13
        rw [hc13.1.2.1, n1, ob_s]
        have fq : FrQ μ (u2 ν13 106 13 (nI (E.length + 1))) := (f7.trans (FrQ.of f13)).w6 (by omega)
        cases hsn : pSgn T N k' with
        | inl e =>
          rw [hsn] at q13
          exact ok_s ⟨fq, fs_fr q13 (fun q hq => by rw [u2_w, if_neg (by omega)]) (fun j a b => by rw [u2_r, if_neg (by omega)])⟩
        | inr v =>
          rw [hsn] at q13
          refine ok_s ⟨fq, ?_, rk_fr q13.1 (fun j a b => by rw [u2_r, if_neg (by omega)]), ?_⟩
          · rw [u2_r, if_neg (by omega)]; exact q13.2
          · obtain ⟨⟨c0, c1, c2, c3⟩, c4, c5⟩ := hc13
            refine ⟨⟨?_, ?_, ?_, ?_⟩, fun a ha => ?_, fun b hb => ?_⟩
            · rw [u2_r, if_neg (by omega)]; exact c0
            · rw [u2_r, if_pos ⟨rfl, rfl⟩]; simp
            · rw [u2_r, if_neg (by omega)]; exact c2
            · rw [u2_r, if_neg (by omega)]; exact c3
            · rw [show u2 ν13 106 13 (nI (E.length + 1)) 113 = ν13 113 by rw [u2_w, if_neg (by omega)]]
              exact c4 a ha
            · rw [show u2 ν13 106 13 (nI (E.length + 1)) 114 = ν13 114 by rw [u2_w, if_neg (by omega)], show u2 ν13 106 13 (nI (E.length + 1)) 115 = ν13 115 by rw [u2_w, if_neg (by omega)]]
              exact c5 b hb
      | some kd =>
        rw [hak] at a1
        simp only [] at a1
        have hkd : kd < 10 := by
          have := ak_lt 10 0 hak
          omega
        rw [if_neg (show ¬ krI (some kd) = -1000000 from mNn (by omega))]
        refine ok_b (r_rAct (f7.tr h) a5 a6 a0 a7 hkd a3 hnc) ?_
        rintro ν15 ⟨f15, q15⟩
        cases htk : pTake T N nc L' E.length kd k' with
        | inl e =>
          rw [htk] at q15 a1
          simp only [] at a1
          have q15' : FsI ν15 T N e.1 e.2 := q15
          rw [r_kow_f q15', ob_s]
          exact ok_s (Or.inr ⟨_, 0, rfl, by omega, f7.trans f15, Or.inr ⟨rfl, e, a1.symm, q15'⟩⟩)
        | inr w =>
          rw [htk] at q15 a1
          simp only [] at a1
          obtain ⟨b1, b2, b3⟩ := q15
          obtain ⟨t1, t2, t3, t4, t5⟩ := pTake_r a6 hkd rfl a8 a9 htk
          rw [r_kow ((f7.trans f15).tr h) b2 t3, if_pos b1, ob_s]
          exact ok_s (Or.inr ⟨_, n, rfl, by omega, f7.trans f15, Or.inl ⟨b1, w.1, w.2, a1, by omega, by omega, rfl, b2, t3, b3, t4, t5⟩⟩)
    · rw [if_neg b2.ne.1]
      refine ok_s (Or.inl ⟨_, rfl, ?_⟩)
      rw [b1]
      exact hinc ν7 e.1 e.2 b2 f7
theorem r_rBef {μ : MT} {T : Nat → Nat} {N nc : Nat} {L : List AC} {E : List Nat} {B : List (Nat × Nat)} {k : PT} (h : TrI μ T N) (hk : RkI μ k) (hok : TkOK T N k) (h27 : μ 106 27 = 0) (hc : RPl μ nc L E B) (hw : wsB T k 12 = true) (hE : E.length ≤ 6) (hB : B.length ≤ 10) :
    Ok (m_X9_readBefore Zc 106 μ) (fun ν => FrQ μ ν ∧ RRs T N ν (pBef T N E.length B k) (fun r ν => RkI ν r.2 ∧ RPl ν nc L E r.1)) := by
  obtain ⟨-, -, -, -, -, -, -, -, -, -, -, -, c12⟩ := cw_n
  unfold m_X9_readBefore pBef
  simp only [zA]
  rw [hc.1.2.2.2]
  have hfin : ∀ (ν : MT) (c pl : Nat) (r9 r11 : Int32), FsI ν T N c pl → Ok ((m_X9_mustEnd Zc 106 ν).bind fun ν13 => (if (ν13 106 27) = 0 then (ast Zc ν13 114 (ν13 106 15) r9).bind fun ν15 => (ast Zc ν15 115 (ν15 106 15) r11).bind fun ν17 => (some (u2 ν17 106 15 ((ν17 106 15) + 1))).bind fun ν18 => some ν18 else some ν13)) (fun ν' => ν' = ν) := fun ν c pl r9 r11 hf => by
    rw [r_end_f hf, ob_s, if_neg hf.ne.1]
    exact ok_s rfl
  by_cases h10 : 10 ≤ B.length
  · rw [if_pos (by rw [show B.length = 10 by omega]; rfl), if_pos h10]
    refine ok_b (R1 := fun ν => FsI ν T N 3 k.1 ∧ FrU μ ν) ?_ ?_
    · refine ok_b (r_bad (c := 3) h hk hok h27 (by omega)) ?_
      rintro ν ⟨g1, g2, g3⟩
      exact ok_s ⟨g1, g2⟩
    · rintro ν1 ⟨g1, g2⟩
      rw [r_word_f g1, ob_s, if_neg (z_c (by decide)), ob_s, r_must_f g1, ob_s, r_num_f g1, ob_s]
      dsimp only
      rw [r_num_f g1, ob_s]
      dsimp only
      refine ok_m (hfin ν1 3 k.1 0 0 g1) ?_
      rintro ν' rfl
      exact ⟨FrQ.of g2, g1⟩
  · rw [if_neg (by rw [x_eql (by omega) (by omega)]; omega), if_neg h10, ob_s, r_word h hk hok, if_pos h27, ob_s, if_pos ((wr_c hok (show 12 < 13 by omega) c12).mpr hw), ob_s]
    refine ok_b (r_must1 h hk hok h27) ?_
    rintro ν8 ⟨g1, g2, g3⟩
    have h8 := g2.tr h
    have hc8 := hc.fr g2
    have hok1 : TkOK T N (tkA T N k.2.1) := tk_ok hok.2.1
    generalize tkA T N k.2.1 = k1 at g1 hok1 ⊢
    refine ok_b (r_num (a := 0) (z := -1000000) (P := rgB 0 E.length) h8 g1 hok1 g3 (rg_Q (lo := 0) (hi := E.length) rfl (by omega) (by omega) (by rw [hc8.1.2.1]))) ?_
    rintro ⟨r9, ν10⟩ ⟨f10, q10⟩
    have fU10 := g2.trans f10
    simp only [] at f10 q10 fU10 ⊢
    cases h1 : pNum T N (rgB 0 E.length) k1 with
    | inl e =>
      rw [h1] at q10
      have q10' : FsI ν10 T N e.1 e.2 := q10
      rw [r_num_f q10', ob_s]
      dsimp only
      refine ok_m (hfin ν10 e.1 e.2 r9 0 q10') ?_
      rintro ν' rfl
      exact ⟨FrQ.of fU10, q10'⟩
    | inr w =>
      rw [h1] at q10
      obtain ⟨q1, q2, q3⟩ := q10
      subst q1
      have h10' := f10.tr h8
      have hc10 := hc8.fr f10
      obtain ⟨w1, w2, w3, w4⟩ := pNum_r h1
      have hokw : TkOK T N w.2 := by rw [w3]; exact tk_ok hok1.2.1
      have hwl : w.1 ≤ 99 := by rw [w4]; exact nv_le hok1 w2
      refine ok_b (r_num (a := 0) (z := nI w.1) (P := neB E.length w.1) h10' q2 hokw q3 (ne_Q (by omega) (by omega) (by rw [hc10.1.2.1]))) ?_
      rintro ⟨r11, ν12⟩ ⟨f12, q12⟩
      have fU12 := fU10.trans f12
      simp only [] at f12 q12 fU12 ⊢
      cases h3 : pNum T N (neB E.length w.1) w.2 with
      | inl e =>
        rw [h3] at q12
        have q12' : FsI ν12 T N e.1 e.2 := q12
        refine ok_m (hfin ν12 e.1 e.2 (nI w.1) r11 q12') ?_
        rintro ν' rfl
        exact ⟨FrQ.of fU12, q12'⟩
      | inr v =>
        rw [h3] at q12
        obtain ⟨p1, p2, p3⟩ := q12
        subst p1
        obtain ⟨v1, v2, v3, v4⟩ := pNum_r h3
        have hokv : TkOK T N v.2 := by rw [v3]; exact tk_ok hokw.2.1
        refine ok_b (r_end (f12.tr h10') p2 hokv p3) ?_
        rintro ν13 ⟨f13, q13⟩
        have fU13 := fU12.trans f13
        simp only []
        cases h5 : pSgn T N v.2 with
        | inl e =>
          rw [h5] at q13
          have q13' : FsI ν13 T N e.1 e.2 := q13
          rw [if_neg q13'.ne.1]
          exact ok_s ⟨FrQ.of fU13, q13'⟩
        | inr u =>
          rw [h5] at q13
          obtain ⟨s1, s2⟩ := q13
          have hc13 := (hc10.fr f12).fr f13
          obtain ⟨⟨c0, c1, c2, c3⟩, c4, c5⟩ := hc13
          rw [if_pos s2, c3, as_114 (by omega), ob_s]
          have e1 : u2 ν13 114 B.length (nI w.1) 106 = ν13 106 := by rw [u2_w, if_neg (by omega)]
          rw [e1, c3, as_115 (by omega), ob_s]
          have e2 : u2 (u2 ν13 114 B.length (nI w.1)) 115 B.length (nI v.1) 106 = ν13 106 := by rw [u2_w, if_neg (by omega)]; exact e1
          rw [e2, c3, n1, ob_s]
          refine ok_s ⟨(((FrQ.of fU13).w (by omega)).w (by omega)).w6 (by omega), ?_, rk_fr s1 (fun j a b => by rw [u2_r, if_neg (by omega), e2]), ⟨?_, ?_, ?_, ?_⟩, fun a ha => ?_, fun b hb => ?_⟩
          · rw [u2_r, if_neg (by omega), e2]; exact s2
          · rw [u2_r, if_neg (by omega), e2]; exact c0
          · rw [u2_r, if_neg (by omega), e2]; exact c1
          · rw [u2_r, if_neg (by omega), e2]; exact c2
          · rw [u2_r, if_pos ⟨rfl, rfl⟩]; simp
          · have : u2 (u2 (u2 ν13 114 B.length (nI w.1)) 115 B.length (nI v.1)) 106 15 (nI (B.length + 1)) 113 = ν13 113 := by rw [u2_w, if_neg (by omega), u2_w, if_neg (by omega), u2_w, if_neg (by omega)]
            rw [this]
            exact c4 a ha
          · rw [getD_app]
            by_cases hbl : b = B.length
            · subst hbl
              rw [if_pos rfl]
              refine ⟨?_, ?_⟩ <;> simp [u2_r]
            · rw [if_neg hbl]
              have := c5 b (by simp at hb; omega)
              refine ⟨?_, ?_⟩ <;> simp [u2_r, hbl, this]
