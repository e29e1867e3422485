theorem op_wire {ν : MT} (h : Inv ν) (a0 a1 a2 : Int32) : OkI Inv (m_X8_wire Zc 127 0 a0 a1 a2 ν) (fun μ => m_X9_wire Zc 106 a0 a1 a2 μ) := by
  obtain ⟨p, d, nc, ns, na, nb, h⟩ := h
  obtain ⟨c1, c2, c3, ⟨hp, hd, hpd, e11, e12⟩, c5, c6, c7, c8, c9, c10, c11, c12, c13⟩ := id h
  obtain ⟨hnc, hns, hna, hnb⟩ := pl_bd c5
  obtain ⟨x, x1, x2, x3⟩ := la_ex c9
  have hpl2 := isPl_le hp
  have e0 := c5.1.1
  have hz4 := c5.2.1
  by_cases hs : 0 ≤ a0.toInt ∧ a0.toInt < 8
  case neg =>
    refine okI_of (a := -1000001) (P := fun μ => μ = ν) ?_ ?_
    · unfold m_X8_wire
      simp only [zA]
      rw [q_hasN, ob_s, bI_f hs, if_pos rfl]
      exact ok_s ⟨rfl, rfl⟩
    · rintro μ rfl
      unfold m_X9_wire
      rw [ob_s, q_isSh, ob_s, bI_f hs, if_pos rfl]
      exact ok_s ⟨rfl, p, d, nc, ns, na, nb, c_x h (FrX.refl μ).w0⟩
  obtain ⟨s, hs1, rfl⟩ := nI_ex (n := 8) hs.1 hs.2
  by_cases hz : nc = 0
  · refine okI_of (a := -1000002) (P := fun μ => μ = ν) ?_ ?_
    · unfold m_X8_wire
      simp only [zA]
      rw [q_hasN, ob_s, bI_t hs, if_neg (by decide), e11, mrd_p hp, ob_s, q_none e0 (by omega), ob_s, bI_t hz, if_neg (by decide)]
      exact ok_s ⟨rfl, rfl⟩
    · rintro μ rfl
      have m5 : u2 μ 106 0 0 106 5 = nI nc := c6.1
      unfold m_X9_wire
      rw [ob_s, q_isSh, ob_s, bI_t hs, if_neg (by decide), m5, if_pos (by rw [hz]; rfl)]
      exact ok_s ⟨rfl, p, d, nc, ns, na, nb, c_x h (FrX.refl μ).w0⟩
  have hz' : ¬ nI nc = 0 := by rw [x_eql (by omega) (by omega)]; exact hz
  have gin : ∀ μ : MT, m_X9_in Zc a2.toInt64 (-1) (nI nc - 1).toInt64 μ = some (bI (-1 ≤ a2.toInt ∧ a2.toInt < nc)) := fun μ => by
    rw [q_in, Int32.toInt_toInt64, Int32.toInt_toInt64, ti_n1 (by omega), show (-1 : Int64).toInt = -1 from rfl]
    unfold bI
    by_cases hc : -1 ≤ a2.toInt ∧ a2.toInt < nc
    · rw [if_pos hc, if_pos (by omega)]
    · rw [if_neg hc, if_neg (by omega)]
  by_cases hw : -1 ≤ a2.toInt ∧ a2.toInt < nc
  case neg =>
    refine okI_of (a := -1000001) (P := fun μ => μ = ν) ?_ ?_
    · unfold m_X8_wire
      simp only [zA]
      rw [q_hasN, ob_s, bI_t hs, if_neg (by decide), e11, mrd_p hp, ob_s, q_none e0 (by omega), ob_s, bI_f hz, if_pos rfl]
      by_cases h1 : a2 < -1
      · rw [if_pos h1]
        exact ok_s ⟨rfl, rfl⟩
      · rw [if_neg h1, ob_s, e0, if_neg (show ¬ a2 < nI nc by rw [fa_lt, ti_n (by omega)]; rw [fa_lt, show (-1 : Int32).toInt = -1 from rfl] at h1; omega)]
        exact ok_s ⟨rfl, rfl⟩
    · rintro μ rfl
      have m5 : u2 μ 106 0 0 106 5 = nI nc := c6.1
      unfold m_X9_wire
      rw [ob_s, q_isSh, ob_s, bI_t hs, if_neg (by decide), m5, if_neg hz', gin, ob_s, bI_f hw, if_pos rfl]
      exact ok_s ⟨rfl, p, d, nc, ns, na, nb, c_x h (FrX.refl μ).w0⟩
  have w1 : ¬ a2 < -1 := by rw [fa_lt, show (-1 : Int32).toInt = -1 from rfl]; omega
  have w2 : a2 < nI nc := by rw [fa_lt, ti_n (by omega)]; omega
  rcases c1.1 s hs1 with ⟨q1, q2⟩ | ⟨z, l, hzl, hl, q1, q2, q3, q4⟩
  · refine okI_of (a := -1000010 - 1) (P := fun μ => μ = u2 ν 0 15 1) ?_ ?_
    · unfold m_X8_wire m_X8_found
      simp only [zA]
      rw [q_hasN, ob_s, bI_t hs, if_neg (by decide), e11, mrd_p hp, ob_s, q_none e0 (by omega), ob_s, bI_f hz, if_pos rfl, if_neg w1, ob_s, e0, if_pos w2, ob_s, q_find1 hs1 q1, ob_s, if_neg (by decide), ob_s, ob_s]
      exact ok_s ⟨rfl, rfl⟩
    · rintro μ rfl
      have m5 : u2 (u2 ν 0 15 1) 106 0 0 106 5 = nI nc := c6.1
      have m107 : u2 (u2 ν 0 15 1) 106 0 0 107 = ν 107 := rfl
      unfold m_X9_wire m_X9_finding
      rw [ob_s, q_isSh, ob_s, bI_t hs, if_neg (by decide), m5, if_neg hz', gin, ob_s, bI_t hw, if_neg (by decide)]
      simp only [zA]
      rw [al_107 hs1, ob_s, m107, q2, if_neg (by decide), ob_s, ob_s]
      exact ok_s ⟨rfl, p, d, nc, ns, na, nb, c_s2 h 1⟩
  have fnd : m_X6_findingAt Zc 1 (nI s) a1 (nI nc + 1) ν = some (if 0 ≤ a1.toInt ∧ a1.toInt + (nc + 1) ≤ z then 0 else 2) := by
    rw [q_find hs1 q1 hzl, n1, ti_n (by omega)]
    by_cases hc : 0 ≤ a1.toInt ∧ a1.toInt + (nc + 1) ≤ z
    · rw [if_pos hc, if_pos (by omega)]
    · rw [if_neg hc, if_neg (by omega)]
  have lgc : ∀ b : Int32, (lg_cmp ((b.toInt64 + (nI nc).toInt64) + 1) (nI z).toInt64 ≤ 0) ↔ b.toInt + (nc + 1) ≤ z := fun b => by
    have t1 := ti_lo b
    have t2 := ti_hi b
    rw [lg_cmp_le, fa_le64, Int32.toInt_toInt64, ti_n (by omega), Int64.toInt_add, lg_i2l_add, ti_n (by omega), show (1 : Int64).toInt = 1 from rfl]
    rw [Int.bmod_eq_of_le (by omega) (by omega)]
    omega
  by_cases hpc : 0 ≤ a1.toInt ∧ a1.toInt + (nc + 1) ≤ z
  case neg =>
    refine okI_of (a := -1000010 - 2) (P := fun μ => μ = u2 ν 0 15 2) ?_ ?_
    · unfold m_X8_wire m_X8_found
      simp only [zA]
      rw [q_hasN, ob_s, bI_t hs, if_neg (by decide), e11, mrd_p hp, ob_s, q_none e0 (by omega), ob_s, bI_f hz, if_pos rfl, if_neg w1, ob_s, e0, if_pos w2, ob_s, e0, fnd, ob_s, if_neg hpc, if_neg (by decide), ob_s, ob_s]
      exact ok_s ⟨rfl, rfl⟩
    · rintro μ rfl
      have m5 : u2 (u2 ν 0 15 2) 106 0 0 106 5 = nI nc := c6.1
      have m107 : u2 (u2 ν 0 15 2) 106 0 0 107 = ν 107 := rfl
      have m108 : u2 (u2 ν 0 15 2) 106 0 0 108 = ν 108 := rfl
      unfold m_X9_wire m_X9_finding
      rw [ob_s, q_isSh, ob_s, bI_t hs, if_neg (by decide), m5, if_neg hz', gin, ob_s, bI_t hw, if_neg (by decide)]
      simp only [zA]
      rw [al_107 hs1, ob_s, m107, q4, if_pos (by rw [x_lle (by omega) (by omega)]; omega)]
      refine ok_b (R1 := fun q => q = Sum.inr (u2 (u2 ν 0 15 2) 106 0 0)) ?_ ?_
      · by_cases h1 : a1 < 0
        · rw [if_pos h1]
          exact ok_s rfl
        · rw [if_neg h1, al_108 hs1, ob_s, m108, q2]
          rw [fa_lt, show (0 : Int32).toInt = 0 from rfl] at h1
          rw [if_neg (by rw [lgc]; omega)]
          exact ok_s rfl
      · rintro q rfl
        exact ok_s ⟨rfl, p, d, nc, ns, na, nb, c_s2 h 2⟩
  obtain ⟨i, hi, rfl⟩ := nI_ex (n := 41) hpc.1 (by omega)
  have ri := hpc
  rw [ti_n (by omega)] at hpc
  obtain ⟨I, hIe⟩ : ∃ I : Nat → Int32, I = fun k => ν (5 + s) (i + k) := ⟨_, rfl⟩
  have hI3 : ∀ k, ν (5 + s) (i + k) = I k := fun k => by rw [hIe]
  have hI2 : ∀ k, k ≤ nc → ν 109 (40 * s + i + k) = I k := fun k hk => by rw [hIe, Nat.add_assoc]; exact (c1.2 s (i + k) hs1 (by omega)).symm
  have hall := q_all (μ := ν) (i := i) (n := nc + 1) (I := I) hs1 q1 hzl (fun k _ => hI3 k) (by omega)
  have g9 : ∀ (μ : MT) (v : Int32), m_X9_in Zc v.toInt64 (-9999) 9999 μ = some (bI (-9999 ≤ v.toInt ∧ v.toInt ≤ 9999)) := fun μ v => by
    rw [q_in, Int32.toInt_toInt64, show (-9999 : Int64).toInt = -9999 from rfl, show (9999 : Int64).toInt = 9999 from rfl]
  by_cases hb : ∃ j, j < nc + 1 ∧ ¬ (-9999 ≤ (I j).toInt ∧ (I j).toInt ≤ 9999)
  · rw [if_pos hb] at hall
    refine okI_of (a := -1000001) (P := fun μ => μ = ν) ?_ ?_
    · unfold m_X8_wire
      simp only [zA]
      rw [q_hasN, ob_s, bI_t hs, if_neg (by decide), e11, mrd_p hp, ob_s, q_none e0 (by omega), ob_s, bI_f hz, if_pos rfl, if_neg w1, ob_s, e0, if_pos w2, ob_s, e0, fnd, ob_s, if_pos ri, if_pos rfl, ob_s, e0, n1, hall, ob_s, if_pos rfl]
      exact ok_s ⟨rfl, rfl⟩
    · rintro μ rfl
      have m5 : u2 μ 106 0 0 106 5 = nI nc := c6.1
      have m107 : u2 μ 106 0 0 107 = μ 107 := rfl
      have m108 : u2 μ 106 0 0 108 = μ 108 := rfl
      have m109 : u2 μ 106 0 0 109 = μ 109 := rfl
      unfold m_X9_wire
      rw [ob_s, q_isSh, ob_s, bI_t hs, if_neg (by decide), m5, if_neg hz', gin, ob_s, bI_t hw, if_neg (by decide)]
      simp only [zA]
      rw [al_107 hs1, ob_s, m107, q4, if_pos (by rw [x_lle (by omega) (by omega)]; omega), if_neg (by rw [x_ltl (by omega) (by omega)]; omega), al_108 hs1, ob_s, m108, q2, if_pos (by rw [lgc, ti_n (by omega)]; omega), ob_s, x_lm, x_a]
      refine ok_b (R1 := fun q => q = Sum.inl (-1000001, u2 μ 106 0 0)) ?_ ?_
      · refine ok_c (fun k => ∃ j, k ≤ j ∧ j < nc + 1 ∧ ¬ (-9999 ≤ (I j).toInt ∧ (I j).toInt ≤ 9999)) 0 (nc + 1) (by omega) (by omega) rfl (by obtain ⟨j, h1, h2⟩ := hb; exact ⟨j, by omega, h1, h2⟩) ?_ ?_
        · rintro k _ hk ⟨j, h1, h2, h3⟩
          rw [if_neg (by rw [x_lt (by omega) (by omega)]; omega), x_a, al_109 (by omega), ob_s, m109, hI2 k (by omega), g9, ob_s]
          by_cases g1 : -9999 ≤ (I k).toInt ∧ (I k).toInt ≤ 9999
          · rw [bI_t g1, if_neg (by decide), ob_s, n1]
            refine ok_s (Or.inl ⟨rfl, j, ?_, h2, h3⟩)
            by_cases hkj : k = j
            · subst hkj; exact absurd g1 h3
            · omega
          · rw [bI_f g1, if_pos rfl]
            exact ok_s (Or.inr ⟨_, rfl, ok_s rfl⟩)
        · rintro ⟨j, h1, h2, h3⟩
          omega
      · rintro q rfl
        exact ok_s ⟨rfl, p, d, nc, ns, na, nb, c_x h (FrX.refl μ).w0⟩
  rw [if_neg hb] at hall
  have hgood : ∀ k, k < nc + 1 → -9999 ≤ (I k).toInt ∧ (I k).toInt ≤ 9999 := fun k hk => Classical.byContradiction fun hq => hb ⟨k, hk, hq⟩
  refine okI_of (a := if a2 = -1 then slF I x.1 nc 9 1 else wbF I a2.toNatClampNeg) (P := fun μ => μ = u2 ν 0 15 0) ?_ ?_
  · unfold m_X8_wire m_X8_fine
    simp only [zA]
    rw [q_hasN, ob_s, bI_t hs, if_neg (by decide), e11, mrd_p hp, ob_s, q_none e0 (by omega), ob_s, bI_f hz, if_pos rfl, if_neg w1, ob_s, e0, if_pos w2, ob_s, e0, fnd, ob_s, if_pos ri, if_pos rfl, ob_s, e0, n1, hall, ob_s, if_neg (by decide)]
    by_cases hm : a2 = -1
    · rw [if_pos hm, if_pos hm, p_stl hp e11 e0 hnc hs1 q1 hzl (fun k _ => hI3 k) (by omega) x1, ob_s, ob_s]
      exact ok_s ⟨rfl, rfl⟩
    · rw [if_neg hm, if_neg hm]
      have hm2 : ¬ a2.toInt = -1 := fun hq => hm (by rw [fa_eq, hq]; rfl)
      obtain ⟨c, hcc, rfl⟩ := nI_ex (n := nc) (a := a2) (by omega) hw.2
      rw [p_wb hs1 q1 hzl (fun k _ => hI3 k) (by omega), ob_s, ob_s, x_cl (by omega)]
      exact ok_s ⟨rfl, rfl⟩
  · rintro μ rfl
    have m5 : u2 (u2 ν 0 15 0) 106 0 0 106 5 = nI nc := c6.1
    have m107 : u2 (u2 ν 0 15 0) 106 0 0 107 = ν 107 := rfl
    have m108 : u2 (u2 ν 0 15 0) 106 0 0 108 = ν 108 := rfl
    have m109 : u2 (u2 ν 0 15 0) 106 0 0 109 = ν 109 := rfl
    unfold m_X9_wire
    rw [ob_s, q_isSh, ob_s, bI_t hs, if_neg (by decide), m5, if_neg hz', gin, ob_s, bI_t hw, if_neg (by decide)]
    simp only [zA]
    rw [al_107 hs1, ob_s, m107, q4, if_pos (by rw [x_lle (by omega) (by omega)]; omega), if_neg (by rw [x_ltl (by omega) (by omega)]; omega), al_108 hs1, ob_s, m108, q2, if_pos (by rw [lgc, ti_n (by omega)]; omega), ob_s, x_lm, x_a]
    refine ok_b (R1 := fun q => ∃ ν', q = Sum.inl ((if a2 = -1 then slF I x.1 nc 9 1 else wbF I a2.toNatClampNeg), ν') ∧ Inv ν') ?_ ?_
    · refine ok_c (fun k => True) 0 (nc + 1) (by omega) (by omega) rfl trivial ?_ ?_
      · rintro k _ hk _
        rw [if_neg (by rw [x_lt (by omega) (by omega)]; omega), x_a, al_109 (by omega), ob_s, m109, hI2 k (by omega), g9, ob_s, bI_t (hgood k hk), if_neg (by decide), ob_s, n1]
        exact ok_s (Or.inl ⟨rfl, trivial⟩)
      · rintro _
        rw [if_pos (by rw [x_lt (by omega) (by omega)]; omega)]
        refine ok_s ⟨_, rfl, ?_⟩
        simp only [jn, ob_s]
        have hC := c_s2 h 0
        have e16 : u2 (u2 (u2 ν 0 15 0) 106 0 0) 106 1 0 109 = ν 109 := rfl
        have e5 : u2 (u2 (u2 ν 0 15 0) 106 0 0) 106 1 0 106 5 = nI nc := c6.1
        have x4 : StIs (u2 (u2 (u2 ν 0 15 0) 106 0 0) 106 1 0) x := x3
        generalize u2 (u2 (u2 ν 0 15 0) 106 0 0) 106 1 0 = ω at hC e16 e5 x4 ⊢
        by_cases hm : a2 = -1
        · rw [if_pos (show a2 < 0 by rw [hm]; decide), if_pos hm]
          refine ok_b (q_layS x4) ?_
          rintro ω2 ⟨g1, g2, g3⟩
          have w5 : ω2 106 5 = nI nc := by rw [g3]; exact e5
          have w109 : ω2 109 = ν 109 := by rw [g2.1 109 (by omega) (by omega)]; exact e16
          refine ok_c (fun k => slF I x.1 nc (10 - k) k = slF I x.1 nc 9 1) 1 10 (by omega) (by omega) rfl rfl ?_ ?_
          · intro k hk1 hk hJ
            rw [if_neg (by rw [x_lle (by omega) (by omega)]; omega)]
            rw [show 10 - k = (10 - (k + 1)) + 1 by omega, slF] at hJ
            refine ok_l (fun m q => ∃ c, c + m = nc ∧ q = (bI (stB I x.1 k c = true), nI c)) nc (by omega) ⟨0, by omega, rfl⟩ ?_
            rintro m q ⟨c, hc, rfl⟩
            by_cases hm0 : m = 0
            · subst hm0
              have : c = nc := by omega
              subst this
              simp only [w5]
              rw [if_pos (by rw [x_le (by omega) (by omega)]; omega)]
              refine ok_s (Or.inl ⟨_, rfl, ?_⟩)
              by_cases hq : stB I x.1 k c = true
              · rw [bI_t hq, if_neg (by decide)]
                rw [if_pos hq] at hJ
                exact ok_s (Or.inr ⟨_, rfl, ok_s ⟨_, by rw [hJ], p, d, c, ns, na, nb, c_x hC g2⟩⟩)
              · rw [bI_f hq, if_pos rfl, n1]
                rw [if_neg hq] at hJ
                exact ok_s (Or.inl ⟨rfl, hJ⟩)
            · simp only [w5]
              rw [if_neg (by rw [x_le (by omega) (by omega)]; omega), r_bb (I := I) (fun q hq => by rw [w109]; exact hI2 q (by omega)) (by omega), x_la, al_119 (by omega), g1 _ (by omega)]
              simp only [ob_s, x_d4]
              refine ok_b (R1 := fun v => v = bI (stB I x.1 k (c + 1) = true)) ?_ ?_
              · rw [stB_s]
                by_cases hq : stB I x.1 k c = true
                · rw [bI_t hq, if_neg (by decide)]
                  by_cases hq2 : wbF I c = nI k * x.1 (24 + c) / 4
                  · rw [if_pos hq2, hq]
                    exact ok_s (bI_t (by simp [hq2])).symm
                  · rw [if_neg hq2, hq]
                    exact ok_s (bI_f (by simp [hq2])).symm
                · rw [bI_f hq, if_pos rfl]
                  exact ok_s (bI_f (by simp [hq])).symm
              · rintro v rfl
                rw [n1]
                exact ok_s (Or.inr ⟨_, m - 1, rfl, by omega, c + 1, by omega, rfl⟩)
          · intro hJ
            rw [if_pos (by decide)]
            exact ok_s ⟨_, rfl, ok_s ⟨_, by rw [← hJ]; rfl, p, d, nc, ns, na, nb, c_x hC g2⟩⟩
        · rw [if_neg hm]
          have hm2 : ¬ a2.toInt = -1 := fun hq => hm (by rw [fa_eq, hq]; rfl)
          obtain ⟨c, hcc, rfl⟩ := nI_ex (n := nc) (a := a2) (by omega) hw.2
          rw [if_neg (by rw [x_ltl (by omega) (by omega)]; omega), r_bb (I := I) (fun q hq => by rw [e16]; exact hI2 q (by omega)) (by omega), x_cl (by omega)]
          exact ok_s ⟨_, rfl, p, d, nc, ns, na, nb, hC⟩
    · rintro q ⟨ν', rfl, hν⟩
      exact ok_s ⟨rfl, hν⟩
