theorem op_set {ν : MT} (h : Inv ν) (a0 a1 a2 : Int32) : OkI Inv (m_X8_set Zc 0 a0 a1 a2 ν) (fun μ => m_X9_set Zc 106 a0 a1 a2 μ) := by
  obtain ⟨p, d, nc, ns, na, nb, h⟩ := h
  by_cases hs : 0 ≤ a0.toInt ∧ a0.toInt < 8
  · obtain ⟨s, hs1, rfl⟩ := nI_ex (n := 8) hs.1 hs.2
    have c1 := h.1.1 s hs1
    rcases c1 with ⟨e1, e2⟩ | ⟨n, l, hn, hl, e1, e2, e3, e4⟩
    · refine ⟨-1000010 - 1, u2 ν 0 15 1, _, ?_, ?_, p, d, nc, ns, na, nb, c_s1 h 1⟩
      · simp (disch := omega) only [m_X8_set, zA, zD, zE, ob_s, x_lt, x_ltl, x_llt, x_le, x_lel, x_lle, x_eq, x_eql, x_eqm, x_al, x_la, x_a, x_ml, x_lm, x_m, x_cl, if_true, if_false, jn, x_d4, x_d2, bz_b, bz_0, bz_1, and_self, not_true_eq_false, not_false_eq_true, true_and, and_true, q_hasNs, one0, q_find1, e1, m_X8_found]
      · simp (disch := omega) only [m_X9_set, zA, zD, zE, ob_s, x_lt, x_ltl, x_llt, x_le, x_lel, x_lle, x_eq, x_eql, x_eqm, x_al, x_la, x_a, x_ml, x_lm, x_m, x_cl, if_true, if_false, jn, x_d4, x_d2, bz_b, bz_0, bz_1, and_self, not_true_eq_false, not_false_eq_true, true_and, and_true, q_isShs, one0, m_X9_finding, u2_r, e2]
        simp [e2]
    · by_cases hi : 0 ≤ a1.toInt ∧ a1.toInt < n
      · obtain ⟨i, hi1, rfl⟩ := nI_ex (n := n) hi.1 hi.2
        rw [ti_n (by omega)] at hi
        have hwx : ∃ w : Int32, w = if l = 0 then a2.toInt8.toInt32 else if l = 1 then a2.toInt16.toInt32 else a2 := ⟨_, rfl⟩
        obtain ⟨w, hwe⟩ := hwx
        refine ⟨w, u2 (u2 ν (5 + s) i w) 0 15 0, u2 (u2 (u2 (u2 (u2 ν (5 + s) i w) 0 15 0) 106 0 0) 106 1 0) 109 (40 * s + i) w, ?_, ?_, p, d, nc, ns, na, nb, ?_⟩
        · have hc : (0 ≤ (nI i).toInt ∧ 0 ≤ (1 : Int32).toInt ∧ (nI i).toInt + (1 : Int32).toInt ≤ n) := by rw [ti_n (by omega), show (1 : Int32).toInt = 1 from rfl]; omega
          have hw : m_X6_narrowed Zc (nI l) a2 ν = some w := by
            unfold m_X6_narrowed
            simp (disch := omega) only [x_eql]
            rcases (by omega : l = 0 ∨ l = 1 ∨ l = 2) with rfl | rfl | rfl <;> (rw [hwe]; rfl)
          simp (disch := omega) only [m_X8_set, zA, zD, zE, ob_s, x_lt, x_ltl, x_llt, x_le, x_lel, x_lle, x_eq, x_eql, x_eqm, x_al, x_la, x_a, x_ml, x_lm, x_m, x_cl, if_true, if_false, jn, x_d4, x_d2, bz_b, bz_0, bz_1, and_self, not_true_eq_false, not_false_eq_true, true_and, and_true, q_hasNs, one0, q_find hs1 e1 hn, hc, m_X6_put, ard_4, al_5, as_5, e3, hw, m_X8_fine, u2_r]
        · have g1 : ¬ 107 = 5 + s := by omega
          have g2 : ¬ 108 = 5 + s := by omega
          simp (disch := omega) only [m_X9_set, zA, zD, zE, ob_s, x_lt, x_ltl, x_llt, x_le, x_lel, x_lle, x_eq, x_eql, x_eqm, x_al, x_la, x_a, x_ml, x_lm, x_m, x_cl, if_true, if_false, jn, x_d4, x_d2, bz_b, bz_0, bz_1, and_self, not_true_eq_false, not_false_eq_true, true_and, and_true, q_isShs, one0, m_X9_finding, u2_r, e2, e4, Nat.reduceEqDiff, false_and, g1, g2, q_in0s]
          rcases (by omega : l = 0 ∨ l = 1 ∨ l = 2) with rfl | rfl | rfl <;> simp [hwe]
        · have c1 := h.1
          refine c_sheet h ⟨fun t ht => ?_, fun t j ht hj => ?_⟩ ?_ ?_ ?_ ?_
          · have := c1.1 t ht
            simp only [u2_r]
            simpa [show ¬ 107 = 5 + s by omega, show ¬ 108 = 5 + s by omega, show ¬ 2 = 5 + s by omega, show ¬ 3 = 5 + s by omega] using this
          · have := c1.2 t j ht hj
            simp only [u2_r]
            grind
          · simp only [u2_r]; simp
          · intro j hj; simp only [u2_r]; grind
          · intro j hj hj2; simp only [u2_r]; grind
          · intro k h1 h2 h3 h4; simp only [u2_w]; grind
      · refine ⟨-1000010 - 2, u2 ν 0 15 2, _, ?_, ?_, p, d, nc, ns, na, nb, c_s1 h 2⟩
        · have hc : ¬ (0 ≤ a1.toInt ∧ 0 ≤ (1 : Int32).toInt ∧ a1.toInt + (1 : Int32).toInt ≤ n) := by rw [show (1 : Int32).toInt = 1 from rfl]; omega
          simp (disch := omega) only [m_X8_set, zA, zD, zE, ob_s, x_lt, x_ltl, x_llt, x_le, x_lel, x_lle, x_eq, x_eql, x_eqm, x_al, x_la, x_a, x_ml, x_lm, x_m, x_cl, if_true, if_false, jn, x_d4, x_d2, bz_b, bz_0, bz_1, and_self, not_true_eq_false, not_false_eq_true, true_and, and_true, q_hasNs, one0, q_find hs1 e1 hn, hc, m_X8_found]
          simp
        · simp (disch := omega) only [m_X9_set, zA, zD, zE, ob_s, x_lt, x_ltl, x_llt, x_le, x_lel, x_lle, x_eq, x_eql, x_eqm, x_al, x_la, x_a, x_ml, x_lm, x_m, x_cl, if_true, if_false, jn, x_d4, x_d2, bz_b, bz_0, bz_1, and_self, not_true_eq_false, not_false_eq_true, true_and, and_true, q_isShs, one0, m_X9_finding, u2_r, e2, e4, Nat.reduceEqDiff, false_and, q_in0, bI_0, hi]
          simp
  · refine ⟨-1000001, ν, u2 ν 106 0 0, ?_, ?_, p, d, nc, ns, na, nb, c_s0 h⟩
    · simp (disch := omega) only [m_X8_set, zA, zD, zE, ob_s, x_lt, x_ltl, x_llt, x_le, x_lel, x_lle, x_eq, x_eql, x_eqm, x_al, x_la, x_a, x_ml, x_lm, x_m, x_cl, if_true, if_false, jn, x_d4, x_d2, bz_b, bz_0, bz_1, and_self, not_true_eq_false, not_false_eq_true, true_and, and_true, q_hasN, bI_0, hs]
    · simp (disch := omega) only [m_X9_set, zA, zD, zE, ob_s, x_lt, x_ltl, x_llt, x_le, x_lel, x_lle, x_eq, x_eql, x_eqm, x_al, x_la, x_a, x_ml, x_lm, x_m, x_cl, if_true, if_false, jn, x_d4, x_d2, bz_b, bz_0, bz_1, and_self, not_true_eq_false, not_false_eq_true, true_and, and_true, q_isSh, bI_0, hs]
