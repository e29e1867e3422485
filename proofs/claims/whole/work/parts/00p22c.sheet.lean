theorem op_sheet {ν : MT} (h : Inv ν) (a0 a1 a2 : Int32) : OkI Inv (m_X8_sheet Zc 0 a0 a1 a2 ν) (fun μ => m_X9_sheet Zc 106 a0 a1 a2 μ) := by
  obtain ⟨p, d, nc, ns, na, nb, h⟩ := h
  by_cases hs : (0 ≤ a0.toInt ∧ a0.toInt < 8) ∧ (0 ≤ a1.toInt ∧ a1.toInt < 3) ∧ a2.toInt ≤ 40
  · obtain ⟨hs, hl, hn⟩ := hs
    obtain ⟨s, hs1, rfl⟩ := nI_ex (n := 8) hs.1 hs.2
    obtain ⟨l, hl1, rfl⟩ := nI_ex (n := 3) hl.1 hl.2
    have g40 : a2 ≤ 40 := by rw [fa_le]; exact hn
    have gin : ∀ μ : MT, m_X9_in Zc (nI l).toInt64 0 2 μ = some 1 := fun μ => by
      rw [q_in, Int32.toInt_toInt64, ti_n (by omega), bI_t]
      rw [show (0 : Int64).toInt = 0 from rfl, show (2 : Int64).toInt = 2 from rfl]; omega
    by_cases hz : 0 ≤ a2.toInt
    · obtain ⟨n, hn1, rfl⟩ := nI_ex (n := 41) hz (by omega)
      refine ⟨nI n, u2 (u1 (u2 (u2 ν 2 s (nI l)) 3 s (nI n)) (5 + s) (fun j => if j < 40 then 0 else ν (5 + s) j)) 0 15 0, u1 (u2 (u2 (u2 (u2 (u2 (u1 (u2 (u2 ν 2 s (nI l)) 3 s (nI n)) (5 + s) (fun j => if j < 40 then 0 else ν (5 + s) j)) 0 15 0) 106 0 0) 106 1 0) 107 s (nI l)) 108 s (nI n)) 109 (fun q => if 40 * s ≤ q ∧ q < 40 * s + 40 then 0 else ν 109 q), ?_, ?_, p, d, nc, ns, na, nb, ?_⟩
      · simp (disch := omega) only [m_X8_sheet, zA, zD, zE, ob_s, x_lt, x_ltl, x_llt, x_le, x_lel, x_lle, x_eq, x_eql, x_eqm, x_al, x_la, x_a, x_ml, x_lm, x_m, x_cl, if_true, if_false, jn, x_d4, x_d2, bz_b, bz_0, bz_1, and_self, not_true_eq_false, not_false_eq_true, true_and, and_true, q_hasNs, one0, Nat.not_lt_zero, show ¬ 3 ≤ l by omega, g40, Nat.zero_le, m_X6_lay, ard_4, q_fill (zl_5s hs1), m_X8_fine, u2_w, show ¬ 5 + s = 3 by omega, show ¬ 5 + s = 2 by omega]
      · simp (disch := omega) only [m_X9_sheet, zA, zD, zE, ob_s, x_lt, x_ltl, x_llt, x_le, x_lel, x_lle, x_eq, x_eql, x_eqm, x_al, x_la, x_a, x_ml, x_lm, x_m, x_cl, if_true, if_false, jn, x_d4, x_d2, bz_b, bz_0, bz_1, and_self, not_true_eq_false, not_false_eq_true, true_and, and_true, q_isShs, one0, gin, g40, Nat.zero_le]
        apply ok_eq
        refine ok_for (fun i μ => μ = u1 (u2 (u2 (u2 (u2 (u2 (u1 (u2 (u2 ν 2 s (nI l)) 3 s (nI n)) (5 + s) (fun j => if j < 40 then 0 else ν (5 + s) j)) 0 15 0) 106 0 0) 106 1 0) 107 s (nI l)) 108 s (nI n)) 109 (fun q => if 40 * s ≤ q ∧ q < 40 * s + i then 0 else ν 109 q)) 0 40 (by omega) (by omega) rfl ?_ ?_ ?_
        · funext k j
          simp only [u1_w]
          by_cases hk : k = 109
          · subst hk
            simp only [u2_w, u1_w, if_true, show ¬ 109 = 5 + s by omega, show ¬ (40 * s ≤ j ∧ j < 40 * s + 0) by omega]
            simp
          · simp [hk]
        · rintro i μ _ hi rfl
          simp (disch := omega) only [zA, zD, zE, ob_s, x_lt, x_ltl, x_llt, x_le, x_lel, x_lle, x_eq, x_eql, x_eqm, x_al, x_la, x_a, x_ml, x_lm, x_m, x_cl, if_true, if_false, jn, x_d4, x_d2, bz_b, bz_0, bz_1, and_self, not_true_eq_false, not_false_eq_true, true_and, and_true, show ¬ 40 ≤ i by omega]
          refine ok_s (Or.inl ⟨_, rfl, ?_⟩)
          funext k j
          simp only [u2_w, u1_w]
          by_cases hk : k = 109
          · subst hk
            simp only [if_true, upd]
            grind
          · simp [hk]
        · rintro μ rfl
          simp (disch := omega) only [zA, zD, zE, ob_s, x_lt, x_ltl, x_llt, x_le, x_lel, x_lle, x_eq, x_eql, x_eqm, x_al, x_la, x_a, x_ml, x_lm, x_m, x_cl, if_true, if_false, jn, x_d4, x_d2, bz_b, bz_0, bz_1, and_self, not_true_eq_false, not_false_eq_true, true_and, and_true, Nat.le_refl]
          exact ok_s ⟨_, rfl, ok_s rfl⟩
      · have c1 := h.1
        refine c_sheet h ⟨fun t ht => ?_, fun t j ht hj => ?_⟩ ?_ ?_ ?_ ?_
        · have := c1.1 t ht
          simp only [u2_r, u1_r]
          by_cases hts : t = s
          · subst hts; right
            exact ⟨n, l, by omega, hl1, by simp [show ¬ 3 = 5 + t by omega], by simp, by simp [show ¬ 2 = 5 + t by omega], by simp⟩
          · simpa [hts, show ¬ 107 = 5 + s by omega, show ¬ 108 = 5 + s by omega, show ¬ 2 = 5 + s by omega, show ¬ 3 = 5 + s by omega] using this
        · have := c1.2 t j ht hj
          simp only [u2_r, u1_r]
          grind
        · simp only [u2_r, u1_r]; simp
        · intro j hj; simp only [u2_r, u1_r]; grind
        · intro j hj hj2; simp only [u2_r, u1_r]; grind
        · intro k h1 h2 h3 h4; simp only [u2_w, u1_w]; grind
    · have g0 : ¬ 0 ≤ a2 := by rw [fa_le]; exact hz
      refine ⟨-1000010 - 4, u2 ν 0 15 4, _, ?_, ?_, p, d, nc, ns, na, nb, c_s1 h 4⟩
      · simp (disch := omega) only [m_X8_sheet, zA, zD, zE, ob_s, x_lt, x_ltl, x_llt, x_le, x_lel, x_lle, x_eq, x_eql, x_eqm, x_al, x_la, x_a, x_ml, x_lm, x_m, x_cl, if_true, if_false, jn, x_d4, x_d2, bz_b, bz_0, bz_1, and_self, not_true_eq_false, not_false_eq_true, true_and, and_true, q_hasNs, one0, Nat.not_lt_zero, show ¬ 3 ≤ l by omega, g40, g0, m_X8_found]
      · simp (disch := omega) only [m_X9_sheet, zA, zD, zE, ob_s, x_lt, x_ltl, x_llt, x_le, x_lel, x_lle, x_eq, x_eql, x_eqm, x_al, x_la, x_a, x_ml, x_lm, x_m, x_cl, if_true, if_false, jn, x_d4, x_d2, bz_b, bz_0, bz_1, and_self, not_true_eq_false, not_false_eq_true, true_and, and_true, q_isShs, one0, gin, g40, g0, m_X9_finding]
  · refine ⟨-1000001, ν, u2 ν 106 0 0, ?_, ?_, p, d, nc, ns, na, nb, c_s0 h⟩
    · simp only [m_X8_sheet, q_hasN, ob_s, bI_0, fa_lt, fa_le, show (0 : Int32).toInt = 0 from rfl, show (3 : Int32).toInt = 3 from rfl, show (40 : Int32).toInt = 40 from rfl]
      by_cases h1 : 0 ≤ a0.toInt ∧ a0.toInt < 8
      · rw [if_neg (by simp only [h1]; simp)]
        by_cases h2 : a1.toInt < 0
        · rw [if_pos h2]
        · rw [if_neg h2]
          by_cases h3 : 3 ≤ a1.toInt
          · rw [if_pos h3]
          · rw [if_neg h3, if_neg (by omega)]
      · rw [if_pos h1]
    · simp only [m_X9_sheet, q_isSh, ob_s, bI_0, fa_lt, fa_le, q_in, Int32.toInt_toInt64, show (0 : Int32).toInt = 0 from rfl, show (40 : Int32).toInt = 40 from rfl, show (0 : Int64).toInt = 0 from rfl, show (2 : Int64).toInt = 2 from rfl]
      by_cases h1 : 0 ≤ a0.toInt ∧ a0.toInt < 8
      · rw [if_neg (by simp only [h1]; simp)]
        by_cases h2 : 0 ≤ a1.toInt ∧ a1.toInt ≤ 2
        · rw [if_neg (by simp only [h2]; simp), if_neg (by omega)]
        · rw [if_pos h2]
      · rw [if_pos h1]
