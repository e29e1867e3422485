theorem op_status {ν : MT} (h : Inv ν) : OkR Inv (m_X8_status Zc 0 ν) (m_X9_status Zc 106 ν) := by
  obtain ⟨p, d, nc, ns, na, nb, h⟩ := h
  refine ⟨ν 0 15, u2 ν 106 0 0, rfl, ?_, p, d, nc, ns, na, nb, c_s0 h⟩
  simp [m_X9_status, u2_r, h.2.1.1]
theorem op_fault {ν : MT} (h : Inv ν) : OkR Inv (m_X8_fault Zc 0 ν) (m_X9_fault Zc 106 ν) := by
  obtain ⟨p, d, nc, ns, na, nb, h⟩ := h
  refine ⟨ν 0 14, u2 ν 106 0 0, rfl, ?_, p, d, nc, ns, na, nb, c_s0 h⟩
  simp [m_X9_fault, u2_r, h.2.1.2]
theorem op_minutes {ν : MT} (h : Inv ν) : OkR Inv (m_X8_minutes Zc 0 ν) (m_X9_minutes Zc 106 ν) := by
  obtain ⟨p, d, nc, ns, na, nb, h⟩ := h
  refine ⟨ν 19 8, u2 ν 106 0 0, by simp only [m_X8_minutes, zA], ?_, p, d, nc, ns, na, nb, c_s0 h⟩
  obtain ⟨x, h1, h2, h3⟩ := h.2.2.2.2.2.2.2.2.1
  simp only [m_X9_minutes, ob_s, u2_r]
  rcases h3 with ⟨e1, e2, e3, e4⟩ | ⟨e1, e2, e3⟩
  · simp [e2, h1.2.1, e3]
  · simp [e2, h1.2.1, e3, bgA]
theorem op_trace {ν : MT} (h : Inv ν) (a0 : Int32) : OkR Inv (m_X8_trace Zc 0 a0 ν) (m_X9_trace Zc 106 a0 ν) := by
  obtain ⟨p, d, nc, ns, na, nb, h⟩ := h
  obtain ⟨n, hn, e1, e2, e3⟩ := h.2.2.2.2.2.2.2.2.2.2.2.1
  have g3 : (0 : Int64).toInt = 0 := rfl
  have g4 : (nI n - 1).toInt = n - 1 := by rw [ti_sub (by rw [ti_n (by omega), show (1 : Int32).toInt = 1 from rfl]; omega) (by rw [ti_n (by omega), show (1 : Int32).toInt = 1 from rfl]; omega), ti_n (by omega)]; rfl
  by_cases hi : 0 ≤ a0.toInt ∧ a0.toInt < n
  · obtain ⟨i, hi1, rfl⟩ := nI_ex (n := n) hi.1 hi.2
    rw [ti_n (by omega)] at hi
    refine ⟨ν 91 i, u2 ν 106 0 0, ?_, ?_, p, d, nc, ns, na, nb, c_s0 h⟩
    · simp (disch := omega) only [m_X8_trace, m_X0_traced, zA, zD, zE, ob_s, x_lt, x_ltl, x_llt, x_le, x_lel, x_lle, x_eq, x_eql, x_eqm, x_al, x_la, x_a, x_ml, x_lm, x_m, x_cl, if_true, if_false, jn, x_d4, x_d2, bz_b, bz_0, bz_1, and_self, not_true_eq_false, not_false_eq_true, true_and, and_true, e1, show ¬ n ≤ i by omega, show ¬ i < 0 by omega]
    · have g5 : (0 ≤ ((i : Nat) : Int) ∧ (i : Int) ≤ n - 1) := by omega
      simp (disch := omega) only [m_X9_trace, zA, zD, zE, ob_s, x_lt, x_ltl, x_llt, x_le, x_lel, x_lle, x_eq, x_eql, x_eqm, x_al, x_la, x_a, x_ml, x_lm, x_m, x_cl, if_true, if_false, jn, x_d4, x_d2, bz_b, bz_0, bz_1, and_self, not_true_eq_false, not_false_eq_true, true_and, and_true, u2_r, q_in, x_ti, Int32.toInt_toInt64, e3]
      simp (disch := omega) [g3, g4, g5, e2, e3, x_ti, bI_0]
  · refine ⟨-1000000, u2 ν 106 0 0, ?_, ?_, p, d, nc, ns, na, nb, c_s0 h⟩
    · simp only [m_X8_trace, m_X0_traced, zA, e1, fa_lt, fa_le, show (0 : Int32).toInt = 0 from rfl, ti_n (show n < 2 ^ 31 by omega)]
      by_cases h1 : a0.toInt < 0
      · rw [if_pos h1]; rfl
      · rw [if_neg h1, if_pos (by omega)]; rfl
    · have g5 : ¬ (0 ≤ a0.toInt ∧ a0.toInt ≤ n - 1) := by omega
      simp only [m_X9_trace, ob_s, u2_r, q_in, Int32.toInt_toInt64]
      simp [g3, g4, g5, e2, bI_0]
def cntA (f : Nat → Bool) : Nat → Int32
  | 0 => 0
  | n + 1 => cntA f n + (if f n then 1 else 0)
theorem cntA_c {f g : Nat → Bool} : ∀ {n : Nat}, (∀ k, k < n → f k = g k) → cntA f n = cntA g n
  | 0, _ => rfl
  | n + 1, h => by rw [cntA, cntA, cntA_c (fun k hk => h k (by omega)), h n (by omega)]
theorem op_count {ν : MT} (h : Inv ν) (a0 : Int32) : OkR Inv (m_X8_count Zc 127 0 a0 ν) (m_X9_count Zc 106 a0 ν) := by
  obtain ⟨p, d, nc, ns, na, nb, h⟩ := h
  have hpl := h.2.2.2.1
  have hip := h.2.2.2.2.1.1
  have hm := h.2.2.2.2.2.1
  have c1 := h.1.1
  obtain ⟨tn, ht, t1, t2, t3⟩ := h.2.2.1
  by_cases h0 : a0 = 0
  · refine ⟨cntA (fun s => decide (ν 3 s ≠ -1)) 8, u2 ν 106 0 0, ?_, ?_, p, d, nc, ns, na, nb, c_s0 h⟩
    · unfold m_X8_count m_X6_howMany
      simp only [h0, if_true, zA]
      apply ok_eq
      refine ok_b (R1 := fun r => r = cntA (fun s => decide (ν 3 s ≠ -1)) 8) ?_ (fun r hr => by subst hr; exact ok_s rfl)
      refine ok_l (fun m q => ∃ i, i + m = 8 ∧ q = (cntA (fun s => decide (ν 3 s ≠ -1)) i, nI i)) 8 (by omega) ⟨0, by omega, rfl⟩ ?_
      rintro m q ⟨i, hi, rfl⟩
      by_cases h8 : i = 8
      · subst h8
        exact ok_s (Or.inl ⟨_, rfl, ok_s rfl⟩)
      · simp (disch := omega) only [zA, zD, zE, ob_s, x_lt, x_ltl, x_llt, x_le, x_lel, x_lle, x_eq, x_eql, x_eqm, x_al, x_la, x_a, x_ml, x_lm, x_m, x_cl, if_true, if_false, jn, x_d4, x_d2, bz_b, bz_0, bz_1, and_self, not_true_eq_false, not_false_eq_true, true_and, and_true, show ¬ 8 ≤ i by omega]
        by_cases hv : ν 3 i = -1
        · simp only [hv, if_true, ob_s]
          refine ok_s (Or.inr ⟨_, m - 1, rfl, by omega, i + 1, by omega, ?_⟩)
          simp [cntA, hv]
        · simp only [hv, if_false, ob_s]
          refine ok_s (Or.inr ⟨_, m - 1, rfl, by omega, i + 1, by omega, ?_⟩)
          simp [cntA, hv]
    · have hcc : cntA (fun s => decide (ν 3 s ≠ -1)) 8 = cntA (fun s => decide (¬ ν 107 s < 0)) 8 := cntA_c (fun s hs => by
        rcases c1 s hs with ⟨e1, e2⟩ | ⟨n, l, hn, hl, e1, e2, e3, e4⟩
        · rw [e1, e2]; decide
        · rw [e1, e4]
          have g1 : ¬ nI l < 0 := nI_nlt (a := l) (b := 0) (by omega) (by omega)
          have g2 : ¬ nI n = -1 := by rw [x_eqm (by omega)]; exact id
          simp [g1, g2])
      rw [hcc]
      unfold m_X9_count
      simp only [h0, if_true, zA, ob_s]
      apply ok_eq
      refine ok_l (fun m q => ∃ i, i + m = 8 ∧ q = (cntA (fun s => decide (¬ ν 107 s < 0)) i, nI i)) 8 (by omega) ⟨0, by omega, rfl⟩ ?_
      rintro m q ⟨i, hi, rfl⟩
      by_cases h8 : i = 8
      · subst h8
        exact ok_s (Or.inl ⟨_, rfl, ok_s rfl⟩)
      · simp (disch := omega) only [zA, zD, zE, ob_s, x_lt, x_ltl, x_llt, x_le, x_lel, x_lle, x_eq, x_eql, x_eqm, x_al, x_la, x_a, x_ml, x_lm, x_m, x_cl, if_true, if_false, jn, x_d4, x_d2, bz_b, bz_0, bz_1, and_self, not_true_eq_false, not_false_eq_true, true_and, and_true, show ¬ 8 ≤ i by omega, u2_w, Nat.reduceEqDiff]
        by_cases hv : ν 107 i < 0
        · simp only [hv, if_true, ob_s]
          refine ok_s (Or.inr ⟨_, m - 1, rfl, by omega, i + 1, by omega, ?_⟩)
          simp [cntA, hv]
        · simp only [hv, if_false, ob_s]
          refine ok_s (Or.inr ⟨_, m - 1, rfl, by omega, i + 1, by omega, ?_⟩)
          simp [cntA, hv]
  · by_cases h1 : a0 = 1
    · subst h1
      exact ⟨nI nc, u2 ν 106 0 0, by simp only [m_X8_count, h0, if_false, if_true, hpl.2.2.2.1, mrd_p hpl.1, ob_s, hip], by simp [m_X9_count, u2_r, hm], p, d, nc, ns, na, nb, c_s0 h⟩
    by_cases h2 : a0 = 2
    · subst h2
      exact ⟨nI ns, u2 ν 106 0 0, by simp only [m_X8_count, h0, h1, if_false, if_true, hpl.2.2.2.1, mrd_p hpl.1, ob_s, hip], by simp [m_X9_count, u2_r, hm], p, d, nc, ns, na, nb, c_s0 h⟩
    by_cases h3 : a0 = 3
    · subst h3
      exact ⟨nI na, u2 ν 106 0 0, by simp only [m_X8_count, h0, h1, h2, if_false, if_true, hpl.2.2.2.1, mrd_p hpl.1, ob_s, hip], by simp [m_X9_count, u2_r, hm], p, d, nc, ns, na, nb, c_s0 h⟩
    by_cases h4 : a0 = 4
    · subst h4
      exact ⟨nI nb, u2 ν 106 0 0, by simp only [m_X8_count, h0, h1, h2, h3, if_false, if_true, hpl.2.2.2.1, mrd_p hpl.1, ob_s, hip], by simp [m_X9_count, u2_r, hm], p, d, nc, ns, na, nb, c_s0 h⟩
    by_cases h5 : a0 = 5
    · subst h5
      exact ⟨nI tn, u2 ν 106 0 0, by simp only [m_X8_count, h0, h1, h2, h3, h4, if_false, if_true, zA, t1], by simp [m_X9_count, u2_r, t2], p, d, nc, ns, na, nb, c_s0 h⟩
    exact ⟨-1000001, u2 ν 106 0 0, by simp only [m_X8_count, h0, h1, h2, h3, h4, h5, if_false], by simp [m_X9_count, h0, h1, h2, h3, h4, h5], p, d, nc, ns, na, nb, c_s0 h⟩
