/-! ===== what a call leaves of the rest ===== -/
theorem c_mk {μ ν : MT} {p d nc ns na nb : Nat} (h : Core μ p d nc ns na nb)
    (k1 : (ν 2 = μ 2 ∧ ν 3 = μ 3 ∧ (∀ s, s < 8 → ν (5 + s) = μ (5 + s)) ∧ ν 107 = μ 107 ∧ ν 108 = μ 108 ∧ ν 109 = μ 109) ∨ ISh (ν 2) (ν 3) (fun s => ν (5 + s)) (ν 107) (ν 108) (ν 109))
    (k2 : ν 0 15 = ν 106 1) (k2b : (ν 0 14 = μ 0 14 ∧ ν 106 21 = μ 106 21) ∨ ν 0 14 = ν 106 21)
    (k3 : (ν 13 1 = μ 13 1 ∧ ν 14 = μ 14 ∧ ν 106 20 = μ 106 20 ∧ ν 116 = μ 116) ∨ ITp (ν 13 1) (ν 14) (ν 106 20) (ν 116))
    (k4 : ν 0 11 = μ 0 11 ∧ ν 0 12 = μ 0 12) (k5 : ∀ i, i < 7 → ν (p + i) = μ (p + i)) (k5b : ν 110 = μ 110 ∧ ν 111 = μ 111 ∧ ν 112 = μ 112)
    (k6 : ν 106 5 = μ 106 5 ∧ ν 106 6 = μ 106 6 ∧ ν 106 7 = μ 106 7 ∧ ν 106 8 = μ 106 8)
    (k7 : (ν 16 = μ 16 ∧ ν 117 = μ 117) ∨ ∀ c, c < 12 → ν 16 c = ν 117 c ∧ -40 ≤ (ν 117 c).toInt ∧ (ν 117 c).toInt ≤ 40)
    (k8 : (ν 17 = μ 17 ∧ ν 118 = μ 118) ∨ ∀ k, k < ns → ∃ s, s < ns ∧ ν 17 k = nI s ∧ ν 118 k = nI s)
    (k9 : (ν 0 13 = μ 0 13 ∧ ν 106 31 = μ 106 31 ∧ ν 106 37 = μ 106 37 ∧ ν 122 = μ 122 ∧ ν 117 = μ 117 ∧ ν 19 = μ 19 ∧ ν 20 = μ 20 ∧ ν 21 = μ 21 ∧ ν 22 = μ 22 ∧ ν 23 = μ 23 ∧ ν 24 = μ 24 ∧ ν 25 = μ 25) ∨ ILa nc (ν 0 13) (ν 106 31) (ν 106 37) (ν 122) (ν 117) (ν 19) (ν 20) (ν 21) (ν 22) (ν 23) (ν 24) (ν 25))
    (k10 : (ν 117 = μ 117 ∧ ν 33 4 = μ 33 4 ∧ ν 33 5 = μ 33 5 ∧ ν 33 6 = μ 33 6 ∧ ν 36 = μ 36) ∨ ISe nc ns na nb (ν 110) (ν 111) (ν 112) (ν 117) (ν 33 4) (ν 33 5) (ν 33 6) (ν 36))
    (k11 : (ν 87 2 = μ 87 2 ∧ ν 88 = μ 88) ∨ IBe nc ns na (ν 110) (ν 87 2) (ν 88))
    (k12 : (ν 90 1 = μ 90 1 ∧ ν 91 = μ 91 ∧ ν 106 42 = μ 106 42 ∧ ν 126 = μ 126) ∨ IAs (ν 90 1) (ν 91) (ν 106 42) (ν 126))
    (k13 : ν 1000 = μ 1000 ∧ ν 1001 = μ 1001 ∧ ν 1002 = μ 1002 ∧ ν 1003 = μ 1003) : Core ν p d nc ns na nb := by
  obtain ⟨c1, c2, c3, c4, c5, c6, c7, c8, c9, c10, c11, c12, c13⟩ := h
  refine ⟨?_, ⟨k2, ?_⟩, ?_, ?_, ?_, ?_, ?_, ?_, ?_, ?_, ?_, ?_, ?_⟩
  · rcases k1 with ⟨e1, e2, e3, e4, e5, e6⟩ | k1
    · rw [e1, e2, e4, e5, e6]
      refine ⟨c1.1, fun s j hs hj => ?_⟩
      simp only [e3 s hs]
      exact c1.2 s j hs hj
    · exact k1
  · rcases k2b with ⟨e1, e2⟩ | k
    · rw [e1, e2]; exact c2.2
    · exact k
  · rcases k3 with ⟨e1, e2, e3, e4⟩ | k
    · rw [e1, e2, e3, e4]; exact c3
    · exact k
  · rw [k4.1, k4.2]; exact c4
  · have e0 := k5 0 (by omega)
    rw [Nat.add_zero] at e0
    rw [e0, k5 1 (by omega), k5 2 (by omega), k5 3 (by omega), k5 4 (by omega), k5 5 (by omega), k5 6 (by omega), k5b.1, k5b.2.1, k5b.2.2]
    exact c5
  · rw [k6.1, k6.2.1, k6.2.2.1, k6.2.2.2]; exact c6
  · rcases k7 with ⟨e1, e2⟩ | k
    · rw [e1, e2]; exact c7
    · exact k
  · rcases k8 with ⟨e1, e2⟩ | k
    · rw [e1, e2]; exact c8
    · exact k
  · rcases k9 with ⟨e1, e2, e3, e4, e5, e6, e7, e8, e9, e10, e11, e12⟩ | k
    · rw [e1, e2, e3, e4, e5, e6, e7, e8, e9, e10, e11, e12]; exact c9
    · exact k
  · rcases k10 with ⟨e1, e2, e3, e4, e5⟩ | k
    · rw [k5b.1, k5b.2.1, k5b.2.2, e1, e2, e3, e4, e5]; exact c10
    · exact k
  · rcases k11 with ⟨e1, e2⟩ | k
    · rw [k5b.1, e1, e2]; exact c11
    · exact k
  · rcases k12 with ⟨e1, e2, e3, e4⟩ | k
    · rw [e1, e2, e3, e4]; exact c12
    · exact k
  · rw [k13.1, k13.2.1, k13.2.2.1, k13.2.2.2]; exact c13
/-- nothing but unimportant rows, and the status -/
theorem c_st {μ ν : MT} {p d nc ns na nb : Nat} (h : Core μ p d nc ns na nb) (k2 : ν 0 15 = ν 106 1) (k0 : ∀ j, 11 ≤ j → j < 15 → ν 0 j = μ 0 j)
    (k6 : ∀ j, (5 ≤ j ∧ j < 9) ∨ j = 20 ∨ j = 21 ∨ j = 31 ∨ j = 37 ∨ j = 42 → ν 106 j = μ 106 j) (kp : ∀ i, i < 7 → ν (p + i) = μ (p + i))
    (kr : ∀ k, k ≠ 0 → k < 26 ∧ k ≠ 18 ∧ k ≠ 15 ∨ k = 33 ∨ k = 36 ∨ k = 87 ∨ k = 88 ∨ k = 90 ∨ k = 91 ∨ (107 ≤ k ∧ k < 113) ∨ (116 ≤ k ∧ k < 119) ∨ k = 122 ∨ k = 126 ∨ (1000 ≤ k ∧ k < 1004) → ν k = μ k) : Core ν p d nc ns na nb := by
  have e33 := kr 33 (by omega) (by omega)
  have e87 := kr 87 (by omega) (by omega)
  have e90 := kr 90 (by omega) (by omega)
  have e13 := kr 13 (by omega) (by omega)
  refine c_mk h (Or.inl ⟨?_, ?_, ?_, ?_, ?_, ?_⟩) k2 (Or.inl ⟨k0 14 (by omega) (by omega), k6 21 (by omega)⟩) (Or.inl ⟨?_, ?_, k6 20 (by omega), ?_⟩) ⟨k0 11 (by omega) (by omega), k0 12 (by omega) (by omega)⟩ kp ⟨?_, ?_, ?_⟩ ⟨k6 5 (by omega), k6 6 (by omega), k6 7 (by omega), k6 8 (by omega)⟩ (Or.inl ⟨?_, ?_⟩) (Or.inl ⟨?_, ?_⟩) (Or.inl ⟨k0 13 (by omega) (by omega), k6 31 (by omega), k6 37 (by omega), ?_, ?_, ?_, ?_, ?_, ?_, ?_, ?_, ?_⟩) (Or.inl ⟨?_, ?_, ?_, ?_, ?_⟩) (Or.inl ⟨?_, ?_⟩) (Or.inl ⟨?_, ?_, k6 42 (by omega), ?_⟩) ⟨?_, ?_, ?_, ?_⟩
  all_goals first
    | rw [e33]
    | rw [e87]
    | rw [e90]
    | rw [e13]
    | exact kr _ (by omega) (by omega)
    | exact fun s hs => kr _ (by omega) (by omega)
/-! ===== sheets ===== -/
theorem q_hasN (k : Nat) (a : Int32) (μ : MT) : m_X6_hasNumber Zc k a μ = some (bI (0 ≤ a.toInt ∧ a.toInt < 8)) := by
  unfold m_X6_hasNumber bI
  simp only [fa_lt, fa_le]
  rw [show (8 : Int32).toInt = 8 from rfl, show (0 : Int32).toInt = 0 from rfl]
  by_cases h1 : a.toInt < 0
  · rw [if_pos h1, if_neg (by omega)]
  · by_cases h2 : 8 ≤ a.toInt
    · rw [if_neg h1, if_pos h2, if_neg (by omega)]
    · rw [if_neg h1, if_neg h2, if_pos (by omega)]
theorem q_isSh (a : Int32) (μ : MT) : m_X9_isSheet Zc a μ = some (bI (0 ≤ a.toInt ∧ a.toInt < 8)) := by
  unfold m_X9_isSheet
  rw [q_in, ob_s, bz_b, ob_s, Int32.toInt_toInt64, show (0 : Int64).toInt = 0 from rfl, show (7 : Int64).toInt = 7 from rfl]
  unfold bI
  congr 1
  by_cases h : 0 ≤ a.toInt ∧ a.toInt < 8
  · rw [if_pos h, if_pos (by omega)]
  · rw [if_neg h, if_neg (by omega)]
theorem q_mis {μ : MT} {s : Nat} (hs : s < 8) : m_X6_isMissing Zc 1 (nI s) μ = some (bI (μ 3 s = -1)) := by
  unfold m_X6_isMissing bI
  simp (disch := omega) only [zA, zD, zE, ob_s, x_lt, x_ltl, x_llt, x_le, x_lel, x_lle, x_eq, x_eql, x_eqm, x_al, x_la, x_a, x_ml, x_lm, x_m, x_cl, if_true, if_false, jn, x_d4, x_d2, bz_b, bz_0, bz_1, and_self, not_true_eq_false, not_false_eq_true, true_and, and_true, Nat.not_lt_zero, show ¬ 8 ≤ s by omega]
  by_cases h : μ 3 s = -1
  · simp only [h, if_true, ob_s, jn]
  · simp only [h, if_false, ob_s, jn]
theorem u2_w {μ : MT} {k j k1 : Nat} {v : Int32} : u2 μ k j v k1 = if k1 = k then upd (μ k) j v else μ k1 := rfl
theorem u1_w {μ : MT} {k k1 : Nat} {f : Nat → Int32} : u1 μ k f k1 = if k1 = k then f else μ k1 := rfl
/-- only the status changes, and the reference's mark of throws -/
theorem c_s1 {μ : MT} {p d nc ns na nb : Nat} (h : Core μ p d nc ns na nb) (v : Int32) : Core (u2 (u2 (u2 (u2 μ 0 15 v) 106 0 0) 106 1 0) 106 1 v) p d nc ns na nb := by
  have hp := isPl_le h.2.2.2.1.1
  have hq := h.2.2.2.1.1
  unfold isPl at hq
  refine c_st h ?_ ?_ ?_ ?_ ?_
  · simp only [u2_r]
    simp
  · intro j h1 h2
    simp only [u2_r]
    grind
  · intro j h1
    simp only [u2_r]
    grind
  · intro i hi
    simp only [u2_w]
    grind
  · intro k h0 h1
    simp only [u2_w]
    grind
theorem c_s0 {μ : MT} {p d nc ns na nb : Nat} (h : Core μ p d nc ns na nb) : Core (u2 μ 106 0 0) p d nc ns na nb := by
  have hp := isPl_le h.2.2.2.1.1
  have hq := h.2.2.2.1.1
  unfold isPl at hq
  refine c_st h ?_ ?_ ?_ ?_ ?_
  · have := h.2.1.1
    simp only [u2_r]
    simp [this]
  · intro j h1 h2
    simp only [u2_r]
    grind
  · intro j h1
    simp only [u2_r]
    grind
  · intro i hi
    simp only [u2_w]
    grind
  · intro k h0 h1
    simp only [u2_w]
    grind
theorem c_sheet {μ ν : MT} {p d nc ns na nb : Nat} (h : Core μ p d nc ns na nb) (hs : ISh (ν 2) (ν 3) (fun s => ν (5 + s)) (ν 107) (ν 108) (ν 109)) (k2 : ν 0 15 = ν 106 1)
    (k0 : ∀ j, j ≠ 15 → ν 0 j = μ 0 j) (k6 : ∀ j, j ≠ 0 → j ≠ 1 → ν 106 j = μ 106 j)
    (kr : ∀ k, k ≠ 0 → k ≠ 106 → (k < 2 ∨ 13 ≤ k) → (k < 107 ∨ 109 < k) → ν k = μ k) : Core ν p d nc ns na nb := by
  have hp := isPl_le h.2.2.2.1.1
  have hq := h.2.2.2.1.1
  unfold isPl at hq
  refine c_mk h (Or.inr hs) k2 (Or.inl ?_) (Or.inl ?_) ?_ ?_ ?_ ?_ (Or.inl ?_) (Or.inl ?_) (Or.inl ?_) (Or.inl ?_) (Or.inl ?_) (Or.inl ?_) ?_
  case refine_4 => exact fun i hi => kr _ (by omega) (by omega) (by omega) (by omega)
  all_goals (and_intros <;> first | exact k0 _ (by omega) | exact k6 _ (by omega) (by omega) | exact kr _ (by omega) (by omega) (by omega) (by omega) | exact congrFun (kr _ (by omega) (by omega) (by omega) (by omega)) _)
theorem op_drop {ν : MT} (h : Inv ν) (a0 : Int32) : OkI Inv (m_X8_drop Zc 0 a0 ν) (fun μ => m_X9_drop Zc 106 a0 μ) := by
  obtain ⟨p, d, nc, ns, na, nb, h⟩ := h
  by_cases hs : 0 ≤ a0.toInt ∧ a0.toInt < 8
  · have hs' := hs
    obtain ⟨s, hs1, rfl⟩ := nI_ex (n := 8) hs.1 hs.2
    have c1 := h.1.1 s hs1
    rcases c1 with ⟨e1, e2⟩ | ⟨n, l, hn, hl, e1, e2, e3, e4⟩
    · refine ⟨-1000010 - 1, u2 ν 0 15 1, _, ?_, ?_, p, d, nc, ns, na, nb, c_s1 h 1⟩
      · simp (disch := omega) only [m_X8_drop, zA, zD, zE, ob_s, x_lt, x_ltl, x_llt, x_le, x_lel, x_lle, x_eq, x_eql, x_eqm, x_al, x_la, x_a, x_ml, x_lm, x_m, x_cl, if_true, if_false, jn, x_d4, x_d2, bz_b, bz_0, bz_1, and_self, not_true_eq_false, not_false_eq_true, true_and, and_true, q_hasN, bI_0, hs', q_mis, e1, m_X8_found]
      · simp (disch := omega) only [m_X9_drop, zA, zD, zE, ob_s, x_lt, x_ltl, x_llt, x_le, x_lel, x_lle, x_eq, x_eql, x_eqm, x_al, x_la, x_a, x_ml, x_lm, x_m, x_cl, if_true, if_false, jn, x_d4, x_d2, bz_b, bz_0, bz_1, and_self, not_true_eq_false, not_false_eq_true, true_and, and_true, q_isSh, bI_0, hs', m_X9_finding, u2_r, e2]
        simp [e2]
    · refine ⟨nI n, u2 (u2 ν 3 s (-1)) 0 15 0, u2 (u2 (u2 (u2 (u2 ν 3 s (-1)) 0 15 0) 106 0 0) 106 1 0) 107 s (-1), ?_, ?_, p, d, nc, ns, na, nb, ?_⟩
      · simp (disch := omega) only [m_X8_drop, zA, zD, zE, ob_s, x_lt, x_ltl, x_llt, x_le, x_lel, x_lle, x_eq, x_eql, x_eqm, x_al, x_la, x_a, x_ml, x_lm, x_m, x_cl, if_true, if_false, jn, x_d4, x_d2, bz_b, bz_0, bz_1, and_self, not_true_eq_false, not_false_eq_true, true_and, and_true, q_hasN, bI_0, hs', q_mis, e1, m_X8_fine, m_X6_takeAway, x_eqm]
      · simp (disch := omega) only [m_X9_drop, zA, zD, zE, ob_s, x_lt, x_ltl, x_llt, x_le, x_lel, x_lle, x_eq, x_eql, x_eqm, x_al, x_la, x_a, x_ml, x_lm, x_m, x_cl, if_true, if_false, jn, x_d4, x_d2, bz_b, bz_0, bz_1, and_self, not_true_eq_false, not_false_eq_true, true_and, and_true, q_isSh, bI_0, hs', m_X9_finding, u2_r, e2, e4]
        simp (disch := omega) [e4, e2, x_lle]
      · have c1 := h.1
        refine c_sheet h ⟨fun t ht => ?_, fun t j ht hj => ?_⟩ ?_ ?_ ?_ ?_
        · have := c1.1 t ht
          simp only [u2_r]
          by_cases hts : t = s
          · subst hts; left; simp
          · simpa [hts] using this
        · have := c1.2 t j ht hj
          simp only [u2_r]
          grind
        · simp only [u2_r]; simp
        · intro j hj; simp only [u2_r]; grind
        · intro j hj hj2; simp only [u2_r]; grind
        · intro k h1 h2 h3 h4; simp only [u2_w]; grind
  · refine ⟨-1000001, ν, u2 ν 106 0 0, ?_, ?_, p, d, nc, ns, na, nb, c_s0 h⟩
    · simp (disch := omega) only [m_X8_drop, zA, zD, zE, ob_s, x_lt, x_ltl, x_llt, x_le, x_lel, x_lle, x_eq, x_eql, x_eqm, x_al, x_la, x_a, x_ml, x_lm, x_m, x_cl, if_true, if_false, jn, x_d4, x_d2, bz_b, bz_0, bz_1, and_self, not_true_eq_false, not_false_eq_true, true_and, and_true, q_hasN, bI_0, hs]
    · simp (disch := omega) only [m_X9_drop, zA, zD, zE, ob_s, x_lt, x_ltl, x_llt, x_le, x_lel, x_lle, x_eq, x_eql, x_eqm, x_al, x_la, x_a, x_ml, x_lm, x_m, x_cl, if_true, if_false, jn, x_d4, x_d2, bz_b, bz_0, bz_1, and_self, not_true_eq_false, not_false_eq_true, true_and, and_true, q_isSh, bI_0, hs]
theorem ti_sub {a b : Int32} (h1 : -2147483648 ≤ a.toInt - b.toInt) (h2 : a.toInt - b.toInt < 2147483648) : (a - b).toInt = a.toInt - b.toInt := by
  rw [Int32.toInt_sub]
  exact Int.bmod_eq_of_le (by omega) (by omega)
theorem ti_add {a b : Int32} (h1 : -2147483648 ≤ a.toInt + b.toInt) (h2 : a.toInt + b.toInt < 2147483648) : (a + b).toInt = a.toInt + b.toInt := by
  rw [Int32.toInt_add]
  exact Int.bmod_eq_of_le (by omega) (by omega)
theorem ti_mul {a b : Int32} (h1 : -2147483648 ≤ a.toInt * b.toInt) (h2 : a.toInt * b.toInt < 2147483648) : (a * b).toInt = a.toInt * b.toInt := by
  rw [Int32.toInt_mul]
  exact Int.bmod_eq_of_le (by omega) (by omega)
theorem ti_neg {a : Int32} (h2 : -2147483648 < a.toInt) : (-a).toInt = -a.toInt := by
  rw [Int32.toInt_neg]
  have := Int32.toInt_lt a
  exact Int.bmod_eq_of_le (by omega) (by omega)
theorem ti_lo (a : Int32) : -2147483648 ≤ a.toInt := Int32.le_toInt a
theorem ti_hi (a : Int32) : a.toInt < 2147483648 := Int32.toInt_lt a
theorem q_find {μ : MT} {s z : Nat} {i n : Int32} (hs : s < 8) (e : μ 3 s = nI z) (hz : z ≤ 40) : m_X6_findingAt Zc 1 (nI s) i n μ = some (if 0 ≤ i.toInt ∧ 0 ≤ n.toInt ∧ i.toInt + n.toInt ≤ z then 0 else 2) := by
  unfold m_X6_findingAt
  simp (disch := omega) only [zA, zD, zE, ob_s, x_lt, x_ltl, x_llt, x_le, x_lel, x_lle, x_eq, x_eql, x_eqm, x_al, x_la, x_a, x_ml, x_lm, x_m, x_cl, if_true, if_false, jn, x_d4, x_d2, bz_b, bz_0, bz_1, and_self, not_true_eq_false, not_false_eq_true, true_and, and_true, q_mis, e, bI_0]
  simp only [fa_lt, fa_le, show (0 : Int32).toInt = 0 from rfl]
  have l1 := ti_hi n
  by_cases h1 : i.toInt < 0
  · rw [if_pos h1, if_neg (by omega)]; rfl
  · by_cases h2 : n.toInt < 0
    · rw [if_neg h1, if_pos h2, if_neg (by omega)]; rfl
    · rw [if_neg h1, if_neg h2, ti_sub (by rw [ti_n (by omega)]; omega) (by rw [ti_n (by omega)]; omega), ti_n (by omega)]
      by_cases h3 : i.toInt ≤ z - n.toInt
      · rw [if_pos h3, if_pos (by omega)]; rfl
      · rw [if_neg h3, if_neg (by omega)]; rfl
theorem q_find1 {μ : MT} {s : Nat} {i n : Int32} (hs : s < 8) (e : μ 3 s = -1) : m_X6_findingAt Zc 1 (nI s) i n μ = some 1 := by
  unfold m_X6_findingAt
  rw [q_mis hs, ob_s, bI_t e, if_neg (by decide)]
theorem mrd_p {p : Nat} (h : isPl p) : mrd Zc 127 3 (nI p) = some p := by
  unfold mrd
  have := isPl_le h
  rw [x_cl (by omega), if_pos (zq_k h)]
theorem q_hasNs {k s : Nat} {μ : MT} (hs : s < 8) : m_X6_hasNumber Zc k (nI s) μ = some 1 := by
  rw [q_hasN, bI_t (by rw [ti_n (by omega)]; omega)]
theorem q_isShs {s : Nat} {μ : MT} (hs : s < 8) : m_X9_isSheet Zc (nI s) μ = some 1 := by
  rw [q_isSh, bI_t (by rw [ti_n (by omega)]; omega)]
theorem one0 : ((1 : Int32) = 0) = False := by decide
theorem ti_n1 {n : Nat} (h : n < 1000000) : (nI n - 1).toInt = n - 1 := by
  rw [ti_sub (by rw [ti_n (by omega), show (1 : Int32).toInt = 1 from rfl]; omega) (by rw [ti_n (by omega), show (1 : Int32).toInt = 1 from rfl]; omega), ti_n (by omega)]; rfl
/-- 'in' from 0 to n - 1 -/
theorem q_in0 {a : Int32} {n : Nat} {μ : MT} (h : n < 1000000) : m_X9_in Zc a.toInt64 0 (nI n - 1).toInt64 μ = some (bI (0 ≤ a.toInt ∧ a.toInt < n)) := by
  rw [q_in, Int32.toInt_toInt64, Int32.toInt_toInt64, ti_n1 h, show (0 : Int64).toInt = 0 from rfl]
  unfold bI
  by_cases hc : 0 ≤ a.toInt ∧ a.toInt < n
  · rw [if_pos hc, if_pos (by omega)]
  · rw [if_neg hc, if_neg (by omega)]
theorem q_in0s {i n : Nat} {μ : MT} (hi : i < n) (h : n < 1000000) : m_X9_in Zc (nI i).toInt64 0 (nI n - 1).toInt64 μ = some 1 := by
  rw [q_in0 h, bI_t (by rw [ti_n (by omega)]; omega)]
theorem ard_4 {s : Nat} (hs : s < 8) : ard Zc 4 (nI s) = some (5 + s) := by
  rw [ard_n (n := 8) (by simp only [zA]) hs (by omega), zr_4 hs]
theorem ard_34 {s : Nat} (hs : s < 7) : ard Zc 34 (nI s) = some (38 + 7 * s) := by
  rw [ard_n (n := 7) (by simp only [zA]) hs (by omega), zr_34 hs]
theorem al_5 {μ : MT} {s i : Nat} (hs : s < 8) (hi : i < 40) : ald Zc μ (5 + s) (nI i) = some (μ (5 + s) i) := ald_n (zl_5s hs) hi (by omega)
theorem as_5 {μ : MT} {s i : Nat} {v : Int32} (hs : s < 8) (hi : i < 40) : ast Zc μ (5 + s) (nI i) v = some (u2 μ (5 + s) i v) := ast_n (zl_5s hs) hi (by omega)
