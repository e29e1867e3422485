theorem q9_copy {μ : MT} {s b i j m n n' l : Nat} (hs : s < 8) (hb : b < 8) (e4 : μ 107 s = nI l) (f4 : μ 107 b = nI l) (e2 : μ 108 s = nI n) (f2 : μ 108 b = nI n') (hl : l < 3) (hn : n ≤ 40) (hn' : n' ≤ 40) (h1 : i + m ≤ n) (h2 : j + m ≤ n') :
    m_X9_copy Zc 106 (nI s) (nI i) (nI b) (nI j) (nI m) μ = some (nI m, u1 (u2 (u2 μ 106 0 0) 106 1 0) 109 (fun q => if 40 * b + j ≤ q ∧ q < 40 * b + j + m then μ 109 (40 * s + i + (q - (40 * b + j))) else μ 109 q)) := by
  have w1 : ¬ 0 < lg_cmp ((nI i).toInt64 + (nI m).toInt64) (nI n).toInt64 := by
    rw [lg_cmp_gt, fa_lt64, lg_i2l_add, Int32.toInt_toInt64, ti_n (by omega), ti_n (by omega), ti_n (by omega)]; omega
  have w2 : lg_cmp ((nI j).toInt64 + (nI m).toInt64) (nI n').toInt64 ≤ 0 := by
    rw [lg_cmp_le, fa_le64, lg_i2l_add, Int32.toInt_toInt64, ti_n (by omega), ti_n (by omega), ti_n (by omega)]; omega
  have nn : ∀ k : Nat, k < 41 → ¬ nI k < 0 := fun k hk => nI_nlt (a := k) (b := 0) (by omega) (by omega)
  have np : ∀ k : Nat, k < 41 → 0 ≤ nI k := fun k hk => by rw [fa_le, ti_n (by omega)]; exact Int.natCast_nonneg k
  have e4' : u2 (u2 μ 106 0 0) 106 1 0 107 s = nI l := e4
  have f4' : u2 (u2 μ 106 0 0) 106 1 0 107 b = nI l := f4
  have e2' : u2 (u2 μ 106 0 0) 106 1 0 108 s = nI n := e2
  have f2' : u2 (u2 μ 106 0 0) 106 1 0 108 b = nI n' := f2
  have g9 : u2 (u2 μ 106 0 0) 106 1 0 109 = μ 109 := rfl
  unfold m_X9_copy
  rw [ob_s, q_isShs hs, ob_s, if_neg (by decide), q_isShs hb, ob_s, if_neg (by decide), ob_s]
  generalize u2 (u2 μ 106 0 0) 106 1 0 = ω at *
  simp only [zA]
  rw [al_107 hs, ob_s, e4', if_neg (nn l (by omega)), al_107 hb, ob_s, f4', if_pos (np l (by omega)), ob_s, ob_s, if_pos rfl, if_neg (nn i (by omega)), if_neg (nn j (by omega)), if_neg (nn m (by omega)), al_108 hs, ob_s, e2', if_neg w1, al_108 hb, ob_s, f2', if_pos w2]
  apply ok_eq
  refine ok_b (R1 := fun q => q = Sum.inl (nI m, u1 ω 109 (fun q => if 40 * b + j ≤ q ∧ q < 40 * b + j + m then μ 109 (40 * s + i + (q - (40 * b + j))) else μ 109 q))) ?_ (fun q hq => by subst hq; exact ok_s rfl)
  refine ok_b (R1 := fun q => q = Sum.inl (Sum.inl (nI m, u1 ω 109 (fun q => if 40 * b + j ≤ q ∧ q < 40 * b + j + m then μ 109 (40 * s + i + (q - (40 * b + j))) else μ 109 q)))) ?_ (fun q hq => by subst hq; exact ok_s rfl)
  rw [← g9]
  by_cases hij : i < j
  · rw [if_pos (by rw [x_lt (by omega) (by omega)]; exact hij), ob_s]
    refine ok_for (fun k ξ => ξ = u1 ω 109 (fun q => if 40 * b + j + (m - k) ≤ q ∧ q < 40 * b + j + m then ω 109 (40 * s + i + (q - (40 * b + j))) else ω 109 q)) 0 m (by omega) (by omega) rfl ?_ ?_ ?_
    · funext k q
      simp only [u1_w]
      by_cases hk : k = 109
      · subst hk
        simp only [if_true, show ¬ (40 * b + j + (m - 0) ≤ q ∧ q < 40 * b + j + m) by omega, if_false]
      · simp [hk]
    · rintro k ξ _ hk rfl
      have e9 : nI m - 1 - nI k = nI (m - 1 - k) := by rw [x_sl (by omega), x_s (by omega)]
      simp (disch := omega) only [zA, zD, zE, ob_s, x_lt, x_ltl, x_llt, x_le, x_lel, x_lle, x_eq, x_eql, x_eqm, x_al, x_la, x_a, x_ml, x_lm, x_m, x_cl, if_true, if_false, jn, x_d4, x_d2, bz_b, bz_0, bz_1, and_self, not_true_eq_false, not_false_eq_true, true_and, and_true, show ¬ m ≤ k by omega, e9]
      refine ok_s (Or.inl ⟨_, rfl, ?_⟩)
      funext k' q
      simp only [u2_w, u1_w]
      by_cases hk' : k' = 109
      · subst hk'
        simp only [if_true, upd]
        by_cases hq : q = 40 * b + j + (m - 1 - k)
        · subst hq
          rw [if_pos rfl, if_neg, if_pos (by omega)]
          · congr 1; omega
          · intro hc
            rcases Nat.lt_trichotomy s b with hsb | hsb | hsb
            · omega
            · subst hsb; omega
            · omega
        · rw [if_neg hq]
          by_cases hr : 40 * b + j + (m - k) ≤ q ∧ q < 40 * b + j + m
          · rw [if_pos hr, if_pos (by omega)]
          · rw [if_neg hr, if_neg (by omega)]
      · simp [hk']
    · rintro ξ rfl
      simp (disch := omega) only [zA, zD, zE, ob_s, x_lt, x_ltl, x_llt, x_le, x_lel, x_lle, x_eq, x_eql, x_eqm, x_al, x_la, x_a, x_ml, x_lm, x_m, x_cl, if_true, if_false, jn, x_d4, x_d2, bz_b, bz_0, bz_1, and_self, not_true_eq_false, not_false_eq_true, true_and, and_true, Nat.le_refl]
      refine ok_s ⟨_, rfl, ok_s ?_⟩
      simp
  · rw [if_neg (by rw [x_lt (by omega) (by omega)]; exact hij), ob_s]
    refine ok_for (fun k ξ => ξ = u1 ω 109 (fun q => if 40 * b + j ≤ q ∧ q < 40 * b + j + k then ω 109 (40 * s + i + (q - (40 * b + j))) else ω 109 q)) 0 m (by omega) (by omega) rfl ?_ ?_ ?_
    · funext k q
      simp only [u1_w]
      by_cases hk : k = 109
      · subst hk
        simp only [if_true, show ¬ (40 * b + j ≤ q ∧ q < 40 * b + j + 0) by omega, if_false]
      · simp [hk]
    · rintro k ξ _ hk rfl
      simp (disch := omega) only [zA, zD, zE, ob_s, x_lt, x_ltl, x_llt, x_le, x_lel, x_lle, x_eq, x_eql, x_eqm, x_al, x_la, x_a, x_ml, x_lm, x_m, x_cl, if_true, if_false, jn, x_d4, x_d2, bz_b, bz_0, bz_1, and_self, not_true_eq_false, not_false_eq_true, true_and, and_true, show ¬ m ≤ k by omega, one0]
      refine ok_s (Or.inl ⟨_, rfl, ?_⟩)
      funext k' q
      simp only [u2_w, u1_w]
      by_cases hk' : k' = 109
      · subst hk'
        simp only [if_true, upd]
        by_cases hq : q = 40 * b + j + k
        · subst hq
          rw [if_pos rfl, if_neg, if_pos (by omega)]
          · congr 1; omega
          · intro hc
            rcases Nat.lt_trichotomy s b with hsb | hsb | hsb
            · omega
            · subst hsb; omega
            · omega
        · rw [if_neg hq]
          by_cases hr : 40 * b + j ≤ q ∧ q < 40 * b + j + k
          · rw [if_pos hr, if_pos (by omega)]
          · rw [if_neg hr, if_neg (by omega)]
      · simp [hk']
    · rintro ξ rfl
      simp (disch := omega) only [zA, zD, zE, ob_s, x_lt, x_ltl, x_llt, x_le, x_lel, x_lle, x_eq, x_eql, x_eqm, x_al, x_la, x_a, x_ml, x_lm, x_m, x_cl, if_true, if_false, jn, x_d4, x_d2, bz_b, bz_0, bz_1, and_self, not_true_eq_false, not_false_eq_true, true_and, and_true, Nat.le_refl]
      exact ok_s ⟨_, rfl, ok_s rfl⟩
theorem q9_copy1 {μ : MT} {s b : Nat} {a1 a3 a4 : Int32} (hs : s < 8) (hb : b < 8) (h : μ 107 s < 0 ∨ (¬ μ 107 s < 0 ∧ ¬ 0 ≤ μ 107 b)) : m_X9_copy Zc 106 (nI s) a1 (nI b) a3 a4 μ = some (-1000010 - 1, u2 (u2 (u2 μ 106 0 0) 106 1 0) 106 1 1) := by
  have h' : u2 (u2 μ 106 0 0) 106 1 0 107 s < 0 ∨ (¬ u2 (u2 μ 106 0 0) 106 1 0 107 s < 0 ∧ ¬ 0 ≤ u2 (u2 μ 106 0 0) 106 1 0 107 b) := h
  unfold m_X9_copy
  rw [ob_s, q_isShs hs, ob_s, if_neg (by decide), q_isShs hb, ob_s, if_neg (by decide), ob_s]
  simp only [zA]
  rw [al_107 hs, ob_s]
  rcases h' with h' | ⟨h1, h2⟩
  · rw [if_pos h']; rfl
  · rw [if_neg h1, al_107 hb, ob_s, if_neg h2]; rfl
theorem q9_copy5 {μ : MT} {s b l l' : Nat} {a1 a3 a4 : Int32} (hs : s < 8) (hb : b < 8) (e : μ 107 s = nI l) (f : μ 107 b = nI l') (hl : l < 3) (hl' : l' < 3) (hne : ¬ l = l') : m_X9_copy Zc 106 (nI s) a1 (nI b) a3 a4 μ = some (-1000010 - 5, u2 (u2 (u2 μ 106 0 0) 106 1 0) 106 1 5) := by
  have nn : ∀ k : Nat, k < 41 → ¬ nI k < 0 := fun k hk => nI_nlt (a := k) (b := 0) (by omega) (by omega)
  have np : ∀ k : Nat, k < 41 → 0 ≤ nI k := fun k hk => by rw [fa_le, ti_n (by omega)]; exact Int.natCast_nonneg k
  have e' : u2 (u2 μ 106 0 0) 106 1 0 107 s = nI l := e
  have f' : u2 (u2 μ 106 0 0) 106 1 0 107 b = nI l' := f
  unfold m_X9_copy
  rw [ob_s, q_isShs hs, ob_s, if_neg (by decide), q_isShs hb, ob_s, if_neg (by decide), ob_s]
  simp only [zA]
  rw [al_107 hs, ob_s, e', if_neg (nn l (by omega)), al_107 hb, ob_s, f', if_pos (np l' (by omega)), ob_s, ob_s, if_neg (by rw [x_eq (by omega) (by omega)]; exact hne)]
  rfl
theorem q9_copy2 {μ : MT} {s b n n' l : Nat} {a1 a3 a4 : Int32} (hs : s < 8) (hb : b < 8) (e4 : μ 107 s = nI l) (f4 : μ 107 b = nI l) (e2 : μ 108 s = nI n) (f2 : μ 108 b = nI n') (hl : l < 3) (hn : n ≤ 40) (hn' : n' ≤ 40)
    (hok : ¬ ((0 ≤ a1.toInt ∧ 0 ≤ a4.toInt ∧ a1.toInt + a4.toInt ≤ n) ∧ (0 ≤ a3.toInt ∧ 0 ≤ a4.toInt ∧ a3.toInt + a4.toInt ≤ n'))) : m_X9_copy Zc 106 (nI s) a1 (nI b) a3 a4 μ = some (-1000010 - 2, u2 (u2 (u2 μ 106 0 0) 106 1 0) 106 1 2) := by
  have nn : ∀ k : Nat, k < 41 → ¬ nI k < 0 := fun k hk => nI_nlt (a := k) (b := 0) (by omega) (by omega)
  have np : ∀ k : Nat, k < 41 → 0 ≤ nI k := fun k hk => by rw [fa_le, ti_n (by omega)]; exact Int.natCast_nonneg k
  have e4' : u2 (u2 μ 106 0 0) 106 1 0 107 s = nI l := e4
  have f4' : u2 (u2 μ 106 0 0) 106 1 0 107 b = nI l := f4
  have e2' : u2 (u2 μ 106 0 0) 106 1 0 108 s = nI n := e2
  have f2' : u2 (u2 μ 106 0 0) 106 1 0 108 b = nI n' := f2
  have e0 : (0 : Int32).toInt = 0 := rfl
  unfold m_X9_copy
  rw [ob_s, q_isShs hs, ob_s, if_neg (by decide), q_isShs hb, ob_s, if_neg (by decide), ob_s]
  generalize u2 (u2 μ 106 0 0) 106 1 0 = ω at *
  simp only [zA]
  rw [al_107 hs, ob_s, e4', if_neg (nn l (by omega)), al_107 hb, ob_s, f4', if_pos (np l (by omega)), ob_s, ob_s, if_pos rfl]
  by_cases h1 : a1.toInt < 0
  · rw [if_pos (by rw [fa_lt]; exact h1)]; rfl
  · rw [if_neg (by rw [fa_lt]; exact h1)]
    by_cases h2 : a3.toInt < 0
    · rw [if_pos (by rw [fa_lt]; exact h2)]; rfl
    · rw [if_neg (by rw [fa_lt]; exact h2)]
      by_cases h3 : a4.toInt < 0
      · rw [if_pos (by rw [fa_lt]; exact h3)]; rfl
      · rw [if_neg (by rw [fa_lt]; exact h3), al_108 hs, ob_s, e2']
        by_cases h4 : (n : Int) < a1.toInt + a4.toInt
        · rw [if_pos (by rw [lg_cmp_gt, fa_lt64, lg_i2l_add, Int32.toInt_toInt64, ti_n (by omega)]; exact h4)]; rfl
        · rw [if_neg (by rw [lg_cmp_gt, fa_lt64, lg_i2l_add, Int32.toInt_toInt64, ti_n (by omega)]; exact h4), al_108 hb, ob_s, f2', if_neg (by rw [lg_cmp_le, fa_le64, lg_i2l_add, Int32.toInt_toInt64, ti_n (by omega)]; omega)]; rfl
theorem op_copy {ν : MT} (h : Inv ν) (a0 a1 a2 a3 a4 : Int32) : OkI Inv (m_X8_copy Zc 0 a0 a1 a2 a3 a4 ν) (fun μ => m_X9_copy Zc 106 a0 a1 a2 a3 a4 μ) := by
  obtain ⟨p, d, nc, ns, na, nb, h⟩ := h
  by_cases hs : (0 ≤ a0.toInt ∧ a0.toInt < 8) ∧ (0 ≤ a2.toInt ∧ a2.toInt < 8)
  · obtain ⟨hs, hb⟩ := hs
    obtain ⟨s, hs1, rfl⟩ := nI_ex (n := 8) hs.1 hs.2
    obtain ⟨b, hb1, rfl⟩ := nI_ex (n := 8) hb.1 hb.2
    have c1 := h.1.1 s hs1
    have c2 := h.1.1 b hb1
    have m1 : ¬ (0 : Int32) ≤ -1 := by decide
    have m2 : (-1 : Int32) < 0 := by decide
    rcases c1 with ⟨e1, e2⟩ | ⟨n, l, hn, hl, e1, e2, e3, e4⟩
    · refine ⟨-1000010 - 1, u2 ν 0 15 1, _, ?_, ?_, p, d, nc, ns, na, nb, c_s1 h 1⟩
      · simp (disch := omega) only [m_X8_copy, zA, zD, zE, ob_s, x_lt, x_ltl, x_llt, x_le, x_lel, x_lle, x_eq, x_eql, x_eqm, x_al, x_la, x_a, x_ml, x_lm, x_m, x_cl, if_true, if_false, jn, x_d4, x_d2, bz_b, bz_0, bz_1, and_self, not_true_eq_false, not_false_eq_true, true_and, and_true, q_hasNs, one0, m_X6_findingBetween, q_mis, bI_0, e1, m_X8_found]
      · exact q9_copy1 hs1 hb1 (Or.inl (by show ν 107 s < 0; rw [e2]; exact m2))
    · rcases c2 with ⟨f1, f2⟩ | ⟨n', l', hn', hl', f1, f2, f3, f4⟩
      · refine ⟨-1000010 - 1, u2 ν 0 15 1, _, ?_, ?_, p, d, nc, ns, na, nb, c_s1 h 1⟩
        · simp (disch := omega) only [m_X8_copy, zA, zD, zE, ob_s, x_lt, x_ltl, x_llt, x_le, x_lel, x_lle, x_eq, x_eql, x_eqm, x_al, x_la, x_a, x_ml, x_lm, x_m, x_cl, if_true, if_false, jn, x_d4, x_d2, bz_b, bz_0, bz_1, and_self, not_true_eq_false, not_false_eq_true, true_and, and_true, q_hasNs, one0, m_X6_findingBetween, q_mis, bI_0, e1, f1, m_X8_found]
        · exact q9_copy1 hs1 hb1 (Or.inr ⟨by show ¬ ν 107 s < 0; rw [e4]; exact nI_nlt (a := l) (b := 0) (by omega) (by omega), by show ¬ 0 ≤ ν 107 b; rw [f2]; exact m1⟩)
      · by_cases hll : l = l'
        · subst hll
          by_cases hok : (0 ≤ a1.toInt ∧ 0 ≤ a4.toInt ∧ a1.toInt + a4.toInt ≤ n) ∧ (0 ≤ a3.toInt ∧ 0 ≤ a4.toInt ∧ a3.toInt + a4.toInt ≤ n')
          · obtain ⟨ho1, ho2⟩ := hok
            obtain ⟨i, hi1, rfl⟩ := nI_ex (n := 41) ho1.1 (by omega)
            obtain ⟨m, hm1, rfl⟩ := nI_ex (n := 41) ho1.2.1 (by omega)
            obtain ⟨j, hj1, rfl⟩ := nI_ex (n := 41) ho2.1 (by omega)
            have ho1' := ho1
            have ho2' := ho2
            rw [ti_n (by omega), ti_n (by omega)] at ho1'
            rw [ti_n (by omega), ti_n (by omega)] at ho2'
            refine ⟨nI m, u2 (u1 ν (5 + b) (va_cpy (ν (5 + s)) (ν (5 + b)) i j m)) 0 15 0, u1 (u2 (u2 (u2 (u1 ν (5 + b) (va_cpy (ν (5 + s)) (ν (5 + b)) i j m)) 0 15 0) 106 0 0) 106 1 0) 109 (fun q => if 40 * b + j ≤ q ∧ q < 40 * b + j + m then ν 109 (40 * s + i + (q - (40 * b + j))) else ν 109 q), ?_, ?_, p, d, nc, ns, na, nb, ?_⟩
            · have hacp : acp Zc ν (5 + s) (nI i) (5 + b) (nI j) (nI m) = some (u1 ν (5 + b) (va_cpy (ν (5 + s)) (ν (5 + b)) i j m)) := by
                unfold acp
                simp (disch := omega) only [x_ltl, x_cl, zl_5s, Nat.not_lt_zero, not_false_eq_true, true_and]
                rw [if_pos (by omega)]
              simp (disch := omega) only [m_X8_copy, zA, zD, zE, ob_s, x_lt, x_ltl, x_llt, x_le, x_lel, x_lle, x_eq, x_eql, x_eqm, x_al, x_la, x_a, x_ml, x_lm, x_m, x_cl, if_true, if_false, jn, x_d4, x_d2, bz_b, bz_0, bz_1, and_self, not_true_eq_false, not_false_eq_true, true_and, and_true, q_hasNs, one0, m_X6_findingBetween, q_mis, bI_0, e1, f1, e3, f3, q_find hs1 e1 hn, q_find hb1 f1 hn', ho1, ho2, m_X6_carry, ard_4, hacp, m_X8_fine]
            · have g0 : ∀ k : Nat, 107 ≤ k → ∀ q, u2 (u1 ν (5 + b) (va_cpy (ν (5 + s)) (ν (5 + b)) i j m)) 0 15 0 k q = ν k q := fun k hk q => by simp only [u2_r, u1_r]; grind
              have := q9_copy (μ := u2 (u1 ν (5 + b) (va_cpy (ν (5 + s)) (ν (5 + b)) i j m)) 0 15 0) (i := i) (j := j) (m := m) hs1 hb1 (by rw [g0 _ (by omega)]; exact e4) (by rw [g0 _ (by omega)]; exact f4) (by rw [g0 _ (by omega)]; exact e2) (by rw [g0 _ (by omega)]; exact f2) hl hn hn' (by omega) (by omega)
              simp only [g0 109 (by omega)] at this
              exact this
            · have c1 := h.1
              refine c_sheet h ⟨fun t ht => ?_, fun t q ht hq => ?_⟩ ?_ ?_ ?_ ?_
              · have := c1.1 t ht
                simp only [u2_r, u1_r]
                simpa [show ¬ 107 = 5 + b by omega, show ¬ 108 = 5 + b by omega, show ¬ 2 = 5 + b by omega, show ¬ 3 = 5 + b by omega] using this
              · have h0 := c1.2 t q ht hq
                simp only [u2_r, u1_r]
                simp only [Nat.reduceEqDiff, false_and, if_false, show ¬ 5 + t = 109 by omega, show ¬ 5 + t = 106 by omega, show ¬ 5 + t = 0 by omega, if_true]
                by_cases htb : t = b
                · subst htb
                  rw [if_pos rfl]
                  unfold va_cpy
                  by_cases hr : j ≤ q ∧ q < j + m
                  · rw [if_pos hr, if_pos (by omega)]
                    have := c1.2 s (i + (q - j)) hs1 (by omega)
                    simp only at this
                    rw [this]
                    congr 1; omega
                  · rw [if_neg hr, if_neg (by omega)]
                    exact h0
                · rw [if_neg (by omega), if_neg (by omega)]
                  exact h0
              · simp only [u2_r, u1_r]; simp
              · intro j hj; simp only [u2_r, u1_r]; grind
              · intro j hj hj2; simp only [u2_r, u1_r]; grind
              · intro k h1 h2 h3 h4; simp only [u2_w, u1_w]; grind
          · refine ⟨-1000010 - 2, u2 ν 0 15 2, _, ?_, ?_, p, d, nc, ns, na, nb, c_s1 h 2⟩
            · have two0 : ((2 : Int32) = 0) = False := by decide
              simp (disch := omega) only [m_X8_copy, zA, zD, zE, ob_s, x_lt, x_ltl, x_llt, x_le, x_lel, x_lle, x_eq, x_eql, x_eqm, x_al, x_la, x_a, x_ml, x_lm, x_m, x_cl, if_true, if_false, jn, x_d4, x_d2, bz_b, bz_0, bz_1, and_self, not_true_eq_false, not_false_eq_true, true_and, and_true, q_hasNs, one0, m_X6_findingBetween, q_mis, bI_0, e1, f1, e3, f3, q_find hs1 e1 hn, q_find hb1 f1 hn']
              by_cases ho : 0 ≤ a1.toInt ∧ 0 ≤ a4.toInt ∧ a1.toInt + a4.toInt ≤ n
              · rw [if_pos ho]
                simp only [if_true, ob_s]
                rw [if_neg (fun hc => hok ⟨ho, hc⟩)]
                simp only [two0, if_false, ob_s, m_X8_found]
              · rw [if_neg ho]
                simp only [two0, if_false, ob_s, m_X8_found]
            · exact q9_copy2 hs1 hb1 e4 f4 e2 f2 hl hn hn' hok
        · refine ⟨-1000010 - 5, u2 ν 0 15 5, _, ?_, ?_, p, d, nc, ns, na, nb, c_s1 h 5⟩
          · have five0 : ((5 : Int32) = 0) = False := by decide
            simp (disch := omega) only [m_X8_copy, zA, zD, zE, ob_s, x_lt, x_ltl, x_llt, x_le, x_lel, x_lle, x_eq, x_eql, x_eqm, x_al, x_la, x_a, x_ml, x_lm, x_m, x_cl, if_true, if_false, jn, x_d4, x_d2, bz_b, bz_0, bz_1, and_self, not_true_eq_false, not_false_eq_true, true_and, and_true, q_hasNs, one0, m_X6_findingBetween, q_mis, bI_0, e1, f1, e3, f3, hll, five0, m_X8_found]
          · exact q9_copy5 hs1 hb1 e4 f4 hl hl' hll
  · refine ⟨-1000001, ν, u2 ν 106 0 0, ?_, ?_, p, d, nc, ns, na, nb, c_s0 h⟩
    · simp only [m_X8_copy, q_hasN, ob_s, bI_0]
      by_cases h1 : 0 ≤ a0.toInt ∧ a0.toInt < 8
      · rw [if_neg (by simp only [h1]; simp), if_pos (fun h2 => hs ⟨h1, h2⟩)]
      · rw [if_pos h1]
    · simp only [m_X9_copy, q_isSh, ob_s, bI_0]
      by_cases h1 : 0 ≤ a0.toInt ∧ a0.toInt < 8
      · rw [if_neg (by simp only [h1]; simp), if_pos (fun h2 => hs ⟨h1, h2⟩)]
      · rw [if_pos h1]
