theorem hgA_c {N N' : Nat → Int32} : ∀ {n : Nat}, (∀ c, c < n → N (24 + c) = N' (24 + c)) → hgA N n = hgA N' n
  | 0, _ => rfl
  | n + 1, h => by
    rw [hgA, hgA, hgA_c (fun c hc => h c (by omega)), h n (by omega)]
theorem mxA_c {nc : Nat} {N N' : Nat → Int32} (h : ∀ c, c < nc → N (24 + c) = N' (24 + c)) : ∀ {n : Nat}, n ≤ nc + 1 → mxA nc N n = mxA nc N' n
  | 0, _ => rfl
  | n + 1, hn => by
    rw [mxA, mxA, mxA_c h (by omega), hgA_c (n := n) (fun c hc => h c (by omega)), hgA_c (n := nc) h]
theorem offA_c {nc : Nat} {N N' : Nat → Int32} (h : ∀ c, c < nc → N (24 + c) = N' (24 + c)) : offA nc N = offA nc N' := by
  unfold offA
  rw [mxA_c h (Nat.le_refl _)]
/-- heights, read off a row of 48 -/
theorem r_height {μ : MT} {k i : Nat} (hl : zl Zc k = 48) (hi : i ≤ 12) : m_X9_heightBy Zc 106 k (nI i) μ = some (hgA (μ k) i).2 := by
  unfold m_X9_heightBy
  apply ok_eq
  refine ok_l (fun m q => ∃ c, c + m = i ∧ q = ((hgA (μ k) c).2, (hgA (μ k) c).1, nI c)) i (by omega) ⟨0, by omega, rfl⟩ ?_
  rintro m q ⟨c, hc, rfl⟩
  by_cases hm : m = 0
  · subst hm
    have : c = i := by omega
    subst this
    simp (disch := omega) only [x_le, Nat.le_refl, if_true]
    exact ok_s (Or.inl ⟨_, rfl, ok_s rfl⟩)
  · simp (disch := omega) only [x_le, show ¬ i ≤ c by omega, if_false, x_la, ob_s, x_al]
    rw [ald_n hl (by omega) (by omega), ob_s]
    refine ok_s (Or.inr ⟨_, m - 1, rfl, by omega, c + 1, by omega, ?_⟩)
    simp only [hgA]
theorem r_off {μ : MT} {nc : Nat} (e : μ 106 5 = nI nc) (hc : 4 ≤ nc) (hc2 : nc ≤ 12) : m_X9_offBy Zc 106 μ = some (offA nc (μ 119)) := by
  unfold m_X9_offBy
  simp only [zA, e]
  rw [r_height (by simp only [zA]) hc2, ob_s]
  apply ok_eq
  refine ok_l (fun m q => ∃ i, i + m = nc + 1 ∧ q = (mxA nc (μ 119) i, nI i)) (nc + 1) (by omega) ⟨0, by omega, rfl⟩ ?_
  rintro m q ⟨i, hi, rfl⟩
  by_cases hm : m = 0
  · subst hm
    have : i = nc + 1 := by omega
    subst this
    simp (disch := omega) only [x_lt, show nc < nc + 1 by omega, if_true]
    refine ok_s (Or.inl ⟨_, rfl, ?_⟩)
    rw [x_dv (by rw [ne_eq, x_eql (by omega) (by omega)]; omega), ob_s]
    exact ok_s rfl
  · simp (disch := omega) only [x_lt, show ¬ nc < i by omega, if_false]
    rw [r_height (by simp only [zA]) (by omega)]
    simp only [ob_s, n1]
    have hz : ∀ v : Int32, (if 0 ≤ v then some v else some (-v)) = some (abA v) := fun v => by
      unfold abA
      by_cases h : 0 ≤ v
      · rw [if_pos h, if_neg (by rw [fa_lt]; rw [fa_le] at h; omega)]
      · rw [if_neg h, if_pos (by rw [fa_lt]; rw [fa_le] at h; omega)]
    rw [hz, ob_s]
    have hy : ∀ a b : Int32, (if a ≤ b then some b else some a) = some (if b < a then a else b) := fun a b => by
      by_cases h : a ≤ b
      · rw [if_pos h, if_neg (by rw [fa_lt]; rw [fa_le] at h; omega)]
      · rw [if_neg h, if_pos (by rw [fa_lt]; rw [fa_le] at h; omega)]
    rw [hy, ob_s]
    exact ok_s (Or.inr ⟨_, m - 1, rfl, by omega, i + 1, by omega, rfl⟩)
/-- copies of rows, place by place -/
theorem r_layO {μ : MT} : m_X9_layOpened Zc 106 μ = some (u1 μ 123 (fun c => if c < 12 then μ 117 c else μ 123 c)) := by
  unfold m_X9_layOpened
  simp only [zA]
  apply ok_eq
  refine ok_for (fun i ν => ν = u1 μ 123 (fun c => if c < i then μ 117 c else μ 123 c)) 0 12 (by omega) (by omega) rfl ?_ ?_ ?_
  · funext k j
    simp only [u1_r]
    by_cases h : k = 123 <;> simp [h]
  · rintro i ν _ hi rfl
    simp (disch := omega) only [zA, zD, zE, ob_s, x_lt, x_ltl, x_llt, x_le, x_lel, x_lle, x_eq, x_eql, x_eqm, x_al, x_la, x_a, x_ml, x_lm, x_m, x_cl, if_true, if_false, jn, x_d4, x_d2, bz_b, bz_0, bz_1, and_self, not_true_eq_false, not_false_eq_true, true_and, and_true, show ¬ 12 ≤ i by omega]
    refine ok_s (Or.inl ⟨_, rfl, ?_⟩)
    funext k j
    simp only [u1_r, u2_r]
    by_cases h : k = 123
    · subst h
      by_cases hj : j = i
      · subst hj; simp
      · have : (j < i + 1) = (j < i) := by apply propext; omega
        simp [hj, this]
    · simp [h]
  · rintro ν rfl
    simp (disch := omega) only [zA, zD, zE, ob_s, x_lt, x_ltl, x_llt, x_le, x_lel, x_lle, x_eq, x_eql, x_eqm, x_al, x_la, x_a, x_ml, x_lm, x_m, x_cl, if_true, if_false, jn, x_d4, x_d2, bz_b, bz_0, bz_1, and_self, not_true_eq_false, not_false_eq_true, true_and, and_true, Nat.le_refl]
    exact ok_s ⟨_, rfl, ok_s rfl⟩
theorem r_layN {μ : MT} : m_X9_layNumbers Zc 106 μ = some (u1 μ 124 (fun c => if c < 6 then nI c else μ 124 c)) := by
  unfold m_X9_layNumbers
  simp only [zA]
  apply ok_eq
  refine ok_for (fun i ν => ν = u1 μ 124 (fun c => if c < i then nI c else μ 124 c)) 0 6 (by omega) (by omega) rfl ?_ ?_ ?_
  · funext k j
    simp only [u1_r]
    by_cases h : k = 124 <;> simp [h]
  · rintro i ν _ hi rfl
    simp (disch := omega) only [zA, zD, zE, ob_s, x_lt, x_ltl, x_llt, x_le, x_lel, x_lle, x_eq, x_eql, x_eqm, x_al, x_la, x_a, x_ml, x_lm, x_m, x_cl, if_true, if_false, jn, x_d4, x_d2, bz_b, bz_0, bz_1, and_self, not_true_eq_false, not_false_eq_true, true_and, and_true, show ¬ 6 ≤ i by omega]
    refine ok_s (Or.inl ⟨_, rfl, ?_⟩)
    funext k j
    simp only [u1_r, u2_r]
    by_cases h : k = 124
    · subst h
      by_cases hj : j = i
      · subst hj; simp
      · have : (j < i + 1) = (j < i) := by apply propext; omega
        simp [hj, this]
    · simp [h]
  · rintro ν rfl
    simp (disch := omega) only [zA, zD, zE, ob_s, x_lt, x_ltl, x_llt, x_le, x_lel, x_lle, x_eq, x_eql, x_eqm, x_al, x_la, x_a, x_ml, x_lm, x_m, x_cl, if_true, if_false, jn, x_d4, x_d2, bz_b, bz_0, bz_1, and_self, not_true_eq_false, not_false_eq_true, true_and, and_true, Nat.le_refl]
    exact ok_s ⟨_, rfl, ok_s rfl⟩
theorem r_stand {μ : MT} : m_X9_stand Zc 106 μ = some (u1 (u2 (u2 (u1 μ 122 (fun c => if c < 48 then μ 119 c else μ 122 c)) 106 37 (μ 106 35)) 106 31 1) 118 (fun c => if c < 6 then μ 124 c else μ 118 c)) := by
  unfold m_X9_stand
  simp only [zA]
  apply ok_eq
  refine ok_for (fun i ν => ν = u1 μ 122 (fun c => if c < i then μ 119 c else μ 122 c)) 0 48 (by omega) (by omega) rfl ?_ ?_ ?_
  · funext k j
    simp only [u1_r]
    by_cases h : k = 122 <;> simp [h]
  · rintro i ν _ hi rfl
    simp (disch := omega) only [zA, zD, zE, ob_s, x_lt, x_ltl, x_llt, x_le, x_lel, x_lle, x_eq, x_eql, x_eqm, x_al, x_la, x_a, x_ml, x_lm, x_m, x_cl, if_true, if_false, jn, x_d4, x_d2, bz_b, bz_0, bz_1, and_self, not_true_eq_false, not_false_eq_true, true_and, and_true, show ¬ 48 ≤ i by omega]
    refine ok_s (Or.inl ⟨_, rfl, ?_⟩)
    funext k j
    simp only [u1_r, u2_r]
    by_cases h : k = 122
    · subst h
      by_cases hj : j = i
      · subst hj; simp
      · have : (j < i + 1) = (j < i) := by apply propext; omega
        simp [hj, this]
    · simp [h]
  · rintro ν rfl
    simp (disch := omega) only [x_lle, Nat.le_refl, if_true]
    refine ok_s ⟨_, rfl, ?_⟩
    simp only [ob_s]
    have e35 : u1 μ 122 (fun c => if c < 48 then μ 119 c else μ 122 c) 106 35 = μ 106 35 := rfl
    rw [e35]
    have e124 : u2 (u2 (u1 μ 122 (fun c => if c < 48 then μ 119 c else μ 122 c)) 106 37 (μ 106 35)) 106 31 1 124 = μ 124 := rfl
    have e118 : u2 (u2 (u1 μ 122 (fun c => if c < 48 then μ 119 c else μ 122 c)) 106 37 (μ 106 35)) 106 31 1 118 = μ 118 := rfl
    rw [← e124, ← e118]
    generalize u2 (u2 (u1 μ 122 (fun c => if c < 48 then μ 119 c else μ 122 c)) 106 37 (μ 106 35)) 106 31 1 = ω
    refine ok_for (fun i ν => ν = u1 ω 118 (fun c => if c < i then ω 124 c else ω 118 c)) 0 6 (by omega) (by omega) rfl ?_ ?_ ?_
    · funext k j
      simp only [u1_r]
      by_cases h : k = 118 <;> simp [h]
    · rintro i ν _ hi rfl
      simp (disch := omega) only [zA, zD, zE, ob_s, x_lt, x_ltl, x_llt, x_le, x_lel, x_lle, x_eq, x_eql, x_eqm, x_al, x_la, x_a, x_ml, x_lm, x_m, x_cl, if_true, if_false, jn, x_d4, x_d2, bz_b, bz_0, bz_1, and_self, not_true_eq_false, not_false_eq_true, true_and, and_true, show ¬ 6 ≤ i by omega]
      refine ok_s (Or.inl ⟨_, rfl, ?_⟩)
      funext k j
      simp only [u1_r, u2_r]
      by_cases h : k = 118
      · subst h
        by_cases hj : j = i
        · subst hj; simp
        · have : (j < i + 1) = (j < i) := by apply propext; omega
          simp [hj, this]
      · simp [h]
    · rintro ν rfl
      simp (disch := omega) only [zA, zD, zE, ob_s, x_lt, x_ltl, x_llt, x_le, x_lel, x_lle, x_eq, x_eql, x_eqm, x_al, x_la, x_a, x_ml, x_lm, x_m, x_cl, if_true, if_false, jn, x_d4, x_d2, bz_b, bz_0, bz_1, and_self, not_true_eq_false, not_false_eq_true, true_and, and_true, Nat.le_refl]
      exact ok_s ⟨_, rfl, ok_s rfl⟩
/-- what stands: the run's or the beginning's row -/
def stdR (isr : Int32) (left opd : Nat → Int32) : Nat → Int32 := fun k => if isr = 0 then (if 24 ≤ k ∧ k < 36 then opd (k - 24) else 0) else left k
theorem r_layS {μ : MT} : m_X9_layStanding Zc 106 μ = some (u1 μ 119 (fun k => if k < 48 then stdR (μ 106 31) (μ 122) (μ 117) k else μ 119 k)) := by
  unfold m_X9_layStanding
  simp only [zA]
  apply ok_eq
  refine ok_for (fun i ν => ν = u1 μ 119 (fun k => if k < i then stdR (μ 106 31) (μ 122) (μ 117) k else μ 119 k)) 0 48 (by omega) (by omega) rfl ?_ ?_ ?_
  · funext k j
    simp only [u1_r]
    by_cases h : k = 119 <;> simp [h]
  · rintro i ν _ hi rfl
    simp (disch := omega) only [x_lle, show ¬ 48 ≤ i by omega, if_false]
    have e31 : ∀ f, u1 μ 119 f 106 31 = μ 106 31 := fun f => rfl
    have hz : (if u1 μ 119 (fun k => if k < i then stdR (μ 106 31) (μ 122) (μ 117) k else μ 119 k) 106 31 = 0 then (m_X9_in Zc (nI i).toInt64 24 35 (u1 μ 119 (fun k => if k < i then stdR (μ 106 31) (μ 122) (μ 117) k else μ 119 k))).bind fun r14 => (if r14 = 0 then some 0 else (ald Zc (u1 μ 119 (fun k => if k < i then stdR (μ 106 31) (μ 122) (μ 117) k else μ 119 k)) 117 (nI i - 24)).bind fun x16 => some x16) else (ald Zc (u1 μ 119 (fun k => if k < i then stdR (μ 106 31) (μ 122) (μ 117) k else μ 119 k)) 122 (nI i)).bind fun x18 => some x18) = some (stdR (μ 106 31) (μ 122) (μ 117) i) := by
      rw [e31, q_in, Int32.toInt_toInt64, ti_n (by omega), show (24 : Int64).toInt = 24 from rfl, show (35 : Int64).toInt = 35 from rfl, ob_s, al_122 (by omega), ob_s]
      unfold stdR
      by_cases h0 : μ 106 31 = 0
      · rw [if_pos h0, if_pos h0]
        by_cases h24 : 24 ≤ i ∧ i < 36
        · rw [bI_t (by omega), if_neg (by decide), x_sl (by omega), al_117 (by omega), ob_s]
          simp [h24, u1_r]
        · rw [bI_f (by omega), if_pos rfl]
          simp [h24]
      · rw [if_neg h0, if_neg h0]
        rfl
    rw [hz]
    simp (disch := omega) only [zA, zD, zE, ob_s, x_lt, x_ltl, x_llt, x_le, x_lel, x_lle, x_eq, x_eql, x_eqm, x_al, x_la, x_a, x_ml, x_lm, x_m, x_cl, if_true, if_false, jn, x_d4, x_d2, bz_b, bz_0, bz_1, and_self, not_true_eq_false, not_false_eq_true, true_and, and_true]
    refine ok_s (Or.inl ⟨_, rfl, ?_⟩)
    funext k j
    simp only [u1_r, u2_r]
    by_cases h : k = 119
    · subst h
      by_cases hj : j = i
      · subst hj; simp
      · have : (j < i + 1) = (j < i) := by apply propext; omega
        simp [hj, this]
    · simp [h]
  · rintro ν rfl
    simp (disch := omega) only [x_lle, Nat.le_refl, if_true]
    exact ok_s ⟨_, rfl, ok_s rfl⟩
