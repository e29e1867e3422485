/-! ===== the reference's run ===== -/
def NowIs (ν : MT) (x : RS) : Prop := (∀ k, k < 48 → ν 119 k = x.1 k) ∧ (∀ c, c < 12 → ν 120 c = x.2.1 c) ∧ (∀ c, c < 12 → ν 121 c = x.2.2.1 c) ∧ ν 106 35 = x.2.2.2
def FrR (μ ν : MT) : Prop := (∀ k, k ≠ 106 → k ≠ 119 → k ≠ 120 → k ≠ 121 → ν k = μ k) ∧ (∀ j, j ≠ 35 → ν 106 j = μ 106 j)
theorem FrR.refl (μ : MT) : FrR μ μ := ⟨fun _ _ _ _ _ => rfl, fun _ _ => rfl⟩
theorem FrR.trans {μ ν ω : MT} (h : FrR μ ν) (h2 : FrR ν ω) : FrR μ ω := ⟨fun k a b c d => (h2.1 k a b c d).trans (h.1 k a b c d), fun j a => (h2.2 j a).trans (h.2 j a)⟩
theorem FrR.w {μ ν : MT} (h : FrR μ ν) {k j : Nat} {v : Int32} (hk : k = 119 ∨ k = 120 ∨ k = 121) : FrR μ (u2 ν k j v) := ⟨fun q a b c d => by rw [u2_w, if_neg (by omega)]; exact h.1 q a b c d, fun i a => by rw [u2_r, if_neg (by omega)]; exact h.2 i a⟩
theorem FrR.w35 {μ ν : MT} (h : FrR μ ν) {v : Int32} : FrR μ (u2 ν 106 35 v) := ⟨fun q a b c d => by rw [u2_w, if_neg (by omega)]; exact h.1 q a b c d, fun i a => by rw [u2_r, if_neg (by omega)]; exact h.2 i a⟩
theorem le0 {x : Int32} : (x ≤ 0) ↔ ¬ 0 < x := by rw [fa_le, fa_lt]; omega
theorem r_minute {μ : MT} {x : RS} {nc : Nat} (h : NowIs μ x) (e : μ 106 5 = nI nc) (hc : nc ≤ 12) : Ok (m_X9_minute Zc 106 μ) (fun ν => NowIs ν (minA nc x) ∧ FrR μ ν) := by
  obtain ⟨h1, h2, h3, h4⟩ := h
  unfold m_X9_minute
  simp only [zA]
  refine ok_for (fun i ν => FrR μ ν ∧ ν 120 = μ 120 ∧ ν 121 = μ 121 ∧ ν 106 35 = μ 106 35 ∧ ∀ k, k < 48 → ν 119 k = if k < i then 3 * x.1 k / 4 else x.1 k) 0 nc (by omega) (by omega) rfl ⟨FrR.refl μ, rfl, rfl, rfl, fun k hk => by simpa using h1 k hk⟩ ?_ ?_
  · rintro i ν _ hi ⟨f, g1, g2, g3, g4⟩
    simp (disch := omega) only [f.2, e, zA, zD, zE, ob_s, x_lt, x_ltl, x_llt, x_le, x_lel, x_lle, x_eq, x_eql, x_eqm, x_al, x_la, x_a, x_ml, x_lm, x_m, x_cl, if_true, if_false, jn, x_d4, x_d2, bz_b, bz_0, bz_1, and_self, not_true_eq_false, not_false_eq_true, true_and, and_true, show ¬ nc ≤ i by omega, n0]
    refine ok_s (Or.inl ⟨_, rfl, f.w (Or.inl rfl), ?_, ?_, ?_, ?_⟩)
    · simp [u2_w, g1]
    · simp [u2_w, g2]
    · simp [u2_r, g3]
    · intro k hk
      rw [u2_r]
      by_cases hki : k = i
      · subst hki
        have := g4 k hk
        rw [if_neg (by omega)] at this
        simp [this]
      · have := g4 k hk
        rw [if_neg (by omega)]
        rw [this]
        by_cases hlt : k < i
        · rw [if_pos hlt, if_pos (by omega)]
        · rw [if_neg hlt, if_neg (by omega)]
  · rintro ν ⟨f, g1, g2, g3, g4⟩
    simp (disch := omega) only [f.2, e, zA, zD, zE, ob_s, x_lt, x_ltl, x_llt, x_le, x_lel, x_lle, x_eq, x_eql, x_eqm, x_al, x_la, x_a, x_ml, x_lm, x_m, x_cl, if_true, if_false, jn, x_d4, x_d2, bz_b, bz_0, bz_1, and_self, not_true_eq_false, not_false_eq_true, true_and, and_true, Nat.le_refl]
    refine ok_s ⟨_, rfl, ok_s ⟨⟨?_, ?_, ?_, ?_⟩, f.w35⟩⟩
    · intro k hk
      rw [u2_r, if_neg (by omega), g4 k hk]
      rfl
    · intro c hc
      rw [u2_r, if_neg (by omega), g1]
      exact h2 c hc
    · intro c hc
      rw [u2_r, if_neg (by omega), g2]
      exact h3 c hc
    · rw [u2_r, if_pos ⟨rfl, rfl⟩, g3, h4]
      rfl
theorem r_holds {μ : MT} {x : RS} {nc k : Nat} (h : NowIs μ x) (e : μ 106 5 = nI nc) (hc : nc ≤ 12) (hk : k ≤ 12) : m_X9_holds Zc 106 (nI k) μ = some (bI (hoA nc x.1 k = true)) := by
  unfold m_X9_holds
  rw [q_isCell e (by omega), ob_s, ti_n (by omega)]
  by_cases h1 : k < nc
  · rw [bI_t (by omega), if_neg (by decide)]
    unfold hoA bI
    simp (disch := omega) only [zA, zD, zE, ob_s, x_lt, x_ltl, x_llt, x_le, x_lel, x_lle, x_eq, x_eql, x_eqm, x_al, x_la, x_a, x_ml, x_lm, x_m, x_cl, if_true, if_false, jn, x_d4, x_d2, bz_b, bz_0, bz_1, and_self, not_true_eq_false, not_false_eq_true, true_and, and_true]
    rw [h.1 _ (by omega)]
    simp only [le0]
    by_cases h2 : 0 < x.1 (12 + k)
    · simp [h1, h2]
    · simp [h1, h2]
  · rw [bI_f (by omega), if_pos rfl]
    unfold hoA bI
    simp [h1]
theorem r_holdm {μ : MT} {x : RS} {nc c : Nat} (h : NowIs μ x) (e : μ 106 5 = nI nc) (hc : nc ≤ 12) (hk : c < 12) : m_X9_holds Zc 106 (nI c - 1) μ = some (bI (1 ≤ c ∧ hoA nc x.1 (c - 1) = true)) := by
  by_cases h0 : c = 0
  · subst h0
    unfold m_X9_holds
    rw [q_isCell e (by omega), ob_s, bI_f (by rw [show (nI 0 - 1 : Int32).toInt = -1 from rfl]; omega), if_pos rfl, bI_f (by omega)]
  · rw [x_sl (by omega), r_holds h e hc (by omega)]
    unfold bI
    by_cases h2 : hoA nc x.1 (c - 1) = true
    · rw [if_pos h2, if_pos ⟨by omega, h2⟩]
    · rw [if_neg h2, if_neg (fun hh => h2 hh.2)]
theorem r_shr {μ : MT} {x : RS} {nc kd c : Nat} {p : Int32} (h : NowIs μ x) (e : μ 106 5 = nI nc) (hc : nc ≤ 12) (hcc : c < nc) (hk : 1 ≤ kd) (hk2 : kd ≤ 7) : m_X9_shrinks Zc 106 (nI kd) (nI c) p μ = some (shA nc x.1 kd c p) := by
  unfold m_X9_shrinks
  rw [n1, r_holds h e hc (by omega), r_holdm h e hc (by omega), r_holds h e hc (by omega)]
  simp (disch := omega) only [zA, zD, zE, ob_s, x_lt, x_ltl, x_llt, x_le, x_lel, x_lle, x_eq, x_eql, x_eqm, x_al, x_la, x_a, x_ml, x_lm, x_m, x_cl, if_true, if_false, jn, x_d4, x_d2, bz_b, bz_0, bz_1, and_self, not_true_eq_false, not_false_eq_true, true_and, and_true, bI_0]
  rw [h.1 _ (by omega)]
  unfold shA
  simp only [le0]
  have hz : (if ¬ hoA nc x.1 (c + 1) = true then some (0 : Int32) else some 1) = some (if hoA nc x.1 (c + 1) = true then 1 else 0) := by
    by_cases h1 : hoA nc x.1 (c + 1) = true <;> simp [h1]
  rw [hz, ob_s]
  rcases (by omega : kd = 1 ∨ kd = 2 ∨ kd = 3 ∨ kd = 4 ∨ kd = 5 ∨ kd = 6 ∨ kd = 7) with rfl | rfl | rfl | rfl | rfl | rfl | rfl
  · simp
  · simp
  · simp
  · simp only [if_false, if_true, Nat.reduceEqDiff]
    by_cases h1 : 1 ≤ c ∧ hoA nc x.1 (c - 1) = true
    · simp [h1, jn]
    · by_cases h2 : hoA nc x.1 (c + 1) = true
      · simp [h1, h2, jn]
      · simp [h1, h2, jn]
  · simp only [if_false, if_true, Nat.reduceEqDiff]
    by_cases h1 : hoA nc x.1 c = true
    · simp [h1]
    · simp [h1]
  · simp
  · simp only [if_false, if_true, Nat.reduceEqDiff]
    by_cases h1 : 0 < x.1 (24 + c)
    · simp [h1]
    · simp [h1]
theorem r_free {μ : MT} {x : RS} {nc c : Nat} (h : NowIs μ x) (hc : nc ≤ 12) (hcc : c < nc) : Ok (m_X9_free Zc 106 (nI c) μ) (fun ν => NowIs ν (frA c x) ∧ FrR μ ν) := by
  obtain ⟨h1, h2, h3, h4⟩ := h
  unfold m_X9_free frA
  simp (disch := omega) only [zA, zD, zE, ob_s, x_lt, x_ltl, x_llt, x_le, x_lel, x_lle, x_eq, x_eql, x_eqm, x_al, x_la, x_a, x_ml, x_lm, x_m, x_cl, if_true, if_false, jn, x_d4, x_d2, bz_b, bz_0, bz_1, and_self, not_true_eq_false, not_false_eq_true, true_and, and_true]
  rw [h3 c (by omega)]
  by_cases h0 : x.2.2.1 c = 0
  · rw [if_pos h0, if_pos h0]
    exact ok_s ⟨⟨h1, h2, h3, h4⟩, FrR.refl μ⟩
  · rw [if_neg h0, if_neg h0]
    have e1 : ∀ v, u2 μ 121 c v 119 = μ 119 := fun v => rfl
    have e2 : ∀ v, u2 μ 121 c v 120 = μ 120 := fun v => rfl
    rw [e1, e2, h1 _ (by omega), h2 _ (by omega)]
    refine ok_s ⟨⟨?_, ?_, ?_, ?_⟩, (((FrR.refl μ).w (by omega)).w (by omega)).w (by omega)⟩
    · intro k hk
      have := h1 k hk
      simp only [u2_r, upd]
      grind
    · intro k hk
      have := h2 k hk
      simp only [u2_r, upd]
      grind
    · intro k hk
      have := h3 k hk
      have e0 : vp_nar .boolean 0 = 0 := rfl
      simp only [u2_r, upd, e0]
      grind
    · simp only [u2_r]
      simpa using h4
theorem r_step {μ : MT} {x : RS} {nc kd c g : Nat} {p : Int32} (h : NowIs μ x) (e : μ 106 5 = nI nc) (hc : nc ≤ 12) (hcc : c < nc) (hk : 1 ≤ kd) (hk2 : kd ≤ 7) (hg : x.1 (12 + c) = nI g) (hg2 : g < 100000) : Ok (m_X9_step Zc 106 (nI kd) (nI c) p μ) (fun ν => NowIs ν (stA nc kd c p x) ∧ FrR μ ν) := by
  have hsh := r_shr (p := p) h e hc hcc hk hk2
  obtain ⟨h1, h2, h3, h4⟩ := h
  unfold m_X9_step
  rw [hsh, ob_s]
  have hz : ¬ (8 + nI g : Int32) = 0 := by
    rw [x_la, x_eql (by omega) (by omega)]; omega
  simp (disch := omega) only [zA, zD, zE, ob_s, x_lt, x_ltl, x_llt, x_le, x_lel, x_lle, x_eq, x_eql, x_eqm, x_al, x_la, x_a, x_ml, x_lm, x_m, x_cl, if_true, if_false, jn, x_d4, x_d2, bz_b, bz_0, bz_1, and_self, not_true_eq_false, not_false_eq_true, true_and, and_true, n0, Nat.zero_add]
  rw [h1 _ (by omega), hg, x_dv hz, ob_s, h1 c (by omega)]
  have he : (if x.1 c < 100 then some (8 * shA nc x.1 kd c p / (8 + nI g)) else some (8 * shA nc x.1 kd c p / (8 + nI g) / 2)) = some (efA nc x.1 kd c p) := by
    unfold efA
    rw [hg]
    by_cases h100 : x.1 c < 100
    · rw [if_pos h100, if_neg (by rw [fa_le]; rw [fa_lt] at h100; omega)]
    · rw [if_neg h100, if_pos (by rw [fa_le]; rw [fa_lt] at h100; omega)]
  rw [he, ob_s, h3 c (by omega), h1 (24 + c) (by omega), h2 c (by omega)]
  generalize hee : efA nc x.1 kd c p = ef
  have hm : Ok (if x.2.2.1 c = 0 then some (u2 μ 119 (24 + c) (x.1 (24 + c) + ef)) else some (u2 μ 120 c (x.2.1 c + ef))) (fun ν => FrR μ ν ∧ (∀ k, k < 48 → ν 119 k = if k = 24 + c then (if x.2.2.1 c = 0 then x.1 k + ef else x.1 k) else x.1 k) ∧ (∀ k, k < 12 → ν 120 k = (if x.2.2.1 c = 0 then x.2.1 else upd x.2.1 c (x.2.1 c + ef)) k) ∧ ν 121 = μ 121 ∧ ν 106 35 = μ 106 35) := by
    by_cases h0 : x.2.2.1 c = 0
    · rw [if_pos h0, if_pos h0]
      refine ok_s ⟨(FrR.refl μ).w (by omega), ?_, ?_, ?_, ?_⟩
      · intro k hk
        have := h1 k hk
        simp only [u2_r, h0]
        grind
      · intro k hk
        have := h2 k hk
        simp only [u2_r]
        grind
      · simp [u2_w]
      · simp [u2_r]
    · rw [if_neg h0, if_neg h0]
      refine ok_s ⟨(FrR.refl μ).w (by omega), ?_, ?_, ?_, ?_⟩
      · intro k hk
        have := h1 k hk
        simp only [u2_r, h0]
        grind
      · intro k hk
        have := h2 k hk
        simp only [u2_r, upd]
        grind
      · simp [u2_w]
      · simp [u2_r]
  refine ok_b hm ?_
  rintro ν1 ⟨f1, n1', n2', n3', n4'⟩
  refine ok_for (fun i ν => FrR μ ν ∧ ν 120 = ν1 120 ∧ ν 121 = ν1 121 ∧ ν 106 35 = ν1 106 35 ∧ ∀ k, k < 48 → ν 119 k = if 36 ≤ k ∧ k < 36 + i then ν1 119 k + (if k = 36 + c then ef * (nI nc - 1) else -ef) else ν1 119 k) 0 nc (by omega) (by omega) rfl ⟨f1, rfl, rfl, rfl, fun k hk => by rw [if_neg (by omega)]⟩ ?_ ?_
  · rintro i ν _ hi ⟨f, g1, g2, g3, g4⟩
    simp (disch := omega) only [f.2, e, zA, zD, zE, ob_s, x_lt, x_ltl, x_llt, x_le, x_lel, x_lle, x_eq, x_eql, x_eqm, x_al, x_la, x_a, x_ml, x_lm, x_m, x_cl, if_true, if_false, jn, x_d4, x_d2, bz_b, bz_0, bz_1, and_self, not_true_eq_false, not_false_eq_true, true_and, and_true, show ¬ nc ≤ i by omega]
    have hx : ν 119 (36 + i) = ν1 119 (36 + i) := by rw [g4 _ (by omega), if_neg (by omega)]
    rw [hx]
    have hy : (if i = c then some (ef * (nI nc - 1)) else some (-ef)) = some (if i = c then ef * (nI nc - 1) else -ef) := by
      by_cases hic : i = c <;> simp [hic]
    rw [hy, ob_s]
    refine ok_s (Or.inl ⟨_, rfl, f.w (Or.inl rfl), ?_, ?_, ?_, ?_⟩)
    · simp [u2_w, g1]
    · simp [u2_w, g2]
    · simp [u2_r, g3]
    · intro k hk
      rw [u2_r]
      have := g4 k hk
      by_cases hki : k = 36 + i
      · subst hki
        by_cases hic : i = c
        · rw [if_pos ⟨rfl, rfl⟩, if_pos hic, if_pos (by omega), if_pos (by omega)]
        · rw [if_pos ⟨rfl, rfl⟩, if_neg hic, if_pos (by omega), if_neg (by omega)]
      · rw [if_neg (by omega), this]
        by_cases hlt : 36 ≤ k ∧ k < 36 + i
        · have h5 : 36 ≤ k ∧ k < 36 + (i + 1) := by omega
          rw [if_pos hlt, if_pos h5]
        · have h5 : ¬ (36 ≤ k ∧ k < 36 + (i + 1)) := by omega
          rw [if_neg hlt, if_neg h5]
  · rintro ν ⟨f, g1, g2, g3, g4⟩
    simp (disch := omega) only [f.2, e, zA, zD, zE, ob_s, x_lt, x_ltl, x_llt, x_le, x_lel, x_lle, x_eq, x_eql, x_eqm, x_al, x_la, x_a, x_ml, x_lm, x_m, x_cl, if_true, if_false, jn, x_d4, x_d2, bz_b, bz_0, bz_1, and_self, not_true_eq_false, not_false_eq_true, true_and, and_true, Nat.le_refl, n0, Nat.zero_add]
    refine ok_s ⟨_, rfl, ?_⟩
    have he1 : (if kd = 1 then some p else if kd = 7 then some (6 * p) else some (4 * p)) = some (heA kd p) := by
      unfold heA
      by_cases k1 : kd = 1
      · simp [k1]
      · by_cases k7 : kd = 7 <;> simp [k1, k7]
    rw [he1, ob_s]
    have he2 : (if kd = 7 then some 0 else ((if kd = 1 then some (Sum.inr ()) else if kd = 5 then some (Sum.inr ()) else some (Sum.inl 2) : Option (Int32 ⊕ Unit))).bind (jn fun (_ : Unit) => some (1 : Int32))) = some (hdA kd) := by
      unfold hdA
      by_cases k7 : kd = 7
      · simp [k7]
      · by_cases k1 : kd = 1
        · simp [k1, jn]
        · by_cases k5 : kd = 5 <;> simp [k7, k1, k5, jn]
    rw [he2, ob_s]
    have hN : NowIs (u2 (u2 ν 119 c (ν 119 c + heA kd p)) 119 (12 + c) (u2 ν 119 c (ν 119 c + heA kd p) 119 (12 + c) + hdA kd)) (fun k =>
      if k = c then x.1 k + heA kd p
      else if k = 12 + c then x.1 k + hdA kd
      else if k = 24 + c then (if x.2.2.1 c = 0 then x.1 k + ef else x.1 k)
      else if 36 ≤ k ∧ k < 36 + nc then x.1 k + (if k = 36 + c then ef * (nI nc - 1) else -ef)
      else x.1 k,
      if x.2.2.1 c = 0 then x.2.1 else upd x.2.1 c (x.2.1 c + ef), x.2.2.1, x.2.2.2) := by
      refine ⟨?_, ?_, ?_, ?_⟩
      · intro k hk
        have a1 := g4 k hk
        have a2 := n1' k hk
        have b1 := g4 c (by omega)
        have b2 := n1' c (by omega)
        have c1 := g4 (12 + c) (by omega)
        have c2 := n1' (12 + c) (by omega)
        rw [if_neg (by omega)] at b1 b2 c1 c2
        rw [a2] at a1
        rw [b2] at b1
        rw [c2] at c1
        simp only [u2_r]
        by_cases k1 : k = 12 + c
        · subst k1
          simp [c1]
        · by_cases k2 : k = c
          · subst k2
            simp [b1]
          · by_cases k3 : k = 24 + c
            · subst k3
              rw [if_neg (by omega), if_pos rfl] at a1
              simp [a1]
            · rw [if_neg k3] at a1
              simp [k1, k2, k3, a1]
      · intro k hk
        simp only [u2_r]
        have := n2' k hk
        simp [g1, this]
      · intro k hk
        simp only [u2_r]
        have := h3 k hk
        simp [g2, n3', this]
      · simp only [u2_r]
        simp [g3, n4', h4]
    have hf : FrR μ (u2 (u2 ν 119 c (ν 119 c + heA kd p)) 119 (12 + c) (u2 ν 119 c (ν 119 c + heA kd p) 119 (12 + c) + hdA kd)) := (f.w (by omega)).w (by omega)
    refine ok_b (r_minute hN (by rw [hf.2 5 (by omega)]; exact e) hc) ?_
    rintro ν2 ⟨m1, m2⟩
    refine ok_s ⟨?_, hf.trans m2⟩
    unfold stA
    rw [hee]
    exact m1
