theorem p_doStep {μ : MT} {b nc kd c q m : Nat} {x : RS} (hb : isPn b) (h : PIs μ b nc x) (hbd : Bd nc m x) (hm : m < 1000) (hc : nc ≤ 12) (hcc : c < nc) (hk : kd ≤ 6) (h1 : 1 ≤ q) (h2 : q ≤ 20) : Ok (m_X2_doStep Zc b (nI kd) (nI c) (nI q) μ) (fun ν => PIs ν b nc (stA nc (kd + 1) c (nI q) x) ∧ FrP b μ ν) := by
  have hcool := p_cool hb h hc hcc
  obtain ⟨h7, h8, ⟨w, hw, hwl, hh⟩, h9⟩ := h
  obtain ⟨⟨w', hw', hwb⟩, hbc⟩ := hbd
  have hww : w ≤ 30 * m := by
    rw [hw'] at hw
    by_cases hwx : w' = w
    · omega
    · exact absurd ((nI_inj (by omega) (by omega)).mp hw) hwx
  obtain ⟨⟨hv, bv1, bv2⟩, ⟨g, bg1, bg2⟩, bb, bcl⟩ := hbc c hcc
  unfold m_X2_doStep
  rw [p_has h7 hc hcc, ob_s, if_neg (by decide), hcool, ob_s]
  have r0 : u2 (u2 μ (b + 1) c (x.1 c)) (b + 2) c x.2.2.2 b = μ b := by simp [u2_w]
  have r1 : ∀ j, u2 (u2 μ (b + 1) c (x.1 c)) (b + 2) c x.2.2.2 (b + 1) j = if j = c then x.1 c else μ (b + 1) j := fun j => by simp [u2_r]
  have r2 : ∀ j, u2 (u2 μ (b + 1) c (x.1 c)) (b + 2) c x.2.2.2 (b + 2) j = if j = c then x.2.2.2 else μ (b + 2) j := fun j => by simp [u2_r]
  have r3 : u2 (u2 μ (b + 1) c (x.1 c)) (b + 2) c x.2.2.2 (b + 3) = μ (b + 3) := by simp [u2_w]
  have r4 : u2 (u2 μ (b + 1) c (x.1 c)) (b + 2) c x.2.2.2 (b + 4) = μ (b + 4) := by simp [u2_w]
  have r5 : u2 (u2 μ (b + 1) c (x.1 c)) (b + 2) c x.2.2.2 (b + 5) = μ (b + 5) := by simp [u2_w]
  have r6 : u2 (u2 μ (b + 1) c (x.1 c)) (b + 2) c x.2.2.2 (b + 6) = μ (b + 6) := by simp [u2_w]
  have rf : FrP b μ (u2 (u2 μ (b + 1) c (x.1 c)) (b + 2) c x.2.2.2) := ((FrP.refl b μ).w (by omega)).w (by omega)
  generalize u2 (u2 μ (b + 1) c (x.1 c)) (b + 2) c x.2.2.2 = ν2 at r0 r1 r2 r3 r4 r5 r6 rf ⊢
  have g3 : ∀ c, c < nc → ν2 (b + 3) c = x.1 (12 + c) := fun c hc => by rw [r3]; exact (h9 c hc).1
  have g4 : ∀ c, c < nc → ν2 (b + 4) c = x.1 (24 + c) := fun c hc => by rw [r4]; exact (h9 c hc).2.1
  rw [p_shr hb (by rw [r0]; exact h7) g3 g4 hc hcc hk, ob_s, p_eff hb (g3 c hcc) (by rw [r1, if_pos rfl]) bg1 (by omega) (by omega), ob_s, p_clm (by omega), ob_s, r0]
  generalize hee : efA nc x.1 (kd + 1) c (nI q) = ef
  have hcb := (h9 c hcc).2.2.2.2
  have hm3 : Ok (if bI (bt (μ b 6) c = true) = 0 then (ald Zc ν2 (zr Zc b 3) (nI c)).bind fun x23 => (ast Zc ν2 (zr Zc b 3) (nI c) (x23 + ef)).bind fun ν24 => some ν24 else (ald Zc ν2 (zr Zc b 4) (nI c)).bind fun x26 => (ast Zc ν2 (zr Zc b 4) (nI c) (x26 + ef)).bind fun ν27 => some ν27)
      (fun ν => ν b = μ b ∧ ν (b + 1) = ν2 (b + 1) ∧ ν (b + 2) = ν2 (b + 2) ∧ ν (b + 3) = μ (b + 3) ∧ ν (b + 6) = μ (b + 6) ∧ (∀ j, ν (b + 4) j = if j = c ∧ x.2.2.1 c = 0 then μ (b + 4) j + ef else μ (b + 4) j) ∧ (∀ j, ν (b + 5) j = if j = c ∧ ¬ x.2.2.1 c = 0 then μ (b + 5) j + ef else μ (b + 5) j) ∧ FrP b μ ν) := by
    by_cases h0 : x.2.2.1 c = 0
    · have hbt : ¬ bt (μ b 6) c = true := fun hq => by
        have := hcb.1.mp hq
        rw [h0] at this
        exact absurd this (by decide)
      rw [bI_f hbt, if_pos rfl, zp_3 hb, al_P hb (by omega) (by omega) (by omega), ob_s, as_P hb (by omega) (by omega) (by omega), ob_s]
      refine ok_s ⟨?_, ?_, ?_, ?_, ?_, ?_, ?_, rf.w (by omega)⟩
      · simp [u2_w, r0]
      · simp [u2_w]
      · simp [u2_w]
      · simp [u2_w, r3]
      · simp [u2_w, r6]
      · intro j
        rw [u2_r, r4]
        by_cases hj : j = c
        · subst hj; simp [h0]
        · simp [hj]
      · intro j
        rw [u2_r, r5]
        simp [h0]
    · have hbt : bt (μ b 6) c = true := hcb.1.mpr (hcb.2.resolve_left h0)
      rw [bI_t hbt, if_neg (by decide), zp_4 hb, al_P hb (by omega) (by omega) (by omega), ob_s, as_P hb (by omega) (by omega) (by omega), ob_s]
      refine ok_s ⟨?_, ?_, ?_, ?_, ?_, ?_, ?_, rf.w (by omega)⟩
      · simp [u2_w, r0]
      · simp [u2_w]
      · simp [u2_w]
      · simp [u2_w, r3]
      · simp [u2_w, r6]
      · intro j
        rw [u2_r, r4]
        simp [h0]
      · intro j
        rw [u2_r, r5]
        by_cases hj : j = c
        · subst hj; simp [h0]
        · simp [hj]
  refine ok_b hm3 ?_
  rintro ν3 ⟨s0, s1, s2, s3, s6, s4, s5, sf⟩
  rw [zp_5 hb, zp_0 hb, zp_2 hb, al_P hb (by omega) (by omega) (by omega), ob_s, as_P hb (by omega) (by omega) (by omega), ob_s, ob_s, al_P hb (by omega) (by omega) (by omega), ob_s, (p_hos (q := nI q) hk).1, ob_s, as_P hb (by omega) (by omega) (by omega), ob_s, al_P hb (by omega) (by omega) (by omega), ob_s, (p_hos (q := nI q) hk).2, ob_s, as_P hb (by omega) (by omega) (by omega), ob_s, ob_s]
  refine ok_s ⟨?_, (((((sf.w (by omega)).w (by omega)).w (by omega)).w (by omega)).w (by omega))⟩
  have t1 : ∀ j, ν3 (b + 1) j = if j = c then x.1 c else μ (b + 1) j := fun j => by rw [s1]; exact r1 j
  have t2 : ∀ j, ν3 (b + 2) j = if j = c then x.2.2.2 else μ (b + 2) j := fun j => by rw [s2]; exact r2 j
  obtain ⟨e, he1, he2⟩ := hea_n (kd := kd + 1) h2
  refine ⟨?_, ?_, ⟨w + 1, ?_, by omega, ?_⟩, ?_⟩
  · simp [u2_r, s0, h7]
  · simp [u2_r, s0, h8, stA, minA]
  · simp only [stA, minA]
    rw [hw, x_al]
  · intro c' hc'
    by_cases hcc' : c' = c
    · subst hcc'
      refine ⟨hv + e, w, ?_, by omega, ?_, by omega, ?_⟩
      · simp [u2_r, t1, bv1, he1, x_a]
      · simp [u2_r, t2, hw]
      · simp only [stA, minA]
        rw [if_pos hc', if_pos trivial, bv1, he1, x_a, (cool_n (by omega)).1, show w + 1 - w = 1 by omega]
        rfl
    · obtain ⟨h', t', a1, a2, a3, a4, a5⟩ := hh c' hc'
      refine ⟨h', t', ?_, a2, ?_, by omega, ?_⟩
      · simp [u2_r, t1, hcc', a1]
      · simp [u2_r, t2, hcc', a3]
      · have := coolN_le (w - t') h'
        simp only [stA, minA]
        rw [if_pos hc', if_neg hcc', if_neg (by omega), if_neg (by omega), if_neg (by omega), a5, (cool_n (by omega)).1, show w + 1 - t' = (w - t') + 1 by omega, coolN_s]
  · intro c' hc'
    obtain ⟨a1, a2, a3, a4, a5, a6⟩ := h9 c' hc'
    refine ⟨?_, ?_, ?_, ?_, ?_, a6⟩
    · by_cases hcc' : c' = c
      · subst hcc'
        simp only [stA, minA]
        rw [if_neg (by omega), if_neg (by omega), if_pos trivial]
        simp [u2_r, s3, a1]
      · simp only [stA, minA]
        rw [if_neg (by omega), if_neg (by omega), if_neg (by omega), if_neg (by omega), if_neg (by omega)]
        simp [u2_r, s3, a1, hcc']
    · have hb1 : (stA nc (kd + 1) c (nI q) x).1 (24 + c') = if c' = c ∧ x.2.2.1 c = 0 then x.1 (24 + c') + ef else x.1 (24 + c') := by
        simp only [stA, minA, hee]
        by_cases hcc' : c' = c
        · subst hcc'
          rw [if_neg (by omega), if_neg (by omega), if_neg (by omega), if_pos rfl]
          simp
        · rw [if_neg (by omega), if_neg (by omega), if_neg (by omega), if_neg (by omega), if_neg (by omega)]
          simp [hcc']
      rw [hb1]
      simp [u2_r, s4, a2]
    · have hb1 : (stA nc (kd + 1) c (nI q) x).2.1 c' = if c' = c ∧ ¬ x.2.2.1 c = 0 then x.2.1 c' + ef else x.2.1 c' := by
        simp only [stA, minA, hee]
        by_cases h0 : x.2.2.1 c = 0
        · simp [h0]
        · by_cases hcc' : c' = c
          · subst hcc'
            simp [h0, upd]
          · simp [h0, upd, hcc']
      rw [hb1]
      simp [u2_r, s5, a3]
    · by_cases hcc' : c' = c
      · subst hcc'
        simp only [stA, minA, hee]
        rw [if_neg (by omega), if_neg (by omega), if_neg (by omega), if_neg (by omega), if_pos (by omega), if_pos trivial, a4]
        simp [u2_r, s6, s0]
        grind
      · simp only [stA, minA, hee]
        rw [if_neg (by omega), if_neg (by omega), if_neg (by omega), if_neg (by omega), if_pos (by omega), if_neg (by omega), a4]
        simp [u2_r, s6, s0, hcc']
        grind
    · simp only [stA, minA]
      simp [u2_r, s0]
      exact a5
theorem u2_3 {μ : MT} {b c : Nat} {V A B : Int32} : u2 (u2 (u2 μ b 6 V) (b + 4) c A) (b + 5) c B b 6 = V := by simp [u2_r]
theorem p_free {μ : MT} {b nc c : Nat} {x : RS} (hb : isPn b) (h : PIs μ b nc x) (hc : nc ≤ 12) (hcc : c < nc) : Ok (m_X2_freeOne Zc b (nI c) μ) (fun ν => PIs ν b nc (frA c x) ∧ FrP b μ ν) := by
  obtain ⟨h7, h8, hh, h9⟩ := id h
  have hcb := (h9 c hcc).2.2.2.2
  unfold m_X2_freeOne frA
  rw [p_has h7 hc hcc, ob_s, if_neg (by decide), p_clm (by omega), ob_s]
  by_cases h0 : x.2.2.1 c = 0
  · have hbt : ¬ bt (μ b 6) c = true := fun hq => by
      have := hcb.1.mp hq
      rw [h0] at this
      exact absurd this (by decide)
    rw [bI_f hbt, if_pos rfl, if_pos h0]
    exact ok_s ⟨h, FrP.refl b μ⟩
  · have hbt : bt (μ b 6) c = true := hcb.1.mpr (hcb.2.resolve_left h0)
    rw [bI_t hbt, if_neg (by decide), if_neg h0, ob_s, zp_3 hb, zp_4 hb, al_P hb (by omega) (by omega) (by omega), ob_s, al_P hb (by omega) (by omega) (by omega), ob_s, x_d2, ob_s, as_P hb (by omega) (by omega) (by omega), ob_s, as_P hb (by omega) (by omega) (by omega), ob_s]
    refine ok_s ⟨⟨?_, ?_, ?_, ?_⟩, (((FrP.refl b μ).w (by omega)).w (by omega)).w (by omega)⟩
    · simp [u2_r, h7]
    · simp [u2_r, h8]
    · obtain ⟨w, hw, hwl, hh⟩ := hh
      refine ⟨w, hw, hwl, fun c' hc' => ?_⟩
      obtain ⟨h', t', a1, a2, a3, a4, a5⟩ := hh c' hc'
      refine ⟨h', t', ?_, a2, ?_, a4, ?_⟩
      · simp [u2_r, a1]
      · simp [u2_r, a3]
      · simp only [upd]
        rw [if_neg (by omega)]
        exact a5
    · intro c' hc'
      obtain ⟨a1, a2, a3, a4, a5, a6⟩ := h9 c' hc'
      by_cases hcc' : c' = c
      · subst hcc'
        refine ⟨?_, ?_, ?_, ?_, ?_, ?_⟩
        · simp only [upd]
          rw [if_neg (by omega)]
          simp [u2_r, a1]
        · simp [u2_r, upd, a2, a3]
        · simp [u2_r, upd]
        · simp only [upd]
          rw [if_neg (by omega)]
          simp [u2_r, a4]
        · have := b_clr (μ b 6) (c := c') (i := c') (by omega) (by omega)
          rw [u2_3, this]
          simp [upd]
        · simp [upd]
      · refine ⟨?_, ?_, ?_, ?_, ?_, ?_⟩
        · simp only [upd]
          rw [if_neg (by omega)]
          simp [u2_r, a1]
        · simp only [upd]
          rw [if_neg (by omega)]
          simp [u2_r, a2, hcc']
        · simp [u2_r, upd, a3, hcc']
        · simp only [upd]
          rw [if_neg (by omega)]
          simp [u2_r, a4]
        · have := b_clr (μ b 6) (c := c) (i := c') (by omega) (by omega)
          rw [u2_3, this]
          simp [upd, hcc', a5]
        · simp [upd, hcc', a6]
theorem p_freeAll {μ : MT} {b nc : Nat} {x : RS} (hb : isPn b) (h : PIs μ b nc x) (hc : nc ≤ 12) : Ok (m_X2_freeAll Zc b μ) (fun ν => PIs ν b nc (frsA nc x) ∧ FrP b μ ν) := by
  unfold m_X2_freeAll
  refine ok_for (fun i ν => FrP b μ ν ∧ PIs ν b nc ((List.range i).foldl (fun x c => frA c x) x)) 0 nc (by omega) (by omega) rfl ⟨FrP.refl b μ, h⟩ ?_ ?_
  · rintro i ν _ hi ⟨f, g⟩
    have e7 : ν b 7 = nI nc := g.1
    simp (disch := omega) only [e7, x_le, show ¬ nc ≤ i by omega, if_false]
    refine ok_b (p_free hb g hc hi) ?_
    rintro ν3 ⟨t1, t2⟩
    simp only [ob_s, n1]
    refine ok_s (Or.inl ⟨_, rfl, f.trans t2, ?_⟩)
    rw [List.range_succ, List.foldl_append]
    exact t1
  · rintro ν ⟨f, g⟩
    have e7 : ν b 7 = nI nc := g.1
    simp (disch := omega) only [e7, x_le, Nat.le_refl, if_true]
    exact ok_s ⟨_, rfl, ok_s ⟨g, f⟩⟩
