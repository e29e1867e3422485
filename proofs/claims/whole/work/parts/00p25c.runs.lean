/-! ===== runs, run, gives ===== -/
theorem t1000 : ∀ k, k < 6 → μf 1000 k = nI k := by decide +kernel
/-- the reference's run, and that it stands -/
theorem r_runs {μ : MT} {nc ns na : Nat} (e5 : μ 106 5 = nI nc) (e6 : μ 106 6 = nI ns) (e7 : μ 106 7 = nI na) (hc4 : 4 ≤ nc) (hc : nc ≤ 12) (hns : ns ≤ 6) (hna : na ≤ 40) (hA : ∀ a, a < na → ActOK nc (μ 110) a) (hB : ∀ c, c < 12 → -40 ≤ (μ 117 c).toInt ∧ (μ 117 c).toInt ≤ 40) {γ : Type} {F : Int32 → MT → Option γ} {R : γ → Prop}
    (hF : ∀ ν, ν 106 31 = 1 → ν 106 37 = (goA nc ns na (μ 110) (μ 117) (μ 124) (-1000000)).2.2.2 → (∀ k, k < 48 → ν 122 k = (goA nc ns na (μ 110) (μ 117) (μ 124) (-1000000)).1 k) → (∀ k, k < 6 → ν 118 k = μ 124 k) → (∀ k, k ≠ 106 → k < 118 ∨ 125 < k → ν k = μ k) → (∀ j, j ≠ 31 → j ≠ 35 → j ≠ 37 → ν 106 j = μ 106 j) → Ok (F (offA nc (goA nc ns na (μ 110) (μ 117) (μ 124) (-1000000)).1) ν) R) :
    Ok ((m_X9_layOpened Zc 106 μ).bind fun ν28 => (m_X9_go Zc 106 (-1000000) ν28).bind fun ν29 => (m_X9_stand Zc 106 ν29).bind fun ν30 => (m_X9_offBy Zc 106 ν30).bind fun r31 => F r31 ν30) R := by
  rw [r_layO, ob_s]
  have g : ∀ k, k ≠ 123 → u1 μ 123 (fun c => if c < 12 then μ 117 c else μ 123 c) k = μ k := fun k hk => by rw [u1_w, if_neg hk]
  have g123 : ∀ c, c < 12 → u1 μ 123 (fun c => if c < 12 then μ 117 c else μ 123 c) 123 c = μ 117 c := fun c hc => by rw [u1_r, if_pos rfl, if_pos hc]
  generalize u1 μ 123 (fun c => if c < 12 then μ 117 c else μ 123 c) = ν1 at g g123 ⊢
  have hgo := r_go (μ := ν1) (wo := -1000000) (by rw [g 106 (by omega)]; exact e5) (by rw [g 106 (by omega)]; exact e6) (by rw [g 106 (by omega)]; exact e7) hc hns hna (by rw [g 110 (by omega)]; exact hA) (fun c hc => by rw [g123 c hc]; exact hB c hc)
  have hX : goA nc ns na (ν1 110) (ν1 123) (ν1 124) (-1000000) = goA nc ns na (μ 110) (μ 117) (μ 124) (-1000000) := by
    rw [g 110 (by omega), g 124 (by omega)]
    exact goA_c g123 (fun k _ => rfl) (fun k _ => Iff.rfl)
  rw [hX] at hgo
  generalize goA nc ns na (μ 110) (μ 117) (μ 124) (-1000000) = X at hgo hF
  refine ok_b hgo ?_
  rintro ν2 ⟨⟨h1, h2, h3, h4⟩, h5⟩
  rw [r_stand, ob_s]
  have e5' : u1 (u2 (u2 (u1 ν2 122 (fun c => if c < 48 then ν2 119 c else ν2 122 c)) 106 37 (ν2 106 35)) 106 31 1) 118 (fun c => if c < 6 then ν2 124 c else ν2 118 c) 106 5 = nI nc := by
    simp [u1_r, u2_r]
    rw [h5.2 5 (by omega), g 106 (by omega)]
    exact e5
  rw [r_off e5' hc4 hc, ob_s, offA_c (N' := X.1) (fun c hc => by
    rw [← h1 _ (by omega)]
    simp [u1_r, u2_r])]
  refine hF _ ?_ ?_ ?_ ?_ ?_ ?_
  · simp [u1_r, u2_r]
  · simp [u1_r, u2_r, h4]
  · intro k hk
    rw [← h1 k hk]
    simp [u1_r, u2_r, hk]
  · intro k hk
    have : ν2 124 = μ 124 := by rw [h5.1 124 (by omega) (by omega) (by omega) (by omega), g 124 (by omega)]
    simp [u1_r, hk, this]
  · intro k h6 h7
    rw [u1_w, if_neg (by omega), u2_w, if_neg h6, u2_w, if_neg h6, u1_w, if_neg (by omega), h5.1 k h6 (by omega) (by omega) (by omega), g k (by omega)]
  · intro j h6 h7 h8
    simp [u1_r, u2_r, h6, h8]
    rw [h5.2 j h7, g 106 (by omega)]
/-- the program's run, and that it stands -/
theorem p_stands {μ : MT} {p nc ns na nb : Nat} (hp : isPl p) (e11 : μ 0 11 = nI p) (hpl : PlIs μ p nc ns na nb) (hc4 : 4 ≤ nc) (hO : ∀ j, j < ns → ∃ s, s < ns ∧ μ 17 j = nI s) (hB : ∀ c, c < 12 → -40 ≤ (μ 16 c).toInt ∧ (μ 16 c).toInt ≤ 40) : Ok (m_X8_standByOrder Zc 127 0 μ) (fun q => q.1 = offA nc (goA nc ns na (μ 110) (μ 16) (μ 17) (-1)).1 ∧ PIs q.2 19 nc (goA nc ns na (μ 110) (μ 16) (μ 17) (-1)) ∧ FrP 19 (u2 μ 0 13 1) q.2) := by
  obtain ⟨hnc, hns, hna, hnb⟩ := pl_bd hpl
  have hpl2 := isPl_le hp
  have g : ∀ k, k ≠ 0 → u2 μ 0 13 1 k = μ k := fun k hk => by rw [u2_w, if_neg hk]
  have g11 : u2 μ 0 13 1 0 11 = nI p := by rw [u2_r, if_neg (by omega)]; exact e11
  have hgo := p_go (μ := u2 μ 0 13 1) (b := 19) (p := p) (k := 16) (o := 17) (wo := -1) (nc := nc) (ns := ns) (na := na) (nb := nb) pn19 hp (by
    unfold PlIs
    rw [g p (by omega), g (p + 1) (by omega), g (p + 2) (by omega), g (p + 3) (by omega), g (p + 4) (by omega), g (p + 5) (by omega), g (p + 6) (by omega), g 110 (by omega), g 111 (by omega), g 112 (by omega)]
    exact hpl) (by simp only [zA]) (by omega) (by simp only [zA]) (by omega) (by rw [g 17 (by omega)]; exact hO) (by rw [g 16 (by omega)]; exact hB)
  rw [g 110 (by omega), g 16 (by omega), g 17 (by omega)] at hgo
  unfold m_X8_standByOrder
  rw [ob_s, g11, mrd_p hp, ob_s]
  simp only [zA]
  refine ok_b hgo ?_
  rintro ν ⟨h1, h2⟩
  rw [p_off pn19 h1.1 (fun c hc => (h1.2.2.2 c hc).2.1) hc4 hnc, ob_s]
  exact ok_s ⟨rfl, h1, h2⟩
theorem op_runs {ν : MT} (h : Inv ν) : OkI Inv (m_X8_runs Zc 127 0 ν) (fun μ => m_X9_runs Zc 106 μ) := by
  obtain ⟨p, d, nc, ns, na, nb, h⟩ := h
  obtain ⟨c1, c2, c3, ⟨hp, hd, hpd, e11, e12⟩, c5, c6, c7, c8, c9, c10, c11, c12, c13⟩ := id h
  obtain ⟨hnc, hns, hna, hnb⟩ := pl_bd c5
  have hpl2 := isPl_le hp
  have e0 := c5.1.1
  have hz4 := c5.2.1
  by_cases hz : nc = 0
  · refine okI_of (a := -1000002) (P := fun μ => μ = ν) ?_ ?_
    · unfold m_X8_runs
      rw [e11, mrd_p hp, ob_s, q_none e0 (by omega), ob_s, bI_t hz, if_neg (by decide)]
      exact ok_s ⟨rfl, rfl⟩
    · rintro μ rfl
      have m5 : u2 μ 106 0 0 106 5 = nI nc := c6.1
      unfold m_X9_runs
      rw [ob_s, m5, if_pos (by rw [hz]; rfl)]
      exact ok_s ⟨rfl, p, d, nc, ns, na, nb, c_x h (FrX.refl μ).w0⟩
  · have hz' : ¬ nI nc = 0 := by rw [x_eql (by omega) (by omega)]; exact hz
    have hX : ∀ O : Nat → Int32, (∀ k, k < 6 → O k = nI k) → goA nc ns na (ν 110) (ν 16) O (-1) = goA nc ns na (ν 110) (ν 117) (fun k => nI k) (-1000000) := fun O hO => by
      refine goA_c (fun c hc => (c7 c hc).1) (fun k hk => hO k (by omega)) (fun k hk => ?_)
      rw [hO k (by omega)]
      exact ⟨fun q => absurd q (m1n (by omega)), fun q => absurd q (mNn (by omega))⟩
    refine okI_of (a := offA nc (goA nc ns na (ν 110) (ν 117) (fun k => nI k) (-1000000)).1) (P := fun μ => PIs μ 19 nc (goA nc ns na (ν 110) (ν 117) (fun k => nI k) (-1000000)) ∧ (∀ k, k ≠ 0 → k ≠ 17 → k < 19 ∨ 25 < k → μ k = ν k) ∧ (∀ j, j ≠ 13 → μ 0 j = ν 0 j) ∧ μ 0 13 = 1 ∧ (∀ k, k < 6 → μ 17 k = nI k)) ?_ ?_
    · unfold m_X8_runs
      rw [e11, mrd_p hp, ob_s, q_none e0 (by omega), ob_s, bI_f hz, if_pos rfl]
      simp only [zA]
      rw [acp0 (m := 6) (v := 6) (n := 6) (n1 := 6) (by simp only [zA]) (by simp only [zA]) (by omega) (by omega) (by omega) rfl, ob_s]
      have g : ∀ k, k ≠ 17 → u1 ν 17 (fun j => if j < 6 then ν 1000 j else ν 17 j) k = ν k := fun k hk => by rw [u1_w, if_neg hk]
      have g17 : ∀ k, k < 6 → u1 ν 17 (fun j => if j < 6 then ν 1000 j else ν 17 j) 17 k = nI k := fun k hk => by rw [u1_r, if_pos rfl, if_pos hk, c13.1, t1000 k hk]
      generalize u1 ν 17 (fun j => if j < 6 then ν 1000 j else ν 17 j) = ν1 at g g17 ⊢
      have hs := p_stands (μ := ν1) (nc := nc) (ns := ns) (na := na) (nb := nb) hp (by rw [g 0 (by omega)]; exact e11) (by
        unfold PlIs
        rw [g p (by omega), g (p + 1) (by omega), g (p + 2) (by omega), g (p + 3) (by omega), g (p + 4) (by omega), g (p + 5) (by omega), g (p + 6) (by omega), g 110 (by omega), g 111 (by omega), g 112 (by omega)]
        exact c5) (by omega) (fun j hj => ⟨j, hj, g17 j (by omega)⟩) (by rw [g 16 (by omega)]; exact fun c hc => by rw [(c7 c hc).1]; exact (c7 c hc).2)
      rw [g 110 (by omega), g 16 (by omega), hX (ν1 17) g17] at hs
      refine ok_b hs ?_
      rintro ⟨r, ν2⟩ ⟨h1, h2, h3⟩
      simp only at h1 h2 h3
      refine ok_s ⟨h1, h2, fun k a b c => ?_, fun j hj => ?_, ?_, fun k hk => ?_⟩
      · show ν2 k = ν k
        rw [h3 k (by omega), u2_w, if_neg a, g k b]
      · show ν2 0 j = ν 0 j
        rw [h3 0 (by omega), u2_r, if_neg (by omega), g 0 (by omega)]
      · show ν2 0 13 = 1
        rw [h3 0 (by omega)]; simp [u2_r]
      · show ν2 17 k = nI k
        rw [h3 17 (by omega), u2_w, if_neg (by omega)]; exact g17 k hk
    · rintro μ ⟨f1, f2, f3, f4, f5⟩
      have m106 : μ 106 = ν 106 := f2 106 (by omega) (by omega) (by omega)
      have m5 : u2 μ 106 0 0 106 5 = nI nc := by rw [u2_r, if_neg (by omega), m106]; exact c6.1
      unfold m_X9_runs
      rw [ob_s, m5, if_neg hz', r_layN, ob_s]
      have g : ∀ k, k ≠ 106 → k ≠ 124 → u1 (u2 μ 106 0 0) 124 (fun c => if c < 6 then nI c else u2 μ 106 0 0 124 c) k = μ k := fun k hk hk2 => by rw [u1_w, if_neg hk2, u2_w, if_neg hk]
      have g6 : ∀ j, j ≠ 0 → u1 (u2 μ 106 0 0) 124 (fun c => if c < 6 then nI c else u2 μ 106 0 0 124 c) 106 j = ν 106 j := fun j hj => by rw [u1_r, if_neg (by omega), u2_r, if_neg (by omega), m106]
      have g124 : ∀ k, k < 6 → u1 (u2 μ 106 0 0) 124 (fun c => if c < 6 then nI c else u2 μ 106 0 0 124 c) 124 k = nI k := fun k hk => by rw [u1_r, if_pos rfl, if_pos hk]
      generalize u1 (u2 μ 106 0 0) 124 (fun c => if c < 6 then nI c else u2 μ 106 0 0 124 c) = μ1 at g g6 g124 ⊢
      have g110 : μ1 110 = ν 110 := by rw [g 110 (by omega) (by omega), f2 110 (by omega) (by omega) (by omega)]
      have g117 : μ1 117 = ν 117 := by rw [g 117 (by omega) (by omega), f2 117 (by omega) (by omega) (by omega)]
      have hX2 : goA nc ns na (μ1 110) (μ1 117) (μ1 124) (-1000000) = goA nc ns na (ν 110) (ν 117) (fun k => nI k) (-1000000) := by
        rw [g110, g117]
        refine goA_c (fun c _ => rfl) (fun k hk => g124 k (by omega)) (fun k hk => ?_)
        rw [g124 k (by omega)]
      refine r_runs (nc := nc) (ns := ns) (na := na) (by rw [g6 5 (by omega)]; exact c6.1) (by rw [g6 6 (by omega)]; exact c6.2.1) (by rw [g6 7 (by omega)]; exact c6.2.2.1) (by omega) hnc hns hna (by rw [g110]; exact pl_act c5) (by rw [g117]; exact fun c hc => (c7 c hc).2) ?_
      rw [hX2]
      intro ν3 r1 r2 r3 r4 r5 r6
      refine ok_s ⟨rfl, p, d, nc, ns, na, nb, ?_⟩
      have hk : ∀ k, k ≠ 0 → k ≠ 17 → k ≠ 106 → k < 19 ∨ (25 < k ∧ k < 118) ∨ 125 < k → ν3 k = ν k := fun k a b c e => by rw [r5 k c (by omega), g k c (by omega), f2 k a b (by omega)]
      have h0 : ν3 0 = μ 0 := by rw [r5 0 (by omega) (by omega), g 0 (by omega) (by omega)]
      have hj : ∀ j, j ≠ 0 → j ≠ 31 → j ≠ 35 → j ≠ 37 → ν3 106 j = ν 106 j := fun j a b c e => by rw [r6 j b c e, g6 j a]
      refine c_gen h ?_ ?_ ?_ ?_ (Or.inr fun k hk => ⟨k, hk, ?_, ?_⟩) (Or.inr ⟨goA nc ns na (ν 110) (ν 117) (fun k => nI k) (-1000000), ?_, ?_, Or.inl ⟨?_, r1, r2, r3⟩⟩) (Or.inl ⟨?_, ?_⟩) (Or.inl ⟨?_, ?_⟩)
      · show ν3 0 15 = ν3 106 1
        rw [h0, f3 15 (by omega), hj 1 (by omega) (by omega) (by omega) (by omega)]; exact c2.1
      · intro j hjj
        show ν3 0 j = _
        rw [h0, f3 j (by omega)]
      · intro j hjj
        exact hj j (by omega) (by omega) (by omega) (by omega)
      · intro k hkk
        exact hk k (by omega) (by omega) (by omega) (by omega)
      · show ν3 17 k = nI k
        rw [r5 17 (by omega) (by omega), g 17 (by omega) (by omega)]; exact f5 k (by omega)
      · show ν3 118 k = nI k
        rw [r4 k (by omega)]; exact g124 k (by omega)
      · have q : ∀ k, 19 ≤ k → k < 26 → ν3 k = μ k := fun k a b => by rw [r5 k (by omega) (by omega), g k (by omega) (by omega)]
        show PRel nc (ν3 19) (ν3 20) (ν3 21) (ν3 22) (ν3 23) (ν3 24) (ν3 25) _
        rw [q 19 (by omega) (by omega), q 20 (by omega) (by omega), q 21 (by omega) (by omega), q 22 (by omega) (by omega), q 23 (by omega) (by omega), q 24 (by omega) (by omega), q 25 (by omega) (by omega)]
        exact f1
      · exact bd_go hnc hns hna (pl_act c5) (fun c hc => (c7 c hc).2)
      · show ν3 0 13 = 1
        rw [h0]; exact f4
      · intro j a b
        show ν3 33 j = _
        rw [hk 33 (by omega) (by omega) (by omega) (by omega)]
      · exact hk 36 (by omega) (by omega) (by omega) (by omega)
      · show ν3 87 2 = _
        rw [hk 87 (by omega) (by omega) (by omega) (by omega)]
      · exact hk 88 (by omega) (by omega) (by omega) (by omega)
