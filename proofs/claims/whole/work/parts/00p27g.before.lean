/-! ===== beforehand, kept ===== -/
theorem bv_m {v : Nat} (h : 1 ≤ v) : bvA (2 * v - 1) = -nI v := by
  obtain ⟨u, rfl⟩ : ∃ u, v = u + 1 := ⟨v - 1, by omega⟩
  unfold bvA
  rw [if_pos (by omega), show (2 * (u + 1) - 1) / 2 = u by omega, ← n1]
  grind
theorem bv_p (v : Nat) : bvA (2 * v) = nI v := by
  unfold bvA
  rw [if_neg (by omega), show 2 * v / 2 = v by omega]
theorem r_setBy {μ : MT} {nc ns na c : Nat} (e5 : μ 106 5 = nI nc) (e6 : μ 106 6 = nI ns) (e7 : μ 106 7 = nI na) (hnc : nc ≤ 12) (hns : ns ≤ 6) (hna : na ≤ 40) (hA : ∀ a, a < na → ActOK nc (μ 110) a) (hc : c < nc) (hB : ∀ q, q < 12 → -40 ≤ (μ 123 q).toInt ∧ (μ 123 q).toInt ≤ 40) (hO : ∀ k, k < 6 → μ 124 k = nI k) :
    Ok (m_X9_setBy Zc 106 (nI c) μ) (fun r => r.1 = bfA nc ns na (μ 110) c 81 ∧ FrX μ r.2 ∧ r.2 124 = μ 124 ∧ ∀ q, q < 12 → -40 ≤ (r.2 123 q).toInt ∧ (r.2 123 q).toInt ≤ 40) := by
  unfold m_X9_setBy
  simp only [zA]
  have htry : ∀ (ξ : MT) (k : Nat) (v : Int32), k ≤ 80 → v = bvA k → FrX μ ξ → ξ 124 = μ 124 → (∀ q, q < 12 → -40 ≤ (ξ 123 q).toInt ∧ (ξ 123 q).toInt ≤ 40) → ∀ {γ : Type} {F : Int32 → MT → Option γ} {R : γ → Prop}, (∀ ω x, (x = 0 ↔ flA nc ns na (μ 110) c k = true) → FrX μ ω → ω 124 = μ 124 → (∀ q, q < 12 → -40 ≤ (ω 123 q).toInt ∧ (ω 123 q).toInt ≤ 40) → Ok (F x ω) R) → Ok ((ast Zc ξ 123 (nI c) v).bind fun ν19 => (m_X9_go Zc 106 (-1000000) ν19).bind fun ν20 => (ald Zc ν20 119 (24 + nI c)).bind fun x22 => F x22 ν20) R := by
    rintro ξ k v hk rfl g1 g2 g3 γ F R hF
    rw [as_123 (by omega), ob_s]
    have w1 : FrX μ (u2 ξ 123 c (bvA k)) := g1.w (by omega)
    have w2 : u2 ξ 123 c (bvA k) 124 = μ 124 := by rw [u2_w, if_neg (by omega)]; exact g2
    have w3 : ∀ q, q < 12 → -40 ≤ (u2 ξ 123 c (bvA k) 123 q).toInt ∧ (u2 ξ 123 c (bvA k) 123 q).toInt ≤ 40 := fun q hq => by
      rw [u2_r]
      by_cases hqc : q = c
      · rw [if_pos ⟨rfl, hqc⟩]; exact bv_bd hk
      · rw [if_neg (by omega)]; exact g3 q hq
    have w4 : u2 ξ 123 c (bvA k) 123 c = bvA k := by rw [u2_r, if_pos ⟨rfl, rfl⟩]
    generalize u2 ξ 123 c (bvA k) = ξ1 at w1 w2 w3 w4 ⊢
    have x110 : ξ1 110 = μ 110 := w1.1 110 (by omega) (by omega)
    have hgo := r_go (μ := ξ1) (wo := -1000000) (nc := nc) (ns := ns) (na := na) (by rw [w1.2 5 (by omega) (by omega)]; exact e5) (by rw [w1.2 6 (by omega) (by omega)]; exact e6) (by rw [w1.2 7 (by omega) (by omega)]; exact e7) hnc hns hna (by rw [x110]; exact hA) w3
    refine ok_b hgo ?_
    rintro ω ⟨k1, k2⟩
    rw [x_la, al_119 (by omega), ob_s]
    refine hF ω _ ?_ (w1.trans (FrX.of k2)) (by rw [k2.1 124 (by omega) (by omega) (by omega) (by omega)]; exact w2) (by rw [k2.1 123 (by omega) (by omega) (by omega) (by omega)]; exact w3)
    rw [k1.1 _ (by omega), x110, fl_b (B := ξ1 123) (O := ξ1 124) (wo := -1000000) hnc (by omega) hns hA w4 (fun j hj => by rw [w2]; exact hO j (by omega)) (fun j hj => mNn (by omega))]
    simp
  refine ok_for (fun v ξ => FrX μ ξ ∧ ξ 124 = μ 124 ∧ (∀ q, q < 12 → -40 ≤ (ξ 123 q).toInt ∧ (ξ 123 q).toInt ≤ 40) ∧ ∀ k, k + 1 < 2 * v → flA nc ns na (μ 110) c k = false) 0 41 (by omega) (by omega) rfl ⟨FrX.refl μ, rfl, hB, fun k hk => by omega⟩ ?_ ?_
  · rintro v ξ _ hv ⟨g1, g2, g3, g4⟩
    simp only []
    rw [if_neg (by rw [x_lle (by omega) (by omega)]; omega)]
    refine ok_l (fun m s => FrX μ s.2 ∧ s.2 124 = μ 124 ∧ (∀ q, q < 12 → -40 ≤ (s.2 123 q).toInt ∧ (s.2 123 q).toInt ≤ 40) ∧ ((m = 2 ∧ s.1 = -1) ∨ (m = 1 ∧ s.1 = 1 ∧ ∀ k, k < 2 * v ∨ k = 0 → flA nc ns na (μ 110) c k = false) ∨ (m = 0 ∧ s.1 = 3 ∧ ∀ k, k < 2 * v + 1 → flA nc ns na (μ 110) c k = false))) 2 (by omega) ⟨g1, g2, g3, Or.inl ⟨rfl, rfl⟩⟩ ?_
    rintro m ⟨y, ω⟩ ⟨h1, h2, h3, h4⟩
    simp only at h1 h2 h3 h4 ⊢
    rcases h4 with ⟨rfl, rfl⟩ | ⟨rfl, rfl, h5⟩ | ⟨rfl, rfl, h5⟩
    · rw [if_neg (by decide)]
      refine htry ω (if v = 0 then 0 else 2 * v - 1) _ (by split <;> omega) ?_ h1 h2 h3 ?_
      · by_cases hv0 : v = 0
        · rw [if_pos hv0, hv0]; rfl
        · rw [if_neg hv0, bv_m (by omega)]
          rw [Int32.neg_mul, Int32.one_mul]
      · intro ω' x hx k1 k2 k3
        by_cases hx0 : x = 0
        · rw [if_pos hx0]
          refine ok_s (Or.inl ⟨_, rfl, ok_s (Or.inr ⟨_, rfl, ok_s ⟨?_, k1, k2, k3⟩⟩)⟩)
          have hfl := hx.mp hx0
          simp only []
          by_cases hv0 : v = 0
          · rw [if_pos hv0] at hfl
            have := bf_hit (K := 0) (by omega) (fun k hk => by omega) hfl 80
            rw [show 0 + 1 + 80 = 81 from rfl] at this
            rw [this, hv0]
            rfl
          · rw [if_neg hv0] at hfl
            have := bf_hit (K := 2 * v - 1) (by omega) (fun k hk => g4 k (by omega)) hfl (81 - 2 * v)
            rw [show 2 * v - 1 + 1 + (81 - 2 * v) = 81 by omega] at this
            rw [this, bv_m (by omega), Int32.neg_mul, Int32.one_mul]
        · rw [if_neg hx0]
          refine ok_s (Or.inr ⟨_, 1, rfl, by omega, k1, k2, k3, Or.inr (Or.inl ⟨rfl, rfl, fun k hk => ?_⟩)⟩)
          have hfl : flA nc ns na (μ 110) c (if v = 0 then 0 else 2 * v - 1) = false := by
            cases hq : flA nc ns na (μ 110) c (if v = 0 then 0 else 2 * v - 1)
            · rfl
            · exact absurd (hx.mpr hq) hx0
          by_cases hv0 : v = 0
          · rw [if_pos hv0] at hfl
            have : k = 0 := by omega
            rw [this]; exact hfl
          · rw [if_neg hv0] at hfl
            by_cases hk2 : k = 2 * v - 1
            · rw [hk2]; exact hfl
            · exact g4 k (by omega)
    · rw [if_neg (by decide)]
      refine htry ω (2 * v) _ (by omega) ?_ h1 h2 h3 ?_
      · rw [bv_p, Int32.one_mul]
      · intro ω' x hx k1 k2 k3
        by_cases hx0 : x = 0
        · rw [if_pos hx0]
          refine ok_s (Or.inl ⟨_, rfl, ok_s (Or.inr ⟨_, rfl, ok_s ⟨?_, k1, k2, k3⟩⟩)⟩)
          simp only []
          have := bf_hit (K := 2 * v) (by omega) (fun k hk => h5 k (by omega)) (hx.mp hx0) (80 - 2 * v)
          rw [show 2 * v + 1 + (80 - 2 * v) = 81 by omega] at this
          rw [this, bv_p, Int32.one_mul]
        · rw [if_neg hx0]
          refine ok_s (Or.inr ⟨_, 0, rfl, by omega, k1, k2, k3, Or.inr (Or.inr ⟨rfl, rfl, fun k hk => ?_⟩)⟩)
          by_cases hk2 : k = 2 * v
          · rw [hk2]
            cases hq : flA nc ns na (μ 110) c (2 * v)
            · rfl
            · exact absurd (hx.mpr hq) hx0
          · exact h5 k (by omega)
    · rw [if_pos (by decide)]
      refine ok_s (Or.inl ⟨_, rfl, ?_⟩)
      simp only [jn, ob_s, n1]
      exact ok_s (Or.inl ⟨_, rfl, h1, h2, h3, fun k hk => h5 k (by omega)⟩)
  · rintro ξ ⟨g1, g2, g3, g4⟩
    simp only []
    rw [if_pos (by decide)]
    refine ok_s ⟨_, rfl, ok_s ⟨?_, g1, g2, g3⟩⟩
    exact (bf_none 81 (fun k hk => g4 k (by omega))).symm
theorem op_beforehand {ν : MT} (h : Inv ν) (a0 : Int32) : OkI Inv (m_X8_beforehand Zc 127 0 a0 ν) (fun μ => m_X9_beforehand Zc 106 a0 μ) := by
  obtain ⟨p, d, nc, ns, na, nb, h⟩ := h
  obtain ⟨c1, c2, c3, ⟨hp, hd, hpd, e11, e12⟩, c5, c6, c7, c8, c9, c10, c11, c12, c13⟩ := id h
  obtain ⟨hnc, hns, hna, hnb⟩ := pl_bd c5
  have hpl2 := isPl_le hp
  have e0 := c5.1.1
  by_cases ha : 0 ≤ a0.toInt ∧ a0.toInt < nc
  case neg =>
    refine okI_of (a := -1000001) (P := fun μ => μ = ν) ?_ ?_
    · unfold m_X8_beforehand
      rw [e11, mrd_p hp, ob_s, q_hasCell e0 (by omega), ob_s, bI_f ha, if_pos rfl]
      exact ok_s ⟨rfl, rfl⟩
    · rintro μ rfl
      have m5 : u2 μ 106 0 0 106 5 = nI nc := c6.1
      unfold m_X9_beforehand
      rw [ob_s, q_isCell m5 (by omega), ob_s, bI_f ha, if_pos rfl]
      exact ok_s ⟨rfl, p, d, nc, ns, na, nb, c_x h (FrX.refl μ).w0⟩
  have hc4 : 4 ≤ nc := by have := c5.2.1; omega
  obtain ⟨c, hcc, rfl⟩ := nI_ex (n := nc) ha.1 ha.2
  refine okI_of (a := ahA nc ns na (ν 110) c) (P := fun μ => μ 87 2 = 1 ∧ (∀ c, c < nc → μ 88 c = ahA nc ns na (ν 110) c) ∧ ∀ k, k ≠ 87 → k ≠ 88 → k ≠ 89 → k < 26 ∨ 32 < k → μ k = ν k) ?_ ?_
  · unfold m_X8_beforehand
    rw [e11, mrd_p hp, ob_s, q_hasCell e0 (by omega), ob_s, bI_t ha, if_neg (by decide), ob_s]
    simp only [zA]
    refine ok_b (p_bfl hp hc4 c5 c13.1 c11) ?_
    rintro μ ⟨g1, g2, g3⟩
    rw [al_88 (by omega), ob_s]
    exact ok_s ⟨g2 c hcc, g1, g2, g3⟩
  · rintro μ ⟨f1, f2, f⟩
    have fk : ∀ k, k < 26 ∨ (32 < k ∧ k < 87) ∨ 89 < k → μ k = ν k := fun k hk => f k (by omega) (by omega) (by omega) (by omega)
    have hcore : Core μ p d nc ns na nb := by
      refine c_gen h ?_ ?_ ?_ ?_ (Or.inl ⟨?_, ?_⟩) (Or.inl ⟨?_, ?_, ?_, ?_, ?_⟩) (Or.inl ⟨?_, ?_⟩) (Or.inr (Or.inr ⟨f1, ?_⟩))
      · rw [fk 0 (by omega), fk 106 (by omega)]; exact c2.1
      · intro j _; rw [fk 0 (by omega)]
      · intro j _; rw [fk 106 (by omega)]
      · intro k hk; exact fk k (by omega)
      · exact fk 17 (by omega)
      · exact fk 118 (by omega)
      · rw [fk 0 (by omega)]
      · rw [fk 106 (by omega)]
      · rw [fk 106 (by omega)]
      · exact fk 122 (by omega)
      · intro k a b; exact fk k (by omega)
      · intro j _ _; rw [fk 33 (by omega)]
      · exact fk 36 (by omega)
      · rw [fk 110 (by omega)]; exact f2
    have m106 : μ 106 = ν 106 := fk 106 (by omega)
    have m5 : u2 μ 106 0 0 106 5 = nI nc := by rw [u2_r, if_neg (by omega), m106]; exact c6.1
    unfold m_X9_beforehand
    rw [ob_s, q_isCell m5 (by omega), ob_s, bI_t ha, if_neg (by decide), r_layN, ob_s, r_layO, ob_s]
    have fx0 : FrX μ (u1 (u2 μ 106 0 0) 124 (fun c => if c < 6 then nI c else u2 μ 106 0 0 124 c)) := (FrX.refl μ).w0.w1 (by omega)
    have o0 : ∀ k, k < 6 → u1 (u2 μ 106 0 0) 124 (fun c => if c < 6 then nI c else u2 μ 106 0 0 124 c) 124 k = nI k := fun k hk => by
      rw [u1_r, if_pos rfl, if_pos hk]
    generalize u1 (u2 μ 106 0 0) 124 (fun c => if c < 6 then nI c else u2 μ 106 0 0 124 c) = μ0 at fx0 o0 ⊢
    have fx : FrX μ (u1 μ0 123 (fun c => if c < 12 then μ0 117 c else μ0 123 c)) := fx0.w1 (by omega)
    have o1 : ∀ k, k < 6 → u1 μ0 123 (fun c => if c < 12 then μ0 117 c else μ0 123 c) 124 k = nI k := fun k hk => by
      rw [u1_w, if_neg (by omega)]; exact o0 k hk
    have o123 : ∀ c, c < 12 → -40 ≤ (u1 μ0 123 (fun c => if c < 12 then μ0 117 c else μ0 123 c) 123 c).toInt ∧ (u1 μ0 123 (fun c => if c < 12 then μ0 117 c else μ0 123 c) 123 c).toInt ≤ 40 := fun c hc => by
      rw [u1_r, if_pos rfl, if_pos hc, fx0.1 117 (by omega) (by omega), fk 117 (by omega)]
      exact (c7 c hc).2
    generalize u1 μ0 123 (fun c => if c < 12 then μ0 117 c else μ0 123 c) = μ1 at fx o1 o123 ⊢
    refine ok_l (fun m s => ∃ i, i + m = c + 1 ∧ s.2.1 = nI i ∧ FrX μ s.2.2 ∧ (∀ k, k < 6 → s.2.2 124 k = nI k) ∧ (∀ q, q < 12 → -40 ≤ (s.2.2 123 q).toInt ∧ (s.2.2 123 q).toInt ≤ 40) ∧ s.1 = if i = 0 then 0 else ahA nc ns na (ν 110) (i - 1)) (c + 1) (by omega) ⟨0, by omega, rfl, fx, o1, o123, rfl⟩ ?_
    rintro m ⟨y5, y6, ξ⟩ ⟨i, h1, h2, h3, h4, h5, h6⟩
    simp only at h2 h3 h4 h5 h6 ⊢
    subst h2
    have hinv : Inv ξ := ⟨p, d, nc, ns, na, nb, c_x hcore h3⟩
    by_cases hm : m = 0
    · rw [if_pos (by rw [x_lt (by omega) (by omega)]; omega)]
      refine ok_s (Or.inl ⟨_, rfl, ok_s ⟨?_, hinv⟩⟩)
      simp only []
      rw [h6, if_neg (by omega), show i - 1 = c by omega]
    · rw [if_neg (by rw [x_lt (by omega) (by omega)]; omega)]
      by_cases hN : y5 = -1000000
      · rw [if_pos hN]
        refine ok_s (Or.inl ⟨_, rfl, ok_s ⟨?_, hinv⟩⟩)
        simp only []
        by_cases hi0 : i = 0
        · rw [if_pos hi0] at h6
          rw [h6] at hN
          exact absurd hN (by decide)
        · rw [if_neg hi0] at h6
          rw [h6] at hN
          have := ah_none hN (c - (i - 1))
          rw [show i - 1 + (c - (i - 1)) = c by omega] at this
          rw [h6, hN, this]
      · rw [if_neg hN]
        have x110 : ξ 110 = ν 110 := by rw [h3.1 110 (by omega) (by omega), fk 110 (by omega)]
        have x6 : ∀ j, j ≠ 0 → j ≠ 35 → ξ 106 j = ν 106 j := fun j a b => by rw [h3.2 j a b, m106]
        refine ok_b (r_setBy (c := i) (nc := nc) (ns := ns) (na := na) (by rw [x6 5 (by omega) (by omega)]; exact c6.1) (by rw [x6 6 (by omega) (by omega)]; exact c6.2.1) (by rw [x6 7 (by omega) (by omega)]; exact c6.2.2.1) hnc hns hna (by rw [x110]; exact pl_act c5) (by omega) h5 h4) ?_
        rintro ⟨r, ω⟩ ⟨k1, k2, k3, k4⟩
        simp only at k1 k2 k3 k4 ⊢
        rw [ob_s, n1]
        refine ok_s (Or.inr ⟨_, m - 1, rfl, by omega, i + 1, by omega, rfl, h3.trans k2, fun k hk => ?_, k4, ?_⟩)
        · simp only []
          rw [k3]; exact h4 k hk
        · simp only []
          rw [k1, x110, if_neg (by omega), show i + 1 - 1 = i by omega]
          by_cases hi0 : i = 0
          · subst hi0; rfl
          · obtain ⟨j, rfl⟩ : ∃ j, i = j + 1 := ⟨i - 1, by omega⟩
            rw [if_neg hi0, show j + 1 - 1 = j by omega] at h6
            rw [ahA, if_neg (by rw [← h6]; exact hN)]
