/-! ===== gives ===== -/
theorem op_gives {ν : MT} (h : Inv ν) (a0 : Int32) : OkI Inv (m_X8_gives Zc 127 0 a0 ν) (fun μ => m_X9_gives Zc 106 a0 μ) := by
  obtain ⟨p, d, nc, ns, na, nb, h⟩ := h
  obtain ⟨c1, c2, c3, ⟨hp, hd, hpd, e11, e12⟩, c5, c6, c7, c8, c9, c10, c11, c12, c13⟩ := id h
  obtain ⟨hnc, hns, hna, hnb⟩ := pl_bd c5
  have hpl2 := isPl_le hp
  have e0 := c5.1.1
  have e1 := c5.1.2.1
  have hz4 := c5.2.1
  by_cases hs : 0 ≤ a0.toInt ∧ a0.toInt < ns
  case neg =>
    refine okI_of (a := -1000001) (P := fun μ => μ = ν) ?_ ?_
    · unfold m_X8_gives
      rw [e11, mrd_p hp, ob_s, q_hasSeam e1 (by omega), ob_s, bI_f hs, if_pos rfl]
      exact ok_s ⟨rfl, rfl⟩
    · rintro μ rfl
      have m6 : u2 μ 106 0 0 106 6 = nI ns := c6.2.1
      unfold m_X9_gives
      rw [ob_s, m6, q_in0 (by omega), ob_s, bI_f hs, if_pos rfl]
      exact ok_s ⟨rfl, p, d, nc, ns, na, nb, c_x h (FrX.refl μ).w0⟩
  have hc4 : 4 ≤ nc := by omega
  have hX1 : ∀ wo wo' : Int32, (∀ k, k < ns → (ν 17 k = wo ↔ ν 118 k = wo')) → goA nc ns na (ν 110) (ν 16) (ν 17) wo = goA nc ns na (ν 110) (ν 117) (ν 118) wo' := fun wo wo' hw => by
    refine goA_c (fun c hc => (c7 c hc).1) (fun k hk => ?_) hw
    obtain ⟨t, ht, q1, q2⟩ := c8 k hk
    rw [q1, q2]
  have hA := hX1 (-1) (-1000000) (fun k hk => by
    obtain ⟨t, ht, q1, q2⟩ := c8 k hk
    rw [q1, q2]
    exact ⟨fun q => absurd q (m1n (by omega)), fun q => absurd q (mNn (by omega))⟩)
  have hB := hX1 a0 a0 (fun k hk => by
    obtain ⟨t, ht, q1, q2⟩ := c8 k hk
    rw [q1, q2])
  have hO : ∀ j, j < ns → ∃ s, s < ns ∧ ν 17 j = nI s := fun j hj => by
    obtain ⟨t, ht, q1, q2⟩ := c8 j hj
    exact ⟨t, ht, q1⟩
  have h16 : ∀ c, c < 12 → -40 ≤ (ν 16 c).toInt ∧ (ν 16 c).toInt ≤ 40 := fun c hc => by rw [(c7 c hc).1]; exact (c7 c hc).2
  refine okI_of (a := offA nc (goA nc ns na (ν 110) (ν 117) (ν 118) (-1000000)).1 - offA nc (goA nc ns na (ν 110) (ν 117) (ν 118) a0).1) (P := fun μ => FrP 26 ν μ) ?_ ?_
  · unfold m_X8_gives
    rw [e11, mrd_p hp, ob_s, q_hasSeam e1 (by omega), ob_s, bI_t hs, if_neg (by decide), ob_s]
    simp only [zA]
    have g1 := p_go (μ := ν) (b := 26) (p := p) (k := 16) (o := 17) (wo := -1) pn26 hp c5 (by simp only [zA]) (by omega) (by simp only [zA]) (by omega) hO h16
    rw [hA] at g1
    refine ok_b g1 ?_
    rintro ν1 ⟨k1, k2⟩
    have g2 := p_go (μ := ν1) (b := 26) (p := p) (k := 16) (o := 17) (wo := a0) pn26 hp (pl_fr pn26 hp k2 c5) (by simp only [zA]) (by omega) (by simp only [zA]) (by omega) (by rw [k2 17 (by omega)]; exact hO) (by rw [k2 16 (by omega)]; exact h16)
    rw [k2 110 (by omega), k2 16 (by omega), k2 17 (by omega), hB] at g2
    rw [p_off pn26 k1.1 (fun c hc => (k1.2.2.2 c hc).2.1) hc4 hnc, ob_s, show ν1 0 11 = nI p by rw [k2 0 (by omega)]; exact e11, mrd_p hp, ob_s]
    refine ok_b g2 ?_
    rintro ν2 ⟨k3, k4⟩
    rw [p_off pn26 k3.1 (fun c hc => (k3.2.2.2 c hc).2.1) hc4 hnc, ob_s]
    exact ok_s ⟨rfl, k2.trans k4⟩
  · rintro μ f
    have m106 : μ 106 = ν 106 := f 106 (by omega)
    have m6 : u2 μ 106 0 0 106 6 = nI ns := by rw [u2_r, if_neg (by omega), m106]; exact c6.2.1
    have hcore : Core μ p d nc ns na nb := by
      refine c_gen h ?_ ?_ ?_ ?_ (Or.inl ⟨?_, ?_⟩) (Or.inl ⟨?_, ?_, ?_, ?_, ?_⟩) (Or.inl ⟨?_, ?_⟩) (Or.inl ⟨?_, ?_⟩)
      · rw [f 0 (by omega), m106]; exact c2.1
      · intro j _; rw [f 0 (by omega)]
      · intro j _; rw [m106]
      · intro k hk; exact f k (by omega)
      · exact f 17 (by omega)
      · exact f 118 (by omega)
      · rw [f 0 (by omega)]
      · rw [m106]
      · rw [m106]
      · exact f 122 (by omega)
      · intro k a b; exact f k (by omega)
      · intro j _ _; rw [f 33 (by omega)]
      · exact f 36 (by omega)
      · rw [f 87 (by omega)]
      · exact f 88 (by omega)
    have m117 : μ 117 = ν 117 := f 117 (by omega)
    have m118 : μ 118 = ν 118 := f 118 (by omega)
    have m110 : μ 110 = ν 110 := f 110 (by omega)
    unfold m_X9_gives
    rw [ob_s, m6, q_in0 (by omega), ob_s, bI_t hs, if_neg (by decide)]
    simp only [zA]
    refine ok_for (fun j ξ => FrX μ ξ ∧ ∀ q, q < j → ξ 124 q = ν 118 q) 0 6 (by omega) (by omega) rfl ⟨(FrX.refl μ).w0, fun q hq => by omega⟩ ?_ ?_
    · rintro j ξ _ hj ⟨g1, g2⟩
      simp (disch := omega) only [x_lle, show ¬ 6 ≤ j by omega, if_false]
      rw [al_118 (by omega), ob_s, as_124 (by omega), ob_s, n1, ob_s, g1.1 118 (by omega) (by omega), m118]
      refine ok_s (Or.inl ⟨_, rfl, g1.w (by omega), fun q hq => ?_⟩)
      rw [u2_r]
      by_cases hqj : q = j
      · rw [if_pos ⟨rfl, hqj⟩, hqj]
      · rw [if_neg (by omega)]; exact g2 q (by omega)
    · rintro ξ ⟨g1, g2⟩
      simp (disch := omega) only [x_lle, Nat.le_refl, if_true]
      refine ok_s ⟨_, rfl, ?_⟩
      rw [r_layO, ob_s]
      have f2 : FrX μ (u1 ξ 123 (fun c => if c < 12 then ξ 117 c else ξ 123 c)) := g1.w1 (by omega)
      have g123 : ∀ c, c < 12 → u1 ξ 123 (fun c => if c < 12 then ξ 117 c else ξ 123 c) 123 c = ν 117 c := fun c hc => by rw [u1_r, if_pos rfl, if_pos hc, g1.1 117 (by omega) (by omega), m117]
      have g124 : ∀ q, q < 6 → u1 ξ 123 (fun c => if c < 12 then ξ 117 c else ξ 123 c) 124 q = ν 118 q := fun q hq => by rw [u1_w, if_neg (by omega)]; exact g2 q hq
      generalize u1 ξ 123 (fun c => if c < 12 then ξ 117 c else ξ 123 c) = ξ1 at f2 g123 g124 ⊢
      have x6 : ∀ j, j ≠ 0 → j ≠ 35 → ξ1 106 j = ν 106 j := fun j a b => by rw [f2.2 j a b, m106]
      have x110 : ξ1 110 = ν 110 := by rw [f2.1 110 (by omega) (by omega), m110]
      have hgx : ∀ wo : Int32, goA nc ns na (ν 110) (ξ1 123) (ξ1 124) wo = goA nc ns na (ν 110) (ν 117) (ν 118) wo := fun wo => goA_c g123 (fun k hk => g124 k (by omega)) (fun k hk => by rw [g124 k (by omega)])
      have r1 := r_go (μ := ξ1) (wo := -1000000) (nc := nc) (ns := ns) (na := na) (by rw [x6 5 (by omega) (by omega)]; exact c6.1) (by rw [x6 6 (by omega) (by omega)]; exact c6.2.1) (by rw [x6 7 (by omega) (by omega)]; exact c6.2.2.1) hnc hns hna (by rw [x110]; exact pl_act c5) (fun c hc => by rw [g123 c hc]; exact (c7 c hc).2)
      rw [x110, hgx] at r1
      refine ok_b r1 ?_
      rintro ξ2 ⟨k1, k2⟩
      have y6 : ∀ j, j ≠ 0 → j ≠ 35 → ξ2 106 j = ν 106 j := fun j a b => by rw [k2.2 j b, x6 j a b]
      have y110 : ξ2 110 = ν 110 := by rw [k2.1 110 (by omega) (by omega) (by omega) (by omega), x110]
      have y123 : ξ2 123 = ξ1 123 := k2.1 123 (by omega) (by omega) (by omega) (by omega)
      have y124 : ξ2 124 = ξ1 124 := k2.1 124 (by omega) (by omega) (by omega) (by omega)
      have r2 := r_go (μ := ξ2) (wo := a0) (nc := nc) (ns := ns) (na := na) (by rw [y6 5 (by omega) (by omega)]; exact c6.1) (by rw [y6 6 (by omega) (by omega)]; exact c6.2.1) (by rw [y6 7 (by omega) (by omega)]; exact c6.2.2.1) hnc hns hna (by rw [y110]; exact pl_act c5) (fun c hc => by rw [y123, g123 c hc]; exact (c7 c hc).2)
      rw [y110, y123, y124, hgx] at r2
      rw [r_off (by rw [y6 5 (by omega) (by omega)]; exact c6.1) hc4 hnc, ob_s, offA_c (N' := (goA nc ns na (ν 110) (ν 117) (ν 118) (-1000000)).1) (fun c hc => k1.1 _ (by omega))]
      refine ok_b r2 ?_
      rintro ξ3 ⟨k3, k4⟩
      rw [r_off (by rw [k4.2 5 (by omega), y6 5 (by omega) (by omega)]; exact c6.1) hc4 hnc, ob_s, offA_c (N' := (goA nc ns na (ν 110) (ν 117) (ν 118) a0).1) (fun c hc => k3.1 _ (by omega))]
      exact ok_s ⟨rfl, p, d, nc, ns, na, nb, c_x hcore (f2.trans ((FrX.of k2).trans (FrX.of k4)))⟩
/-! ===== wires ===== -/
def wbF (I : Nat → Int32) (c : Nat) : Int32 := if c = 0 then I (c + 1) - I c else (I (c + 1) - I c) - (I c - I (c - 1))
def stB (I N : Nat → Int32) (k c : Nat) : Bool := (List.range c).all (fun c => decide (wbF I c = nI k * N (24 + c) / 4))
def slF (I N : Nat → Int32) (nc : Nat) : Nat → Nat → Int32
  | 0, _ => -1000000
  | n + 1, k => if stB I N k nc = true then nI k else slF I N nc n (k + 1)
theorem stB_s {I N : Nat → Int32} {k c : Nat} : stB I N k (c + 1) = (stB I N k c && decide (wbF I c = nI k * N (24 + c) / 4)) := by
  unfold stB
  rw [List.range_succ, List.all_append]
  simp
theorem stB_f {I N : Nat → Int32} {k c : Nat} : ∀ n, stB I N k c = false → stB I N k (c + n) = false
  | 0, h => h
  | n + 1, h => by
    rw [show c + (n + 1) = (c + n) + 1 by omega, stB_s, stB_f n h]
    rfl
theorem p_wb {μ : MT} {s z i c : Nat} {I : Nat → Int32} (hs : s < 8) (e : μ 3 s = nI z) (hz : z ≤ 40) (hI : ∀ k, k ≤ c + 1 → μ (5 + s) (i + k) = I k) (hc : i + c + 1 < z) : m_X8_wireBend Zc 0 (nI s) (nI i) (nI c) μ = some (wbF I c) := by
  unfold m_X8_wireBend wbF
  simp only [zA, x_a, x_al]
  rw [q_item hs e hz (by omega), ob_s, q_item hs e hz (by omega), ob_s, ob_s, hI c (by omega), Nat.add_assoc, hI (c + 1) (by omega)]
  by_cases h0 : c = 0
  · rw [if_pos h0, if_pos (by rw [h0]; rfl), Int32.sub_zero]
  · rw [if_neg h0, if_neg (by rw [x_eql (by omega) (by omega)]; exact h0), x_sl (by omega), show i + c - 1 = i + (c - 1) by omega, q_item hs e hz (by omega), ob_s, ob_s, hI (c - 1) (by omega)]
theorem r_bb {μ : MT} {a c : Nat} {I : Nat → Int32} (hI : ∀ k, k ≤ c + 1 → μ 109 (a + k) = I k) (hc : a + c + 1 < 320) : m_X9_bendBy Zc 106 (nI a) (nI c) μ = some (wbF I c) := by
  unfold m_X9_bendBy wbF
  simp only [zA, x_a, x_al]
  rw [al_109 (by omega), ob_s, al_109 (by omega), ob_s, ob_s, ob_s, hI c (by omega), Nat.add_assoc, hI (c + 1) (by omega)]
  by_cases h0 : c = 0
  · rw [if_pos h0, if_pos (by rw [h0]; rfl)]
  · rw [if_neg h0, if_neg (by rw [x_eql (by omega) (by omega)]; exact h0), x_sl (by omega), show a + c - 1 = a + (c - 1) by omega, al_109 (by omega), ob_s, hI (c - 1) (by omega)]
theorem q_all {μ : MT} {s z i n : Nat} {I : Nat → Int32} (hs : s < 8) (e : μ 3 s = nI z) (hz : z ≤ 40) (hI : ∀ k, k < n → μ (5 + s) (i + k) = I k) (hi : i + n ≤ z) : m_X6_allWithin Zc 1 (nI s) (nI i) (nI n) 9999 μ = some (if ∃ j, j < n ∧ ¬ (-9999 ≤ (I j).toInt ∧ (I j).toInt ≤ 9999) then 0 else 1) := by
  unfold m_X6_allWithin
  by_cases hb : ∃ j, j < n ∧ ¬ (-9999 ≤ (I j).toInt ∧ (I j).toInt ≤ 9999)
  · rw [if_pos hb]
    apply ok_eq
    refine ok_c (fun k => ∃ j, k ≤ j ∧ j < n ∧ ¬ (-9999 ≤ (I j).toInt ∧ (I j).toInt ≤ 9999)) 0 n (by omega) (by omega) rfl (by obtain ⟨j, h1, h2⟩ := hb; exact ⟨j, by omega, h1, h2⟩) ?_ ?_
    · rintro k _ hk ⟨j, h1, h2, h3⟩
      rw [if_neg (by rw [x_le (by omega) (by omega)]; omega), x_a, q_item hs e hz (by omega), ob_s, hI k hk]
      by_cases g1 : I k < -9999
      · rw [if_pos g1]
        exact ok_s (Or.inr ⟨_, rfl, ok_s rfl⟩)
      · rw [if_neg g1]
        by_cases g2 : I k ≤ 9999
        · rw [if_pos g2, ob_s, n1]
          refine ok_s (Or.inl ⟨rfl, j, ?_, h2, h3⟩)
          by_cases hkj : k = j
          · subst hkj
            rw [fa_lt, show (-9999 : Int32).toInt = -9999 from rfl] at g1
            rw [fa_le, show (9999 : Int32).toInt = 9999 from rfl] at g2
            exact absurd ⟨by omega, g2⟩ h3
          · omega
        · rw [if_neg g2]
          exact ok_s (Or.inr ⟨_, rfl, ok_s rfl⟩)
    · rintro ⟨j, h1, h2, h3⟩
      omega
  · rw [if_neg hb]
    apply ok_eq
    refine ok_c (fun k => True) 0 n (by omega) (by omega) rfl trivial ?_ ?_
    · rintro k _ hk _
      have hk2 : -9999 ≤ (I k).toInt ∧ (I k).toInt ≤ 9999 := Classical.byContradiction fun hq => hb ⟨k, hk, hq⟩
      rw [if_neg (by rw [x_le (by omega) (by omega)]; omega), x_a, q_item hs e hz (by omega), ob_s, hI k hk]
      rw [if_neg (show ¬ I k < -9999 by rw [fa_lt, show (-9999 : Int32).toInt = -9999 from rfl]; omega), if_pos (show I k ≤ 9999 by rw [fa_le, show (9999 : Int32).toInt = 9999 from rfl]; omega), ob_s, n1]
      exact ok_s (Or.inl ⟨rfl, trivial⟩)
    · rintro _
      rw [if_pos (by rw [x_le (by omega) (by omega)]; omega)]
      exact ok_s ⟨_, rfl, ok_s rfl⟩
theorem p_steel {μ : MT} {p s z i nc k : Nat} {I : Nat → Int32} {x : RS} (hp : isPl p) (e11 : μ 0 11 = nI p) (e0 : μ p 0 = nI nc) (hnc : nc ≤ 12) (hs : s < 8) (e : μ 3 s = nI z) (hz : z ≤ 40) (hI : ∀ k, k ≤ nc → μ (5 + s) (i + k) = I k) (hi : i + nc + 1 ≤ z) (hx : PIs μ 19 nc x) : m_X8_isSteel Zc 127 0 (nI s) (nI i) (nI k) μ = some (bI (stB I x.1 k nc = true)) := by
  unfold m_X8_isSteel
  simp only [zA, e11, mrd_p hp, ob_s, e0]
  apply ok_eq
  refine ok_c (fun c => stB I x.1 k c = true) 0 nc (by omega) (by omega) rfl rfl ?_ ?_
  · intro c _ hc hJ
    rw [if_neg (by rw [x_le (by omega) (by omega)]; omega), p_wb hs e hz (fun q hq => hI q (by omega)) (by omega), ob_s, zp_3 pn19, al_P pn19 (by omega) (by omega) (by omega), ob_s, (hx.2.2.2 c hc).2.1, x_d4, ob_s]
    by_cases hq : wbF I c = nI k * x.1 (24 + c) / 4
    · rw [if_pos hq, n1]
      exact ok_s (Or.inl ⟨rfl, by rw [stB_s, hJ]; simp [hq]⟩)
    · rw [if_neg hq]
      refine ok_s (Or.inr ⟨_, rfl, ok_s ?_⟩)
      have h1 : stB I x.1 k (c + 1) = false := by rw [stB_s]; simp [hq]
      have h2 := stB_f (nc - (c + 1)) h1
      rw [show c + 1 + (nc - (c + 1)) = nc by omega] at h2
      rw [h2]
      exact (bI_f (by decide)).symm
  · intro hJ
    rw [if_pos (by rw [x_le (by omega) (by omega)]; omega)]
    exact ok_s ⟨_, rfl, ok_s (bI_t hJ).symm⟩
theorem p_stl {μ : MT} {p s z i nc : Nat} {I : Nat → Int32} {x : RS} (hp : isPl p) (e11 : μ 0 11 = nI p) (e0 : μ p 0 = nI nc) (hnc : nc ≤ 12) (hs : s < 8) (e : μ 3 s = nI z) (hz : z ≤ 40) (hI : ∀ k, k ≤ nc → μ (5 + s) (i + k) = I k) (hi : i + nc + 1 ≤ z) (hx : PIs μ 19 nc x) : m_X8_steelOf Zc 127 0 (nI s) (nI i) μ = some (slF I x.1 nc 9 1) := by
  unfold m_X8_steelOf
  apply ok_eq
  refine ok_c (fun k => slF I x.1 nc (10 - k) k = slF I x.1 nc 9 1) 1 10 (by omega) (by omega) rfl rfl ?_ ?_
  · intro k hk1 hk hJ
    rw [if_neg (by rw [x_llt (by omega) (by omega)]; omega), p_steel hp e11 e0 hnc hs e hz hI hi hx, ob_s]
    rw [show 10 - k = (10 - (k + 1)) + 1 by omega, slF] at hJ
    by_cases hq : stB I x.1 k nc = true
    · rw [bI_t hq, if_neg (by decide)]
      rw [if_pos hq] at hJ
      exact ok_s (Or.inr ⟨_, rfl, ok_s hJ⟩)
    · rw [bI_f hq, if_pos rfl, ob_s, n1]
      rw [if_neg hq] at hJ
      exact ok_s (Or.inl ⟨rfl, hJ⟩)
  · intro hJ
    rw [if_pos (by decide)]
    exact ok_s ⟨_, rfl, ok_s hJ⟩
