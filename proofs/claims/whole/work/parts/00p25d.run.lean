theorem c_s2 {μ : MT} {p d nc ns na nb : Nat} (h : Core μ p d nc ns na nb) (v : Int32) : Core (u2 (u2 (u2 μ 0 15 v) 106 0 0) 106 1 v) p d nc ns na nb := by
  have hp := isPl_le h.2.2.2.1.1
  refine c_gen h ?_ ?_ ?_ ?_ (Or.inl ⟨?_, ?_⟩) (Or.inl ⟨?_, ?_, ?_, ?_, ?_⟩) (Or.inl ⟨?_, ?_⟩) (Or.inl ⟨?_, ?_⟩)
  · simp [u2_r]
  · intro j hj
    simp only [u2_r]
    grind
  · intro j hj
    simp only [u2_r]
    grind
  · intro k hk
    simp only [u2_w]
    grind
  · simp [u2_w]
  · simp [u2_w]
  · simp [u2_r]
  · simp [u2_r]
  · simp [u2_r]
  · simp [u2_w]
  · intro k h1 h2
    simp only [u2_w]
    grind
  · intro j _ _
    simp [u2_r]
  · simp [u2_w]
  · simp [u2_r]
  · simp [u2_w]
theorem q_item {μ : MT} {s z j : Nat} (hs : s < 8) (e : μ 3 s = nI z) (hz : z ≤ 40) (hj : j < z) : m_X6_itemAt Zc 1 (nI s) (nI j) μ = some (μ (5 + s) j) := by
  have hc : (0 ≤ (nI j).toInt ∧ 0 ≤ (1 : Int32).toInt ∧ (nI j).toInt + (1 : Int32).toInt ≤ z) := by rw [ti_n (by omega), show (1 : Int32).toInt = 1 from rfl]; omega
  unfold m_X6_itemAt
  rw [q_find hs e hz, ob_s, if_pos hc, if_pos rfl]
  simp only [zA]
  rw [ard_4 hs, ob_s, al_5 hs (by omega), ob_s]
/-- whether items tell an order -/
def toF (I : Nat → Int32) (ns : Nat) : Nat → Nat → Int32 → Bool
  | 0, _, _ => true
  | n + 1, k, sn => if (0 ≤ (I k).toInt ∧ (I k).toInt < ns) ∧ ¬ ((sn >>> (I k &&& 31)) &&& 1) = 1 then toF I ns n (k + 1) (sn ||| (1 <<< (I k &&& 31))) else false
theorem toF_ok {I : Nat → Int32} {ns : Nat} : ∀ (n k : Nat) (sn : Int32), toF I ns n k sn = true → ∀ j, k ≤ j → j < k + n → ∃ s, s < ns ∧ I j = nI s
  | 0, k, sn, _, j, h1, h2 => by omega
  | n + 1, k, sn, h, j, h1, h2 => by
    rw [toF] at h
    by_cases hc : (0 ≤ (I k).toInt ∧ (I k).toInt < ns) ∧ ¬ ((sn >>> (I k &&& 31)) &&& 1) = 1
    · rw [if_pos hc] at h
      by_cases hj : j = k
      · subst hj
        exact nI_ex hc.1.1 hc.1.2
      · exact toF_ok n (k + 1) _ h j (by omega) (by omega)
    · rw [if_neg hc] at h
      exact absurd h (by decide)
theorem q_tells {μ : MT} {s z i ns : Nat} (hs : s < 8) (e : μ 3 s = nI z) (hz : z ≤ 40) (hi : i + ns ≤ z) (hns : ns ≤ 6) : m_X6_tellsOrder Zc 1 (nI s) (nI i) (nI ns) μ = some (bI (toF (fun k => μ (5 + s) (i + k)) ns ns 0 0 = true)) := by
  unfold m_X6_tellsOrder
  apply ok_eq
  refine ok_l (fun m q => ∃ k sn, k + m = ns ∧ q = (sn, nI k) ∧ toF (fun k => μ (5 + s) (i + k)) ns m k sn = toF (fun k => μ (5 + s) (i + k)) ns ns 0 0) ns (by omega) ⟨0, 0, by omega, rfl, rfl⟩ ?_
  rintro m q ⟨k, sn, hk, rfl, ht⟩
  cases m with
  | zero =>
    have : k = ns := by omega
    subst this
    simp (disch := omega) only [x_le, Nat.le_refl, if_true]
    refine ok_s (Or.inl ⟨_, rfl, ok_s ?_⟩)
    rw [← ht]
    exact (bI_t rfl).symm
  | succ m =>
    simp (disch := omega) only [x_le, show ¬ ns ≤ k by omega, if_false, x_a]
    rw [q_item hs e hz (by omega), ob_s]
    rw [toF] at ht
    generalize μ (5 + s) (i + k) = v at ht ⊢
    by_cases h1 : v < 0
    · rw [if_pos h1]
      rw [fa_lt, show (0 : Int32).toInt = 0 from rfl] at h1
      rw [if_neg (fun hq => by omega)] at ht
      exact ok_s (Or.inl ⟨_, rfl, ok_s (by rw [← ht, bI_f (by decide)])⟩)
    · rw [if_neg h1]
      rw [fa_lt, show (0 : Int32).toInt = 0 from rfl] at h1
      by_cases h2 : nI ns ≤ v
      · rw [if_pos h2]
        rw [fa_le, ti_n (by omega)] at h2
        rw [if_neg (fun hq => by omega)] at ht
        exact ok_s (Or.inl ⟨_, rfl, ok_s (by rw [← ht, bI_f (by decide)])⟩)
      · rw [if_neg h2]
        rw [fa_le, ti_n (by omega)] at h2
        by_cases h3 : ((sn >>> (v &&& 31)) &&& 1) = 1
        · rw [if_pos h3]
          rw [if_neg (fun hq => hq.2 h3)] at ht
          exact ok_s (Or.inl ⟨_, rfl, ok_s (by rw [← ht, bI_f (by decide)])⟩)
        · rw [if_neg h3]
          rw [if_pos ⟨by omega, h3⟩] at ht
          simp only [ob_s, n1]
          exact ok_s (Or.inr ⟨_, m, rfl, by omega, k + 1, _, by omega, rfl, ht⟩)
theorem op_run {ν : MT} (h : Inv ν) (a0 a1 : Int32) : OkI Inv (m_X8_run Zc 127 0 a0 a1 ν) (fun μ => m_X9_run Zc 106 a0 a1 μ) := by
  obtain ⟨p, d, nc, ns, na, nb, h⟩ := h
  obtain ⟨c1, c2, c3, ⟨hp, hd, hpd, e11, e12⟩, c5, c6, c7, c8, c9, c10, c11, c12, c13⟩ := id h
  obtain ⟨hnc, hns, hna, hnb⟩ := pl_bd c5
  have hpl2 := isPl_le hp
  have e0 := c5.1.1
  have e1 := c5.1.2.1
  have hz4 := c5.2.1
  by_cases hs : 0 ≤ a0.toInt ∧ a0.toInt < 8
  case neg =>
    refine okI_of (a := -1000001) (P := fun μ => μ = ν) ?_ ?_
    · unfold m_X8_run
      simp only [zA]
      rw [q_hasN, ob_s, bI_f hs, if_pos rfl]
      exact ok_s ⟨rfl, rfl⟩
    · rintro μ rfl
      unfold m_X9_run
      rw [ob_s, q_isSh, ob_s, bI_f hs, if_pos rfl]
      exact ok_s ⟨rfl, p, d, nc, ns, na, nb, c_x h (FrX.refl μ).w0⟩
  obtain ⟨s, hs1, rfl⟩ := nI_ex (n := 8) hs.1 hs.2
  by_cases hz : nc = 0
  · refine okI_of (a := -1000002) (P := fun μ => μ = ν) ?_ ?_
    · unfold m_X8_run
      simp only [zA]
      rw [q_hasN, ob_s, bI_t hs, if_neg (by decide), e11, mrd_p hp, ob_s, q_none e0 (by omega), ob_s, bI_t hz, if_neg (by decide)]
      exact ok_s ⟨rfl, rfl⟩
    · rintro μ rfl
      have m5 : u2 μ 106 0 0 106 5 = nI nc := c6.1
      unfold m_X9_run
      rw [ob_s, q_isSh, ob_s, bI_t hs, if_neg (by decide), m5, if_pos (by rw [hz]; rfl)]
      exact ok_s ⟨rfl, p, d, nc, ns, na, nb, c_x h (FrX.refl μ).w0⟩
  have hz' : ¬ nI nc = 0 := by rw [x_eql (by omega) (by omega)]; exact hz
  rcases c1.1 s hs1 with ⟨q1, q2⟩ | ⟨z, l, hzl, hl, q1, q2, q3, q4⟩
  · refine okI_of (a := -1000010 - 1) (P := fun μ => μ = u2 ν 0 15 1) ?_ ?_
    · unfold m_X8_run m_X8_found
      simp only [zA]
      rw [q_hasN, ob_s, bI_t hs, if_neg (by decide), e11, mrd_p hp, ob_s, q_none e0 (by omega), ob_s, bI_f hz, if_pos rfl, ob_s, q_find1 hs1 q1, ob_s, if_neg (by decide), ob_s, ob_s]
      exact ok_s ⟨rfl, rfl⟩
    · rintro μ rfl
      have m5 : u2 (u2 ν 0 15 1) 106 0 0 106 5 = nI nc := c6.1
      have m107 : u2 (u2 ν 0 15 1) 106 0 0 107 = ν 107 := rfl
      unfold m_X9_run m_X9_finding
      rw [ob_s, q_isSh, ob_s, bI_t hs, if_neg (by decide), m5, if_neg hz']
      simp only [zA]
      rw [al_107 hs1, ob_s, m107, q2, if_neg (by decide), ob_s, ob_s]
      exact ok_s ⟨rfl, p, d, nc, ns, na, nb, c_s2 h 1⟩
  have fnd : m_X6_findingAt Zc 1 (nI s) a1 (nI ns) ν = some (if 0 ≤ a1.toInt ∧ a1.toInt + ns ≤ z then 0 else 2) := by
    rw [q_find hs1 q1 hzl, ti_n (by omega)]
    by_cases hc : 0 ≤ a1.toInt ∧ a1.toInt + ns ≤ z
    · rw [if_pos hc, if_pos (by omega)]
    · rw [if_neg hc, if_neg (by omega)]
  by_cases hpc : 0 ≤ a1.toInt ∧ a1.toInt + ns ≤ z
  case neg =>
    refine okI_of (a := -1000010 - 2) (P := fun μ => μ = u2 ν 0 15 2) ?_ ?_
    · unfold m_X8_run m_X8_found
      simp only [zA]
      rw [q_hasN, ob_s, bI_t hs, if_neg (by decide), e11, mrd_p hp, ob_s, q_none e0 (by omega), ob_s, bI_f hz, if_pos rfl, ob_s, e1, fnd, ob_s, if_neg hpc, if_neg (by decide), ob_s, ob_s]
      exact ok_s ⟨rfl, rfl⟩
    · rintro μ rfl
      have m5 : u2 (u2 ν 0 15 2) 106 0 0 106 5 = nI nc := c6.1
      have m6 : u2 (u2 ν 0 15 2) 106 0 0 106 6 = nI ns := c6.2.1
      have m107 : u2 (u2 ν 0 15 2) 106 0 0 107 = ν 107 := rfl
      have m108 : u2 (u2 ν 0 15 2) 106 0 0 108 = ν 108 := rfl
      unfold m_X9_run m_X9_finding
      rw [ob_s, q_isSh, ob_s, bI_t hs, if_neg (by decide), m5, if_neg hz']
      simp only [zA]
      rw [al_107 hs1, ob_s, m107, q4, if_pos (by rw [x_lle (by omega) (by omega)]; omega)]
      refine ok_b (R1 := fun q => q = Sum.inr (u2 (u2 ν 0 15 2) 106 0 0)) ?_ ?_
      · by_cases h1 : a1 < 0
        · rw [if_pos h1]
          exact ok_s rfl
        · rw [if_neg h1, al_108 hs1, ob_s, m108, q2, m6]
          rw [fa_lt, show (0 : Int32).toInt = 0 from rfl] at h1
          rw [if_neg (by rw [lg_cmp_le, fa_le64, lg_i2l_add, Int32.toInt_toInt64, ti_n (by omega), ti_n (by omega)]; omega)]
          exact ok_s rfl
      · rintro q rfl
        exact ok_s ⟨rfl, p, d, nc, ns, na, nb, c_s2 h 2⟩
  obtain ⟨i, hi, rfl⟩ := nI_ex (n := 41) hpc.1 (by omega)
  rw [ti_n (by omega)] at hpc
  have hti := q_tells (μ := ν) (i := i) (ns := ns) hs1 q1 hzl (by omega) hns
  have hI : ∀ k, k < ns → ν 109 (40 * s + (i + k)) = ν (5 + s) (i + k) := fun k hk => (c1.2 s (i + k) hs1 (by omega)).symm
  generalize hIe : (fun k => ν (5 + s) (i + k)) = I at hti
  have hI2 : ∀ k, k < ns → ν 109 (40 * s + i + k) = I k := fun k hk => by rw [← hIe, Nat.add_assoc]; exact hI k hk
  have hI3 : ∀ k, ν (5 + s) (i + k) = I k := fun k => by rw [← hIe]
  have ri : ((0 : Int) ≤ (nI i).toInt ∧ (nI i).toInt + ns ≤ z) := by rw [ti_n (by omega)]; omega
  by_cases hto : toF I ns ns 0 0 = true
  case neg =>
    refine okI_of (a := -1000001) (P := fun μ => μ = ν) ?_ ?_
    · unfold m_X8_run
      simp only [zA]
      rw [q_hasN, ob_s, bI_t hs, if_neg (by decide), e11, mrd_p hp, ob_s, q_none e0 (by omega), ob_s, bI_f hz, if_pos rfl, ob_s, e1, fnd, ob_s, if_pos ri, if_pos rfl, ob_s, e1, hti, ob_s, bI_f hto, if_pos rfl]
      exact ok_s ⟨rfl, rfl⟩
    · rintro μ rfl
      have m5 : u2 μ 106 0 0 106 5 = nI nc := c6.1
      have m6 : u2 μ 106 0 0 106 6 = nI ns := c6.2.1
      have m107 : u2 μ 106 0 0 107 = μ 107 := rfl
      have m108 : u2 μ 106 0 0 108 = μ 108 := rfl
      have m109 : u2 μ 106 0 0 109 = μ 109 := rfl
      unfold m_X9_run
      rw [ob_s, q_isSh, ob_s, bI_t hs, if_neg (by decide), m5, if_neg hz']
      simp only [zA]
      rw [al_107 hs1, ob_s, m107, q4, if_pos (by rw [x_lle (by omega) (by omega)]; omega), if_neg (by rw [x_ltl (by omega) (by omega)]; omega), al_108 hs1, ob_s, m108, q2, m6, if_pos (by rw [lg_cmp_le, fa_le64, lg_i2l_add, Int32.toInt_toInt64, ti_n (by omega), ti_n (by omega), ti_n (by omega)]; omega)]
      refine ok_b (R1 := fun q => q = Sum.inl (-1000001, u2 μ 106 0 0)) ?_ ?_
      · refine ok_l (fun m q => ∃ k sn, k + m = ns ∧ q = (sn, nI k) ∧ toF I ns m k sn = toF I ns ns 0 0) ns (by omega) ⟨0, 0, by omega, rfl, rfl⟩ ?_
        rintro m q ⟨k, sn, hk, rfl, ht⟩
        cases m with
        | zero => exact absurd ht.symm hto
        | succ m =>
          simp (disch := omega) only [x_le, show ¬ ns ≤ k by omega, if_false, x_lm, x_a]
          rw [al_109 (by omega), ob_s, m109, hI2 k (by omega), q_in0 (by omega), ob_s]
          rw [toF] at ht
          by_cases h1 : 0 ≤ (I k).toInt ∧ (I k).toInt < ns
          · rw [bI_t h1, if_neg (by decide)]
            by_cases h3 : ((sn >>> (I k &&& 31)) &&& 1) = 1
            · rw [if_pos h3]
              exact ok_s (Or.inl ⟨_, rfl, ok_s rfl⟩)
            · rw [if_neg h3]
              rw [if_pos ⟨h1, h3⟩] at ht
              simp only [ob_s, n1]
              exact ok_s (Or.inr ⟨_, m, rfl, by omega, k + 1, _, by omega, rfl, ht⟩)
          · rw [bI_f h1, if_pos rfl]
            exact ok_s (Or.inl ⟨_, rfl, ok_s rfl⟩)
      · rintro q rfl
        exact ok_s ⟨rfl, p, d, nc, ns, na, nb, c_x h (FrX.refl μ).w0⟩
  have hIo : ∀ k, k < ns → ∃ t, t < ns ∧ I k = nI t := fun k hk => toF_ok ns 0 0 hto k (by omega) (by omega)
  refine okI_of (a := offA nc (goA nc ns na (ν 110) (ν 117) I (-1000000)).1) (P := fun μ => PIs μ 19 nc (goA nc ns na (ν 110) (ν 117) I (-1000000)) ∧ (∀ k, k ≠ 0 → k ≠ 17 → k < 19 ∨ 25 < k → μ k = ν k) ∧ (∀ j, j ≠ 13 → j ≠ 15 → μ 0 j = ν 0 j) ∧ μ 0 13 = 1 ∧ μ 0 15 = 0 ∧ (∀ k, k < ns → μ 17 k = I k)) ?_ ?_
  · unfold m_X8_run
    simp only [zA]
    rw [q_hasN, ob_s, bI_t hs, if_neg (by decide), e11, mrd_p hp, ob_s, q_none e0 (by omega), ob_s, bI_f hz, if_pos rfl, ob_s, e1, fnd, ob_s, if_pos ri, if_pos rfl, ob_s, e1, hti, ob_s, bI_t hto, if_neg (by decide)]
    refine ok_for (fun k μ => (∀ q, q ≠ 17 → μ q = ν q) ∧ ∀ q, q < k → μ 17 q = I q) 0 ns (by omega) (by omega) rfl ⟨fun _ _ => rfl, fun q hq => by omega⟩ ?_ ?_
    · rintro k μ _ hk ⟨g1, g2⟩
      have f11 : μ 0 11 = nI p := by rw [g1 0 (by omega)]; exact e11
      have f1 : μ p 1 = nI ns := by rw [g1 p (by omega)]; exact e1
      simp only [f11, mrd_p hp, ob_s, f1]
      rw [if_neg (by rw [x_le (by omega) (by omega)]; omega), x_a, q_item hs1 (by rw [g1 3 (by omega)]; exact q1) hzl (by omega), ob_s, as_17 (by omega), ob_s, n1, g1 (5 + s) (by omega), hI3]
      refine ok_s (Or.inl ⟨_, rfl, fun q hq => ?_, fun q hq => ?_⟩)
      · rw [u2_w, if_neg hq]; exact g1 q hq
      · rw [u2_r]
        by_cases hqk : q = k
        · rw [if_pos ⟨rfl, hqk⟩, hqk]
        · rw [if_neg (by omega)]; exact g2 q (by omega)
    · rintro ν1 ⟨g, g17⟩
      have f11 : ν1 0 11 = nI p := by rw [g 0 (by omega)]; exact e11
      have f1 : ν1 p 1 = nI ns := by rw [g p (by omega)]; exact e1
      simp only [f11, mrd_p hp, ob_s, f1]
      rw [if_pos (by rw [x_le (by omega) (by omega)]; omega)]
      refine ok_s ⟨_, rfl, ?_⟩
      have hst := p_stands (μ := ν1) (nc := nc) (ns := ns) (na := na) (nb := nb) hp f11 (by
        unfold PlIs
        rw [g p (by omega), g (p + 1) (by omega), g (p + 2) (by omega), g (p + 3) (by omega), g (p + 4) (by omega), g (p + 5) (by omega), g (p + 6) (by omega), g 110 (by omega), g 111 (by omega), g 112 (by omega)]
        exact c5) (by omega) (fun j hj => by rw [g17 j hj]; exact hIo j hj) (by rw [g 16 (by omega)]; exact fun c hc => by rw [(c7 c hc).1]; exact (c7 c hc).2)
      have hX : goA nc ns na (ν1 110) (ν1 16) (ν1 17) (-1) = goA nc ns na (ν 110) (ν 117) I (-1000000) := by
        rw [g 110 (by omega), g 16 (by omega)]
        refine goA_c (fun c hc => (c7 c hc).1) g17 (fun k hk => ?_)
        obtain ⟨t, ht, hk2⟩ := hIo k hk
        rw [g17 k hk, hk2]
        exact ⟨fun q => absurd q (m1n (by omega)), fun q => absurd q (mNn (by omega))⟩
      rw [hX] at hst
      refine ok_b hst ?_
      rintro ⟨r, ν2⟩ ⟨h1, h2, h3⟩
      simp only at h1 h2 h3
      unfold m_X8_fine
      simp only [ob_s]
      have k2 : ∀ k, k ≠ 0 → k ≠ 17 → k < 19 ∨ 25 < k → u2 ν2 0 15 0 k = ν k := fun k a b c => by rw [u2_w, if_neg a, h3 k (by omega), u2_w, if_neg a, g k b]
      refine ok_s ⟨h1, ?_, k2, fun j hj hj2 => ?_, ?_, ?_, fun k hk => ?_⟩
      · exact h2
      · show u2 ν2 0 15 0 0 j = ν 0 j
        rw [u2_r, if_neg (by omega), h3 0 (by omega), u2_r, if_neg (by omega), g 0 (by omega)]
      · show u2 ν2 0 15 0 0 13 = 1
        rw [u2_r, if_neg (by omega), h3 0 (by omega)]; simp [u2_r]
      · show u2 ν2 0 15 0 0 15 = 0
        simp [u2_r]
      · show u2 ν2 0 15 0 17 k = I k
        rw [u2_r, if_neg (by omega), h3 17 (by omega), u2_w, if_neg (by omega)]; exact g17 k hk
  · rintro μ ⟨f1, f2, f3, f4, f4b, f5⟩
    have m106 : μ 106 = ν 106 := f2 106 (by omega) (by omega) (by omega)
    have m5 : u2 μ 106 0 0 106 5 = nI nc := by rw [u2_r, if_neg (by omega), m106]; exact c6.1
    have m6 : u2 μ 106 0 0 106 6 = nI ns := by rw [u2_r, if_neg (by omega), m106]; exact c6.2.1
    have m107 : u2 μ 106 0 0 107 = ν 107 := by rw [u2_w, if_neg (by omega)]; exact f2 107 (by omega) (by omega) (by omega)
    have m108 : u2 μ 106 0 0 108 = ν 108 := by rw [u2_w, if_neg (by omega)]; exact f2 108 (by omega) (by omega) (by omega)
    have m109 : u2 μ 106 0 0 109 = ν 109 := by rw [u2_w, if_neg (by omega)]; exact f2 109 (by omega) (by omega) (by omega)
    unfold m_X9_run
    rw [ob_s, q_isSh, ob_s, bI_t hs, if_neg (by decide), m5, if_neg hz']
    simp only [zA]
    rw [al_107 hs1, ob_s, m107, q4, if_pos (by rw [x_lle (by omega) (by omega)]; omega), if_neg (by rw [x_ltl (by omega) (by omega)]; omega), al_108 hs1, ob_s, m108, q2, m6, if_pos (by rw [lg_cmp_le, fa_le64, lg_i2l_add, Int32.toInt_toInt64, ti_n (by omega), ti_n (by omega), ti_n (by omega)]; omega)]
    refine ok_b (R1 := fun q => ∃ ν', q = Sum.inl (offA nc (goA nc ns na (ν 110) (ν 117) I (-1000000)).1, ν') ∧ Inv ν') ?_ ?_
    · refine ok_l (fun m q => ∃ k sn, k + m = ns ∧ q = (sn, nI k) ∧ toF I ns m k sn = toF I ns ns 0 0) ns (by omega) ⟨0, 0, by omega, rfl, rfl⟩ ?_
      rintro m q ⟨k, sn, hk, rfl, ht⟩
      cases m with
      | zero =>
        have : k = ns := by omega
        subst this
        simp (disch := omega) only [x_le, Nat.le_refl, if_true]
        refine ok_s (Or.inl ⟨_, rfl, ?_⟩)
        simp only [jn, ob_s]
        refine ok_for (fun j ξ => (∀ q, q ≠ 106 → q ≠ 124 → ξ q = μ q) ∧ (∀ q, q ≠ 0 → q ≠ 1 → ξ 106 q = ν 106 q) ∧ ξ 106 1 = 0 ∧ ∀ q, q < j → ξ 124 q = if q < k then I q else nI q) 0 6 (by omega) (by omega) rfl ⟨fun q a b => ?_, fun q a b => ?_, ?_, fun q hq => by omega⟩ ?_ ?_
        · rw [u2_w, if_neg a, u2_w, if_neg a]
        · rw [u2_r, if_neg (by omega), u2_r, if_neg (by omega), m106]
        · simp [u2_r]
        · rintro j ξ _ hj ⟨g1, g2, g3, g4⟩
          have x6 : ξ 106 6 = nI k := by rw [g2 6 (by omega) (by omega)]; exact c6.2.1
          have x109 : ξ 109 = ν 109 := by rw [g1 109 (by omega) (by omega)]; exact f2 109 (by omega) (by omega) (by omega)
          have hz3 : (if nI k ≤ nI j then some (nI j) else (ald Zc ξ 109 (nI (40 * s) + nI i + nI j)).bind fun x39 => some x39) = some (if j < k then I j else nI j) := by
            simp (disch := omega) only [x_le, x_a]
            by_cases hjk : j < k
            · rw [if_neg (by omega), if_pos hjk, al_109 (by omega), ob_s, x109, hI2 j hjk]
            · rw [if_pos (by omega), if_neg hjk]
          simp (disch := omega) only [x_lle, show ¬ 6 ≤ j by omega, if_false, x6, x_lm]
          rw [hz3, ob_s, as_124 (by omega), ob_s, n1]
          refine ok_s (Or.inl ⟨_, rfl, fun q a b => ?_, fun q a b => ?_, ?_, fun q hq => ?_⟩)
          · rw [u2_w, if_neg b]; exact g1 q a b
          · rw [u2_r, if_neg (by omega)]; exact g2 q a b
          · rw [u2_r, if_neg (by omega)]; exact g3
          · rw [u2_r]
            by_cases hqj : q = j
            · rw [if_pos ⟨rfl, hqj⟩, hqj]
            · rw [if_neg (by omega)]; exact g4 q (by omega)
        · rintro μ1 ⟨g, g6, g7, g124⟩
          simp (disch := omega) only [x_lle, Nat.le_refl, if_true]
          refine ok_s ⟨_, rfl, ?_⟩
          have g110 : μ1 110 = ν 110 := by rw [g 110 (by omega) (by omega), f2 110 (by omega) (by omega) (by omega)]
          have g117 : μ1 117 = ν 117 := by rw [g 117 (by omega) (by omega), f2 117 (by omega) (by omega) (by omega)]
          have h124 : ∀ q, q < k → μ1 124 q = I q := fun q hq => by rw [g124 q (by omega), if_pos hq]
          have hX2 : goA nc k na (μ1 110) (μ1 117) (μ1 124) (-1000000) = goA nc k na (ν 110) (ν 117) I (-1000000) := by
            rw [g110, g117]
            refine goA_c (fun c _ => rfl) h124 (fun q hq => ?_)
            rw [h124 q hq]
          refine r_runs (nc := nc) (ns := k) (na := na) (by rw [g6 5 (by omega) (by omega)]; exact c6.1) (by rw [g6 6 (by omega) (by omega)]; exact c6.2.1) (by rw [g6 7 (by omega) (by omega)]; exact c6.2.2.1) (by omega) hnc hns hna (by rw [g110]; exact pl_act c5) (by rw [g117]; exact fun c hc => (c7 c hc).2) ?_
          rw [hX2]
          intro ν3 r1 r2 r3 r4 r5 r6
          refine ok_s ⟨_, rfl, p, d, nc, k, na, nb, ?_⟩
          have hk : ∀ q, q ≠ 0 → q ≠ 17 → q ≠ 106 → q < 19 ∨ (25 < q ∧ q < 118) ∨ 125 < q → ν3 q = ν q := fun q a b c e => by rw [r5 q c (by omega), g q c (by omega), f2 q a b (by omega)]
          have h0 : ν3 0 = μ 0 := by rw [r5 0 (by omega) (by omega), g 0 (by omega) (by omega)]
          have hj : ∀ j, j ≠ 0 → j ≠ 1 → j ≠ 31 → j ≠ 35 → j ≠ 37 → ν3 106 j = ν 106 j := fun j a a1 b c e => by rw [r6 j b c e, g6 j a a1]
          refine c_gen h ?_ ?_ ?_ ?_ (Or.inr fun q hq => ?_) (Or.inr ⟨goA nc k na (ν 110) (ν 117) I (-1000000), ?_, ?_, Or.inl ⟨?_, r1, r2, r3⟩⟩) (Or.inl ⟨?_, ?_⟩) (Or.inl ⟨?_, ?_⟩)
          · rw [h0, f4b, r6 1 (by omega) (by omega) (by omega), g7]
          · intro j hjj
            rw [h0, f3 j (by omega) (by omega)]
          · intro j hjj
            exact hj j (by omega) (by omega) (by omega) (by omega) (by omega)
          · intro q hkk
            exact hk q (by omega) (by omega) (by omega) (by omega)
          · obtain ⟨t, ht1, ht2⟩ := hIo q hq
            refine ⟨t, ht1, ?_, ?_⟩
            · rw [r5 17 (by omega) (by omega), g 17 (by omega) (by omega), f5 q hq, ht2]
            · rw [r4 q (by omega), h124 q hq, ht2]
          · have hq : ∀ q, 19 ≤ q → q < 26 → ν3 q = μ q := fun q a b => by rw [r5 q (by omega) (by omega), g q (by omega) (by omega)]
            show PRel nc (ν3 19) (ν3 20) (ν3 21) (ν3 22) (ν3 23) (ν3 24) (ν3 25) _
            rw [hq 19 (by omega) (by omega), hq 20 (by omega) (by omega), hq 21 (by omega) (by omega), hq 22 (by omega) (by omega), hq 23 (by omega) (by omega), hq 24 (by omega) (by omega), hq 25 (by omega) (by omega)]
            exact f1
          · exact bd_go hnc hns hna (pl_act c5) (fun c hc => (c7 c hc).2)
          · rw [h0]; exact f4
          · intro j a b
            rw [hk 33 (by omega) (by omega) (by omega) (by omega)]
          · exact hk 36 (by omega) (by omega) (by omega) (by omega)
          · rw [hk 87 (by omega) (by omega) (by omega) (by omega)]
          · exact hk 88 (by omega) (by omega) (by omega) (by omega)
      | succ m =>
        simp (disch := omega) only [x_le, show ¬ ns ≤ k by omega, if_false, x_lm, x_a]
        rw [al_109 (by omega), ob_s, m109, hI2 k (by omega), q_in0 (by omega), ob_s]
        rw [toF] at ht
        by_cases h1 : 0 ≤ (I k).toInt ∧ (I k).toInt < ns
        · rw [bI_t h1, if_neg (by decide)]
          by_cases h3 : ((sn >>> (I k &&& 31)) &&& 1) = 1
          · rw [if_neg (fun hq => hq.2 h3), hto] at ht
            exact absurd ht (by decide)
          · rw [if_neg h3]
            rw [if_pos ⟨h1, h3⟩] at ht
            simp only [ob_s, n1]
            exact ok_s (Or.inr ⟨_, m, rfl, by omega, k + 1, _, by omega, rfl, ht⟩)
        · rw [if_neg (fun hq => h1 hq.1), hto] at ht
          exact absurd ht (by decide)
    · rintro q ⟨ν', rfl, hν⟩
      exact ok_s ⟨rfl, hν⟩
