theorem q_rng {a : Int32} {n : Nat} (hn : n < 1000000) : (if a < 0 then some 0 else if nI n ≤ a then some 0 else some (1 : Int32)) = some (bI (0 ≤ a.toInt ∧ a.toInt < n)) := by
  unfold bI
  simp only [fa_lt, fa_le, show (0 : Int32).toInt = 0 from rfl, ti_n (show n < 2 ^ 31 by omega)]
  by_cases h1 : a.toInt < 0
  · rw [if_pos h1, if_neg (by omega)]
  · rw [if_neg h1]
    by_cases h2 : (n : Int) ≤ a.toInt
    · rw [if_pos h2, if_neg (by omega)]
    · rw [if_neg h2, if_pos (by omega)]
theorem q_hasAct {μ : MT} {p na : Nat} {a : Int32} (e : μ p 2 = nI na) (hn : na < 1000000) : m_X3_hasAct Zc p a μ = some (bI (0 ≤ a.toInt ∧ a.toInt < na)) := by
  unfold m_X3_hasAct
  rw [e]
  exact q_rng hn
theorem q_hasCell {μ : MT} {p n : Nat} {a : Int32} (e : μ p 0 = nI n) (hn : n < 1000000) : m_X3_hasCell Zc p a μ = some (bI (0 ≤ a.toInt ∧ a.toInt < n)) := by
  unfold m_X3_hasCell
  rw [e]
  exact q_rng hn
theorem q_hasSeam {μ : MT} {p n : Nat} {a : Int32} (e : μ p 1 = nI n) (hn : n < 1000000) : m_X3_hasSeam Zc p a μ = some (bI (0 ≤ a.toInt ∧ a.toInt < n)) := by
  unfold m_X3_hasSeam
  rw [e]
  exact q_rng hn
theorem q_isAct {μ : MT} {na : Nat} {a : Int32} (e : μ 106 7 = nI na) (hn : na < 1000000) : m_X9_isAct Zc 106 a μ = some (bI (0 ≤ a.toInt ∧ a.toInt < na)) := by
  unfold m_X9_isAct
  rw [e, q_in0 hn, ob_s, bz_b, ob_s]
theorem q_isCell {μ : MT} {n : Nat} {a : Int32} (e : μ 106 5 = nI n) (hn : n < 1000000) : m_X9_isCell Zc 106 a μ = some (bI (0 ≤ a.toInt ∧ a.toInt < n)) := by
  unfold m_X9_isCell
  rw [e, q_in0 hn, ob_s, bz_b, ob_s]
theorem q_hasKind {μ : MT} {a : Int32} : m_X0_hasKind Zc a μ = some (bI (0 ≤ a.toInt ∧ a.toInt < 8)) := q_rng (n := 8) (by omega)
theorem al_p {μ : MT} {p i j : Nat} (hp : isPl p) (hj : 1 ≤ j) (hj2 : j ≤ 4) (hi : i < 40) : ald Zc μ (p + j) (nI i) = some (μ (p + j) i) := by
  obtain ⟨z1, z2, z3, z4, z5, z6⟩ := zql hp
  rcases (by omega : j = 1 ∨ j = 2 ∨ j = 3 ∨ j = 4) with rfl | rfl | rfl | rfl
  · exact ald_n z1 hi (by omega)
  · exact ald_n z2 hi (by omega)
  · exact ald_n z3 hi (by omega)
  · exact ald_n z4 hi (by omega)
theorem al_p5 {μ : MT} {p i j : Nat} (hp : isPl p) (hj : 5 ≤ j) (hj2 : j ≤ 6) (hi : i < 6) : ald Zc μ (p + j) (nI i) = some (μ (p + j) i) := by
  obtain ⟨z1, z2, z3, z4, z5, z6⟩ := zql hp
  rcases (by omega : j = 5 ∨ j = 6) with rfl | rfl
  · exact ald_n z5 hi (by omega)
  · exact ald_n z6 hi (by omega)
/-- what the plan's bounds say -/
theorem pl_bd {nc ns na nb : Nat} {r kd pc st sm se nd A AH BH : Nat → Int32} (h : IPl nc ns na nb r kd pc st sm se nd A AH BH) : nc ≤ 12 ∧ ns ≤ 6 ∧ na ≤ 40 ∧ nb ≤ 10 := by
  have := h.2.1
  omega
theorem op_act {ν : MT} (h : Inv ν) (a0 a1 : Int32) : OkR Inv (m_X8_act Zc 127 0 a0 a1 ν) (m_X9_act Zc 106 a0 a1 ν) := by
  obtain ⟨p, d, nc, ns, na, nb, h⟩ := h
  obtain ⟨hp, hd, hpd, e11, e12⟩ := h.2.2.2.1
  have hip := h.2.2.2.2.1
  have hm := h.2.2.2.2.2.1
  obtain ⟨b1, b2, b3, b4⟩ := pl_bd hip
  have m7 : u2 ν 106 0 0 106 7 = nI na := hm.2.2.1
  have gin : ∀ μ : MT, m_X9_in Zc a1.toInt64 0 3 μ = some (bI (0 ≤ a1.toInt ∧ a1.toInt ≤ 3)) := fun μ => by
    rw [q_in, Int32.toInt_toInt64, show (0 : Int64).toInt = 0 from rfl, show (3 : Int64).toInt = 3 from rfl]
  by_cases ha : 0 ≤ a0.toInt ∧ a0.toInt < na
  · by_cases hw : 0 ≤ a1.toInt ∧ a1.toInt ≤ 3
    · have ha' := ha
      obtain ⟨a, ha1, rfl⟩ := nI_ex (n := na) ha.1 ha.2
      obtain ⟨w, hw1, rfl⟩ := nI_ex (n := 4) hw.1 (by omega)
      obtain ⟨k, c, s, q, hk, hs, e1, e2, e3, e4, e5, e6, e7, e8, e9, e10⟩ := hip.2.2.1 a ha1
      have r9 : m_X9_act Zc 106 (nI a) (nI w) ν = some (if w = 0 then (ν 110 (4 * a + w) - 1, u2 ν 106 0 0) else (ν 110 (4 * a + w) - 0, u2 ν 106 0 0)) := by
        unfold m_X9_act
        rw [ob_s, q_isAct m7 (by omega), ob_s, bI_t ha', if_neg (by decide), gin, ob_s, bI_t hw, if_neg (by decide)]
        simp (disch := omega) only [zA, x_lm, x_a]
        rw [al_110 (by omega), ob_s]
        have e : u2 ν 106 0 0 110 (4 * a + w) = ν 110 (4 * a + w) := rfl
        rw [e]
        by_cases hw0 : w = 0
        · rw [if_pos (by rw [hw0]; rfl), if_pos hw0]; rfl
        · rw [if_neg (by rw [x_eql (by omega) (by omega)]; exact hw0), if_neg hw0]; rfl
      have hst : m_X3_isStep Zc p (nI a) ν = some (bI (k < 7)) := by
        unfold m_X3_isStep
        rw [q_hasAct hip.1.2.2.1 (by omega), ob_s, bI_t ha', if_neg (by decide), zq_4 hp, al_p hp (by omega) (by omega) (by omega), ob_s, e1]
        unfold bI
        by_cases hk7 : k < 7
        · rw [if_pos hk7, if_neg (by rw [x_llt (by omega) (by omega)]; omega)]
        · rw [if_neg hk7, if_pos (by rw [x_llt (by omega) (by omega)]; omega)]
      have c8 : ∀ v, m_X8_act Zc 127 0 (nI a) (nI w) ν = some v ↔ (if w = 0 then some (nI k) else if w = 1 then some (nI c) else if w = 2 then (if k < 7 then some (nI q) else some (-1000000)) else some (nI s)) = some v := fun v => by
        unfold m_X8_act
        rw [e11, mrd_p hp, ob_s, q_hasAct hip.1.2.2.1 (by omega), ob_s, bI_t ha', if_neg (by decide)]
        simp (disch := omega) only [ob_s, zq_4 hp, zq_5 hp, zq_6 hp, zq_7 hp, al_p hp, e1, e3, e5, x_eql, hst, bI_0]
        rcases (by omega : w = 0 ∨ w = 1 ∨ w = 2 ∨ w = 3) with rfl | rfl | rfl | rfl
        · simp
        · simp
        · by_cases hk7 : k < 7
          · simp [hk7, (e9 hk7).2.2.1]
          · simp [hk7]
        · simp
      rcases (by omega : w = 0 ∨ w = 1 ∨ w = 2 ∨ w = 3) with rfl | rfl | rfl | rfl
      · refine ⟨nI k, u2 ν 106 0 0, (c8 _).mpr rfl, ?_, p, d, nc, ns, na, nb, c_s0 h⟩
        rw [r9]
        simp only [if_true, Nat.add_zero, e2]
        rw [x_sl (by omega)]; rfl
      · refine ⟨nI c, u2 ν 106 0 0, (c8 _).mpr rfl, ?_, p, d, nc, ns, na, nb, c_s0 h⟩
        rw [r9]
        simp [e4]
      · by_cases hk7 : k < 7
        · refine ⟨nI q, u2 ν 106 0 0, (c8 _).mpr (by simp [hk7]), ?_, p, d, nc, ns, na, nb, c_s0 h⟩
          rw [r9]
          simp [(e9 hk7).2.2.2]
        · refine ⟨-1000000, u2 ν 106 0 0, (c8 _).mpr (by simp [hk7]), ?_, p, d, nc, ns, na, nb, c_s0 h⟩
          rw [r9]
          simp [e10 (by omega)]
      · refine ⟨nI s, u2 ν 106 0 0, (c8 _).mpr rfl, ?_, p, d, nc, ns, na, nb, c_s0 h⟩
        rw [r9]
        simp [e6]
    · refine ⟨-1000001, u2 ν 106 0 0, ?_, ?_, p, d, nc, ns, na, nb, c_s0 h⟩
      · unfold m_X8_act
        rw [e11, mrd_p hp, ob_s, q_hasAct hip.1.2.2.1 (by omega), ob_s, bI_t ha, if_neg (by decide)]
        rw [if_neg (fun hc => hw (by rw [hc]; decide)), if_neg (fun hc => hw (by rw [hc]; decide)), if_neg (fun hc => hw (by rw [hc]; decide)), if_neg (fun hc => hw (by rw [hc]; decide))]
      · unfold m_X9_act
        rw [ob_s, q_isAct m7 (by omega), ob_s, bI_t ha, if_neg (by decide), gin, ob_s, bI_f hw, if_pos rfl]
        rfl
  · refine ⟨-1000001, u2 ν 106 0 0, ?_, ?_, p, d, nc, ns, na, nb, c_s0 h⟩
    · unfold m_X8_act
      rw [e11, mrd_p hp, ob_s, q_hasAct hip.1.2.2.1 (by omega), ob_s, bI_f ha, if_pos rfl]
    · unfold m_X9_act
      rw [ob_s, q_isAct m7 (by omega), ob_s, bI_f ha, if_pos rfl]
      rfl
/-- whether an act is a step, in both -/
theorem q_steps {ν : MT} {p d nc ns na nb : Nat} (h : Core ν p d nc ns na nb) (a0 : Int32) : (m_X3_isStep Zc p a0 ν = some 0 ∧ ∀ ω : MT, ω 106 7 = ν 106 7 → ω 110 = ν 110 → m_X9_isStep Zc 106 a0 ω = some 0) ∨ (m_X3_isStep Zc p a0 ν = some 1 ∧ (∀ ω : MT, ω 106 7 = ν 106 7 → ω 110 = ν 110 → m_X9_isStep Zc 106 a0 ω = some 1) ∧ ∃ a k c q, a < na ∧ k < 7 ∧ a0 = nI a ∧ ν (p + 1) a = nI k ∧ ν 110 (4 * a) = nI (k + 1) ∧ ν (p + 2) a = nI c ∧ ν 110 (4 * a + 1) = nI c ∧ ν (p + 3) a = nI q ∧ ν 110 (4 * a + 2) = nI q ∧ q ≤ 20) := by
  obtain ⟨hp, hd, hpd, e11, e12⟩ := h.2.2.2.1
  have hip := h.2.2.2.2.1
  have hm := h.2.2.2.2.2.1
  obtain ⟨b1, b2, b3, b4⟩ := pl_bd hip
  have m7 := hm.2.2.1
  unfold m_X3_isStep m_X9_isStep
  rw [q_hasAct hip.1.2.2.1 (by omega), ob_s]
  by_cases ha : 0 ≤ a0.toInt ∧ a0.toInt < na
  · have ha' := ha
    obtain ⟨a, ha1, rfl⟩ := nI_ex (n := na) ha.1 ha.2
    obtain ⟨k, c, s, q, hk, hs, e1, e2, e3, e4, e5, e6, e7, e8, e9, e10⟩ := hip.2.2.1 a ha1
    rw [bI_t ha', if_neg (by decide), zq_4 hp, al_p hp (by omega) (by omega) (by omega), ob_s, e1]
    have hr : ∀ ω : MT, ω 106 7 = ν 106 7 → ω 110 = ν 110 → ((m_X9_isAct Zc 106 (nI a) ω).bind fun r1 => if r1 = 0 then some 0 else (ald Zc ω (zr Zc 106 9) (4 * nI a)).bind fun x3 => if 8 ≤ x3 then some 0 else some (1 : Int32)) = if 7 ≤ k then some 0 else some 1 := fun ω f1 f2 => by
      rw [q_isAct (f1.trans m7) (by omega), ob_s, bI_t ha', if_neg (by decide)]
      simp (disch := omega) only [zA, x_lm, al_110, ob_s]
      rw [f2, e2]
      simp (disch := omega) only [x_lle]
      by_cases hk7 : 7 ≤ k
      · rw [if_pos hk7, if_pos (by omega)]
      · rw [if_neg hk7, if_neg (by omega)]
    simp (disch := omega) only [x_llt]
    by_cases hk7 : k < 7
    · right
      exact ⟨by rw [if_neg (by omega)], fun ω f1 f2 => by rw [hr ω f1 f2, if_neg (by omega)], a, k, c, q, ha1, hk7, rfl, e1, e2, e3, e4, (e9 hk7).2.2.1, (e9 hk7).2.2.2, (e9 hk7).2.1⟩
    · left
      exact ⟨by rw [if_pos (by omega)], fun ω f1 f2 => by rw [hr ω f1 f2, if_pos (by omega)]⟩
  · left
    rw [bI_f ha, if_pos rfl]
    exact ⟨rfl, fun ω f1 f2 => by rw [q_isAct (f1.trans m7) (by omega), ob_s, bI_f ha, if_pos rfl]⟩
theorem op_kind {ν : MT} (h : Inv ν) (a0 : Int32) : OkR Inv (m_X8_kind Zc 127 0 a0 ν) (m_X9_kind Zc 106 a0 ν) := by
  obtain ⟨p, d, nc, ns, na, nb, h⟩ := h
  obtain ⟨hp, hd, hpd, e11, e12⟩ := h.2.2.2.1
  obtain ⟨b1, b2, b3, b4⟩ := pl_bd h.2.2.2.2.1
  rcases q_steps h a0 with ⟨h1, h2⟩ | ⟨h1, h2, a, k, c, q, ha, hk, rfl, e1, e2, e3, e4, e5, e6, e7⟩
  · refine ⟨-1000001, u2 ν 106 0 0, ?_, ?_, p, d, nc, ns, na, nb, c_s0 h⟩
    · unfold m_X8_kind
      rw [e11, mrd_p hp, ob_s, h1, ob_s, if_pos rfl]
    · unfold m_X9_kind
      rw [ob_s, h2 (u2 ν 106 0 0) rfl rfl, ob_s, if_pos rfl]
  · refine ⟨nI (k + 1), u2 ν 106 0 0, ?_, ?_, p, d, nc, ns, na, nb, c_s0 h⟩
    · unfold m_X8_kind m_X3_stepKind
      rw [e11, mrd_p hp, ob_s, h1, ob_s, if_neg (by decide), ob_s, zq_4 hp, al_p hp (by omega) (by omega) (by omega), ob_s, e1, ob_s, x_al]
    · unfold m_X9_kind
      have e2' : u2 ν 106 0 0 110 (4 * a) = nI (k + 1) := e2
      rw [ob_s, h2 (u2 ν 106 0 0) rfl rfl, ob_s, if_neg (by decide)]
      simp (disch := omega) only [zA, x_lm, al_110, ob_s, e2']
/-- isOf, both ways: over all kinds -/
def ofA (k w : Nat) : Bool := decide (w = 0) || decide (k = w) || (decide (w = 2) && (decide (3 ≤ k) && decide (k ≤ 6))) || (decide (w = 3) && decide (k = 4))
theorem q9_isOf {μ : MT} {k w : Nat} (hk : k < 8) (hw : w < 8) : m_X9_isOf Zc (nI k) (nI w) μ = some (bI (ofA k w = true)) := by
  unfold m_X9_isOf
  rw [q_in, Int32.toInt_toInt64, ti_n (by omega), show (3 : Int64).toInt = 3 from rfl, show (6 : Int64).toInt = 6 from rfl]
  simp (disch := omega) only [x_eql, x_eq, bI_0, ob_s]
  unfold ofA bI
  by_cases h0 : w = 0
  · simp [h0, jn]
  · by_cases h1 : k = w
    · simp [h0, h1, jn]
    · by_cases h2 : w = 2
      · by_cases h3 : 3 ≤ k ∧ k ≤ 6
        · have h3' : 3 ≤ (k : Int) ∧ (k : Int) ≤ 6 := by omega
          simp [h0, h1, h2, h3, h3', jn]
        · have h3' : ¬ (3 ≤ (k : Int) ∧ (k : Int) ≤ 6) := by omega
          have h4 : ¬ (3 ≤ k ∧ k ≤ 6) := h3
          have h5 : ¬ k = 2 := by omega
          simp [h0, h5, h2, h4, h3', jn]
      · by_cases h6 : w = 3
        · by_cases h7 : k = 4
          · simp [h0, h1, h2, h6, h7, jn]
          · have h5 : ¬ k = 3 := by omega
            simp [h0, h1, h2, h6, h7, h5, jn]
        · simp [h0, h1, h2, h6, jn]
/-- one step up the kinds -/
def upA (k : Nat) : Nat := [0, 0, 0, 2, 3, 2, 2, 0].getD k 0
theorem t1001 : ∀ k, k < 8 → μf 1001 k = nI (upA k) := by decide +kernel
/-- where the walk up the kinds comes to rest -/
def wkA (w : Nat) : Nat → Nat → Nat
  | 0, k => k
  | n + 1, k => if k = 0 ∨ k = w then k else wkA w n (upA k)
theorem upA_lt : ∀ k, k < 8 → upA k < 8 := by decide
theorem q_isOfK {μ : MT} {k w : Nat} (e : μ 1001 = μf 1001) (hk : k < 8) (hw : w < 8) : m_X0_isOfKind Zc (nI k) (nI w) μ = some (bI (wkA w 8 k = w)) := by
  unfold m_X0_isOfKind
  apply ok_eq
  refine ok_l (fun m q => ∃ k1 u, k1 < 8 ∧ u + m = 8 ∧ q = (nI k1, nI u) ∧ wkA w m k1 = wkA w 8 k) 8 (by omega) ⟨k, 0, hk, by omega, rfl, rfl⟩ ?_
  rintro m q ⟨k1, u, hk1, hu, rfl, hw1⟩
  have fin : wkA w 8 k = k1 → Ok (if nI k1 = nI w then some 1 else some 0) (fun a => a = bI (wkA w 8 k = w)) := fun hx => by
    rw [hx]
    unfold bI
    by_cases hc : k1 = w
    · rw [if_pos hc, if_pos (by rw [hc])]; exact ok_s rfl
    · rw [if_neg hc, if_neg (by rw [x_eq (by omega) (by omega)]; exact hc)]; exact ok_s rfl
  by_cases hm : m = 0
  · subst hm
    simp (disch := omega) only [x_lle, show 8 ≤ u by omega, if_true]
    exact ok_s (Or.inl ⟨_, rfl, fin hw1.symm⟩)
  · obtain ⟨m', rfl⟩ := Nat.exists_eq_succ_of_ne_zero hm
    simp (disch := omega) only [x_lle, show ¬ 8 ≤ u by omega, if_false, q_hasKind, ob_s, x_ti, bI_0, x_eql, x_eq]
    rw [if_neg (by omega)]
    rw [wkA] at hw1
    by_cases h0 : k1 = 0
    · rw [if_pos h0]
      rw [if_pos (Or.inl h0)] at hw1
      exact ok_s (Or.inl ⟨_, rfl, fin hw1.symm⟩)
    · rw [if_neg h0]
      by_cases h1 : k1 = w
      · rw [if_pos h1]
        rw [if_pos (Or.inr h1)] at hw1
        exact ok_s (Or.inl ⟨_, rfl, fin hw1.symm⟩)
      · rw [if_neg h1, al_1001 hk1, ob_s, e, t1001 k1 hk1, x_al]
        rw [if_neg (by omega)] at hw1
        exact ok_s (Or.inr ⟨_, m', rfl, by omega, upA k1, u + 1, upA_lt k1 hk1, by omega, rfl, hw1⟩)
theorem wk_of : ∀ k, k < 8 → ∀ w, w < 8 → 1 ≤ k → (wkA w 8 k = w ↔ ofA k w = true) := by decide +kernel
theorem op_as {ν : MT} (h : Inv ν) (a0 a1 : Int32) : OkI Inv (m_X8_as Zc 127 0 a0 a1 ν) (fun μ => m_X9_as Zc 106 a0 a1 μ) := by
  obtain ⟨p, d, nc, ns, na, nb, h⟩ := h
  obtain ⟨hp, hd, hpd, e11, e12⟩ := h.2.2.2.1
  obtain ⟨b1, b2, b3, b4⟩ := pl_bd h.2.2.2.2.1
  have gin : ∀ μ : MT, m_X9_in Zc a1.toInt64 0 7 μ = some (bI (0 ≤ a1.toInt ∧ a1.toInt < 8)) := fun μ => by
    rw [q_in, Int32.toInt_toInt64, show (0 : Int64).toInt = 0 from rfl, show (7 : Int64).toInt = 7 from rfl]
    unfold bI
    by_cases hc : 0 ≤ a1.toInt ∧ a1.toInt < 8
    · rw [if_pos hc, if_pos (by omega)]
    · rw [if_neg hc, if_neg (by omega)]
  rcases q_steps h a0 with ⟨h1, h2⟩ | ⟨h1, h2, a, k, c, q, ha, hk, rfl, e1, e2, e3, e4, e5, e6, e7⟩
  · refine ⟨-1000001, ν, u2 ν 106 0 0, ?_, ?_, p, d, nc, ns, na, nb, c_s0 h⟩
    · unfold m_X8_as
      rw [e11, mrd_p hp, ob_s, h1, ob_s, if_pos rfl]
    · show m_X9_as Zc 106 _ _ ν = _
      unfold m_X9_as
      rw [ob_s, h2 (u2 ν 106 0 0) rfl rfl, ob_s, if_pos rfl]
  · by_cases hw : 0 ≤ a1.toInt ∧ a1.toInt < 8
    · have hw' := hw
      obtain ⟨w, hw1, rfl⟩ := nI_ex (n := 8) hw.1 hw.2
      have hwk := wk_of (k + 1) (by omega) w hw1 (by omega)
      have e0 := h.2.2.2.2.2.2.2.2.2.2.2.2.2.1
      by_cases hof : ofA (k + 1) w = true
      · refine ⟨nI c, u2 ν 0 15 0, u2 (u2 (u2 ν 0 15 0) 106 0 0) 106 1 0, ?_, ?_, p, d, nc, ns, na, nb, ?_⟩
        · unfold m_X8_as m_X3_stepKind
          rw [e11, mrd_p hp, ob_s, h1, ob_s, if_neg (by decide), q_hasKind, ob_s, bI_t hw', if_neg (by decide), ob_s, zq_4 hp, al_p hp (by omega) (by omega) (by omega), ob_s, e1, ob_s, x_al, q_isOfK e0 (by omega) hw1, ob_s, bI_t (hwk.mpr hof), if_neg (by decide), ob_s, zq_5 hp, al_p hp (by omega) (by omega) (by omega), ob_s, e3]
          rfl
        · have hst : m_X9_isStep Zc 106 (nI a) (u2 (u2 ν 0 15 0) 106 0 0) = some 1 := h2 _ rfl rfl
          show m_X9_as Zc 106 _ _ (u2 ν 0 15 0) = _
          unfold m_X9_as
          rw [ob_s, hst, ob_s, if_neg (by decide), gin, ob_s, bI_t hw', if_neg (by decide), ob_s]
          have e2' : u2 (u2 (u2 ν 0 15 0) 106 0 0) 106 1 0 110 (4 * a) = nI (k + 1) := e2
          have e4' : u2 (u2 (u2 ν 0 15 0) 106 0 0) 106 1 0 110 (4 * a + 1) = nI c := e4
          simp (disch := omega) only [zA, x_lm, x_al, al_110, ob_s, e2', e4', q9_isOf, bI_0, hof, not_true, if_false]
        · have := c_s1 h 0
          have e : u2 (u2 (u2 (u2 ν 0 15 0) 106 0 0) 106 1 0) 106 1 0 = u2 (u2 (u2 ν 0 15 0) 106 0 0) 106 1 0 := by
            funext x y
            simp only [u2_r]
            grind
          rw [e] at this
          exact this
      · refine ⟨-1000010 - 3, u2 ν 0 15 3, _, ?_, ?_, p, d, nc, ns, na, nb, c_s1 h 3⟩
        · unfold m_X8_as m_X3_stepKind
          rw [e11, mrd_p hp, ob_s, h1, ob_s, if_neg (by decide), q_hasKind, ob_s, bI_t hw', if_neg (by decide), ob_s, zq_4 hp, al_p hp (by omega) (by omega) (by omega), ob_s, e1, ob_s, x_al, q_isOfK e0 (by omega) hw1, ob_s, bI_f (fun hc => hof (hwk.mp hc)), if_pos rfl]
          rfl
        · have hst : m_X9_isStep Zc 106 (nI a) (u2 (u2 ν 0 15 3) 106 0 0) = some 1 := h2 _ rfl rfl
          show m_X9_as Zc 106 _ _ (u2 ν 0 15 3) = _
          unfold m_X9_as
          rw [ob_s, hst, ob_s, if_neg (by decide), gin, ob_s, bI_t hw', if_neg (by decide), ob_s]
          have e2' : u2 (u2 (u2 ν 0 15 3) 106 0 0) 106 1 0 110 (4 * a) = nI (k + 1) := e2
          simp (disch := omega) only [zA, x_lm, x_al, al_110, ob_s, e2', q9_isOf, bI_0, hof, not_false_eq_true, if_true, m_X9_finding]
          rfl
    · refine ⟨-1000001, ν, u2 ν 106 0 0, ?_, ?_, p, d, nc, ns, na, nb, c_s0 h⟩
      · unfold m_X8_as
        rw [e11, mrd_p hp, ob_s, h1, ob_s, if_neg (by decide), q_hasKind, ob_s, bI_f hw, if_pos rfl]
      · show m_X9_as Zc 106 _ _ ν = _
        unfold m_X9_as
        rw [ob_s, h2 (u2 ν 106 0 0) rfl rfl, ob_s, if_neg (by decide), gin, ob_s, bI_f hw, if_pos rfl]
