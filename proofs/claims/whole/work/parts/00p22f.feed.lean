theorem t32_bit (x : Int64) {i : Nat} (hi : i < 32) : x.toInt32.toBitVec.getLsbD i = x.toBitVec.getLsbD i := by
  show (x.toBitVec.signExtend 32).getLsbD i = _
  rw [BitVec.getLsbD_signExtend]
  simp [hi, show i < 64 by omega]
theorem t8_bit (x : Int32) {i : Nat} (hi : i < 8) : x.toInt8.toBitVec.getLsbD i = x.toBitVec.getLsbD i := by
  show (x.toBitVec.signExtend 8).getLsbD i = _
  rw [BitVec.getLsbD_signExtend]
  simp [hi, show i < 32 by omega]
theorem l255 (i : Nat) : (255 : Int64).toBitVec.getLsbD i = decide (i < 8) := by
  by_cases h : i < 64
  · exact (by decide +kernel : ∀ i, i < 64 → (255 : Int64).toBitVec.getLsbD i = decide (i < 8)) i h
  · rw [BitVec.getLsbD_of_ge _ _ (by omega)]
    simp; omega
theorem by_ok (x : Int64) : ∃ v, v < 256 ∧ (x &&& 255).toInt32 = nI v ∧ vp_nar .byte (x.toInt32.toInt8.toInt32) = (nI v).toInt8.toInt32 := by
  refine ⟨x.toBitVec.toNat % 256, by omega, ?_, ?_⟩
  · apply Int32.toBitVec_inj.mp
    apply BitVec.eq_of_getLsbD_eq
    intro i hi
    rw [t32_bit _ hi, Int64.toBitVec_and, BitVec.getLsbD_and, l255]
    show _ = (BitVec.ofNat 32 _).getLsbD i
    rw [BitVec.getLsbD_ofNat, show (256 : Nat) = 2 ^ 8 from rfl, Nat.testBit_mod_two_pow]
    simp only [hi, decide_true, Bool.true_and]
    rw [Bool.and_comm]
    rfl
  · show (x.toInt32.toInt8.toInt32).toInt8.toInt32 = _
    rw [Int8.toInt8_toInt32]
    congr 1
    apply Int8.toBitVec_inj.mp
    apply BitVec.eq_of_getLsbD_eq
    intro i hi
    rw [t8_bit _ hi, t8_bit _ hi, t32_bit _ (by omega)]
    show _ = (BitVec.ofNat 32 _).getLsbD i
    rw [BitVec.getLsbD_ofNat, show (256 : Nat) = 2 ^ 8 from rfl, Nat.testBit_mod_two_pow]
    simp only [hi, show i < 32 by omega, decide_true, Bool.true_and]
    rfl
theorem nm1 {k : Nat} : nI (k + 1) + (-1) = nI k := by
  have : nI (k + 1) = nI k + 1 := (nI_add k 1).symm
  rw [this, Int32.add_assoc, show (1 : Int32) + -1 = 0 from rfl, Int32.add_zero]
theorem m1_lt : (nI 0 + (-1) : Int32) < 0 := by decide
def fdC (w : Int64) (n t : Nat) : Int32 := vp_nar .byte ((w >>> ((8 * nI (n - 1 - t) : Int32).toInt64 &&& 63) : Int64).toInt32.toInt8.toInt32)
def fdR (w : Int64) (n t : Nat) : Int32 := ((w >>> ((8 * nI (n - 1 - t) : Int32).toInt64 &&& 63)) &&& 255 : Int64).toInt32
theorem q_app {μ : MT} {w : Int64} {n z : Nat} (hn : 1 ≤ n) (hn8 : n ≤ 8) (hz : z + n ≤ 500) (e : μ 13 1 = nI z) : m_X7_append Zc 13 w (nI n) μ = some (nI (z + n), u2 (u1 μ 14 (fun j => if z ≤ j ∧ j < z + n then fdC w n (j - z) else μ 14 j)) 13 1 (nI (z + n))) := by
  unfold m_X7_append
  rw [ob_s, x_sl (by omega)]
  simp only [zA]
  apply ok_eq
  refine ok_l (fun m q => ∃ t, t + m = n ∧ q.1 = (if m = 0 then -1 else nI (m - 1)) ∧ q.2 = u2 (u1 μ 14 (fun j => if z ≤ j ∧ j < z + t then fdC w n (j - z) else μ 14 j)) 13 1 (nI (z + t))) n (by omega) ⟨0, by omega, by simp [show ¬ n = 0 by omega], ?_⟩ ?_
  · funext k j
    simp only [u2_r, u1_r]
    by_cases h1 : k = 13 ∧ j = 1
    · rw [if_pos h1, h1.1, h1.2]; exact e
    · rw [if_neg h1]
      by_cases h2 : k = 14
      · subst h2
        rw [if_pos rfl, if_neg (by omega)]
      · rw [if_neg h2]
  · rintro m ⟨y, ξ⟩ ⟨t, h1, h2, h3⟩
    simp only at h2 h3
    subst h2 h3
    by_cases hm : m = 0
    · subst hm
      have : t = n := by omega
      subst this
      simp only [if_true]
      rw [if_pos (by decide)]
      refine ok_s (Or.inl ⟨_, rfl, ok_s ?_⟩)
      simp [u2_r]
    · have e1 : u2 (u1 μ 14 (fun j => if z ≤ j ∧ j < z + t then fdC w n (j - z) else μ 14 j)) 13 1 (nI (z + t)) 13 1 = nI (z + t) := by simp [u2_r]
      simp (disch := omega) only [hm, if_false, e1, x_ltl, x_lle, Nat.not_lt_zero, show ¬ 500 ≤ z + t by omega]
      rw [as_14 (by omega)]
      simp only [ob_s]
      refine ok_s (Or.inr ⟨_, m - 1, rfl, by omega, t + 1, by omega, ?_, ?_⟩)
      · by_cases hm1 : m = 1
        · subst hm1; rfl
        · simp only [show ¬ m - 1 = 0 by omega, if_false]
          rw [show m - 1 = (m - 1 - 1) + 1 by omega, nm1]
          simp
      · funext k j
        simp only [u2_r, u1_r]
        by_cases h1 : k = 13 ∧ j = 1
        · rw [if_pos h1, if_pos h1]
          simp
          rw [x_al, Nat.add_assoc]
        · rw [if_neg h1, if_neg h1]
          by_cases h2 : k = 14
          · subst h2
            simp only [true_and, if_true, Nat.reduceEqDiff, false_and, if_false]
            by_cases h3 : j = z + t
            · subst h3
              rw [if_pos rfl, if_pos (by omega)]
              unfold fdC
              rw [show n - 1 - (z + t - z) = m - 1 by omega]
            · rw [if_neg h3]
              by_cases h4 : z ≤ j ∧ j < z + t
              · rw [if_pos h4, if_pos (by omega)]
              · rw [if_neg h4, if_neg (by omega)]
          · simp [h2, h1]
theorem q9_feed {μ : MT} {w : Int64} {n z : Nat} (hn : 1 ≤ n) (hn8 : n ≤ 8) (hz : z + n ≤ 500) (e : μ 106 20 = nI z) : m_X9_feed Zc 106 w (nI n) μ = some (nI (z + n), u2 (u1 (u2 μ 106 0 0) 116 (fun j => if z ≤ j ∧ j < z + n then fdR w n (j - z) else μ 116 j)) 106 20 (nI (z + n))) := by
  have gin : ∀ μ : MT, m_X9_in Zc (nI n).toInt64 1 8 μ = some 1 := fun μ => by
    rw [q_in, Int32.toInt_toInt64, ti_n (by omega), bI_t]
    rw [show (1 : Int64).toInt = 1 from rfl, show (8 : Int64).toInt = 8 from rfl]; omega
  have e' : u2 μ 106 0 0 106 20 = nI z := e
  have e9 : u2 μ 106 0 0 116 = μ 116 := rfl
  unfold m_X9_feed
  rw [ob_s, gin, ob_s, if_neg (by decide), e', x_a, if_pos (by rw [x_lel (by omega) (by omega)]; omega), ob_s, x_sl (by omega)]
  simp only [zA]
  rw [← e9]
  generalize u2 μ 106 0 0 = ω at *
  apply ok_eq
  refine ok_l (fun m q => ∃ t, t + m = n ∧ q.1 = (if m = 0 then -1 else nI (m - 1)) ∧ q.2 = u2 (u1 ω 116 (fun j => if z ≤ j ∧ j < z + t then fdR w n (j - z) else ω 116 j)) 106 20 (nI (z + t))) n (by omega) ⟨0, by omega, by simp [show ¬ n = 0 by omega], ?_⟩ ?_
  · funext k j
    simp only [u2_r, u1_r]
    by_cases h1 : k = 106 ∧ j = 20
    · rw [if_pos h1, h1.1, h1.2]; exact e'
    · rw [if_neg h1]
      by_cases h2 : k = 116
      · subst h2
        rw [if_pos rfl, if_neg (by omega)]
      · rw [if_neg h2]
  · rintro m ⟨y, ξ⟩ ⟨t, h1, h2, h3⟩
    simp only at h2 h3
    subst h2 h3
    by_cases hm : m = 0
    · subst hm
      have : t = n := by omega
      subst this
      simp only [if_true]
      rw [if_pos (by decide)]
      refine ok_s (Or.inl ⟨_, rfl, ok_s ?_⟩)
      simp [u2_r]
    · have e1 : u2 (u1 ω 116 (fun j => if z ≤ j ∧ j < z + t then fdR w n (j - z) else ω 116 j)) 106 20 (nI (z + t)) 106 20 = nI (z + t) := by simp [u2_r]
      simp (disch := omega) only [hm, if_false, e1, x_ltl, x_lle, Nat.not_lt_zero]
      rw [as_116 (by omega)]
      simp only [ob_s]
      refine ok_s (Or.inr ⟨_, m - 1, rfl, by omega, t + 1, by omega, ?_, ?_⟩)
      · by_cases hm1 : m = 1
        · subst hm1; rfl
        · simp only [show ¬ m - 1 = 0 by omega, if_false]
          rw [show m - 1 = (m - 1 - 1) + 1 by omega, nm1]
          simp
      · funext k j
        simp only [u2_r, u1_r]
        by_cases h1 : k = 106 ∧ j = 20
        · rw [if_pos h1, if_pos h1]
          simp
          rw [x_al, Nat.add_assoc]
        · rw [if_neg h1, if_neg h1]
          by_cases h2 : k = 116
          · subst h2
            simp only [true_and, if_true, Nat.reduceEqDiff, false_and, if_false]
            by_cases h3 : j = z + t
            · subst h3
              rw [if_pos rfl, if_pos (by omega)]
              unfold fdR
              rw [show n - 1 - (z + t - z) = m - 1 by omega]
            · rw [if_neg h3]
              by_cases h4 : z ≤ j ∧ j < z + t
              · rw [if_pos h4, if_pos (by omega)]
              · rw [if_neg h4, if_neg (by omega)]
          · simp [h2, h1]
theorem op_feed {ν : MT} (h : Inv ν) (w : Int64) (a : Int32) : OkI Inv (m_X8_feed Zc 0 w a ν) (fun μ => m_X9_feed Zc 106 w a μ) := by
  obtain ⟨p, d, nc, ns, na, nb, h⟩ := h
  obtain ⟨z, hz, t1, t2, t3⟩ := h.2.2.1
  have hq := h.2.2.2.1.1
  unfold isPl at hq
  by_cases hr : 1 ≤ a.toInt ∧ a.toInt ≤ 8
  · obtain ⟨n, hn, rfl⟩ := nI_ex (n := 9) (a := a) (by omega) (by omega)
    rw [ti_n (by omega)] at hr
    have c500 : 500 - nI z = nI (500 - z) := pk_sub (a := 500) (b := z) hz
    by_cases hf : z + n ≤ 500
    · have hc : m_X8_feed Zc 0 w (nI n) ν = some (nI (z + n), u2 (u1 ν 14 (fun j => if z ≤ j ∧ j < z + n then fdC w n (j - z) else ν 14 j)) 13 1 (nI (z + n))) := by
        simp (disch := omega) only [m_X8_feed, zA, zD, zE, ob_s, x_lt, x_ltl, x_llt, x_le, x_lel, x_lle, x_eq, x_eql, x_eqm, x_al, x_la, x_a, x_ml, x_lm, x_m, x_cl, if_true, if_false, jn, x_d4, x_d2, bz_b, bz_0, bz_1, and_self, not_true_eq_false, not_false_eq_true, true_and, and_true, show ¬ n < 1 by omega, show n ≤ 8 by omega, m_X7_hasRoom, t1, c500, show ¬ 500 - z < n by omega, one0, q_app (z := z)]
      refine ⟨_, _, _, hc, q9_feed (n := n) (z := z) (by omega) (by omega) hf ?_, p, d, nc, ns, na, nb, ?_⟩
      · simp only [u2_r, u1_r]
        simpa using t2
      · refine c_mk h (Or.inl ⟨rfl, rfl, ?_, rfl, rfl, rfl⟩) ?_ (Or.inl ⟨?_, ?_⟩) (Or.inr ⟨z + n, hf, ?_, ?_, ?_⟩) ⟨?_, ?_⟩ ?_ ⟨?_, ?_, ?_⟩ ⟨?_, ?_, ?_, ?_⟩ (Or.inl ⟨?_, ?_⟩) (Or.inl ⟨?_, ?_⟩) (Or.inl ⟨?_, ?_, ?_, ?_, ?_, ?_, ?_, ?_, ?_, ?_, ?_, ?_⟩) (Or.inl ⟨?_, ?_, ?_, ?_, ?_⟩) (Or.inl ⟨?_, ?_⟩) (Or.inl ⟨?_, ?_, ?_, ?_⟩) ⟨?_, ?_, ?_, ?_⟩
        case refine_2 => have := h.2.1.1; simp only [u2_r, u1_r]; simpa using this
        case refine_7 =>
          intro j hj
          simp only [u2_r, u1_r]
          by_cases hjz : j < z
          · obtain ⟨v, hv, e1, e2⟩ := t3 j hjz
            exact ⟨v, hv, by simpa [show ¬ (z ≤ j) by omega] using e1, by simpa [show ¬ (z ≤ j) by omega] using e2⟩
          · obtain ⟨v, hv, e1, e2⟩ := by_ok (w >>> ((8 * nI (n - 1 - (j - z)) : Int32).toInt64 &&& 63))
            exact ⟨v, hv, by simpa [show z ≤ j by omega, hj, fdR] using e1, by simpa [show z ≤ j by omega, hj, fdC] using e2⟩
        all_goals first
          | rfl
          | (intro s hs; simp only [u2_w, u1_w]; grind)
          | (simp only [u2_r, u1_r]; simp; done)
    · refine ⟨-1000003, ν, u2 ν 106 0 0, ?_, ?_, p, d, nc, ns, na, nb, c_s0 h⟩
      · simp (disch := omega) only [m_X8_feed, zA, zD, zE, ob_s, x_lt, x_ltl, x_llt, x_le, x_lel, x_lle, x_eq, x_eql, x_eqm, x_al, x_la, x_a, x_ml, x_lm, x_m, x_cl, if_true, if_false, jn, x_d4, x_d2, bz_b, bz_0, bz_1, and_self, not_true_eq_false, not_false_eq_true, true_and, and_true, show ¬ n < 1 by omega, show n ≤ 8 by omega, m_X7_hasRoom, t1, c500, show 500 - z < n by omega]
      · have gin : ∀ μ : MT, m_X9_in Zc (nI n).toInt64 1 8 μ = some 1 := fun μ => by
          rw [q_in, Int32.toInt_toInt64, ti_n (by omega), bI_t]
          rw [show (1 : Int64).toInt = 1 from rfl, show (8 : Int64).toInt = 8 from rfl]; omega
        have e' : u2 ν 106 0 0 106 20 = nI z := t2
        simp (disch := omega) only [m_X9_feed, ob_s, gin, one0, if_false, e', x_a, x_lel, show ¬ z + n ≤ 500 by omega]
  · refine ⟨-1000001, ν, u2 ν 106 0 0, ?_, ?_, p, d, nc, ns, na, nb, c_s0 h⟩
    · simp only [m_X8_feed, fa_lt, fa_le, show (1 : Int32).toInt = 1 from rfl, show (8 : Int32).toInt = 8 from rfl]
      by_cases h1 : a.toInt < 1
      · rw [if_pos h1]
      · rw [if_neg h1, if_neg (by omega)]
    · simp only [m_X9_feed, ob_s, q_in, Int32.toInt_toInt64, show (1 : Int64).toInt = 1 from rfl, show (8 : Int64).toInt = 8 from rfl, bI_0]
      rw [if_pos hr]
