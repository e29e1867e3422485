/-! ===== bits of an int (the family b_ of the kit's BITS.to-paste) ===== -/
theorem b_ext {x y : Int32} (h : ∀ i, i < 32 → bt x i = bt y i) : x = y := Int32.toBitVec_inj.mp (BitVec.eq_of_getLsbD_eq (fun i hi => h i hi))
theorem b_or (x y : Int32) (i : Nat) : bt (x ||| y) i = (bt x i || bt y i) := by unfold bt; rw [Int32.toBitVec_or, BitVec.getLsbD_or]
theorem b_and (x y : Int32) (i : Nat) : bt (x &&& y) i = (bt x i && bt y i) := by unfold bt; rw [Int32.toBitVec_and, BitVec.getLsbD_and]
theorem b_xor (x y : Int32) (i : Nat) : bt (x ^^^ y) i = (bt x i ^^ bt y i) := by unfold bt; rw [Int32.toBitVec_xor, BitVec.getLsbD_xor]
theorem b_m1 : ∀ i, i < 32 → bt (-1) i = true := by decide +kernel
theorem b_0 (i : Nat) : bt 0 i = false := BitVec.getLsbD_zero
theorem b_1 : ∀ i, i < 32 → bt 1 i = decide (i = 0) := by decide +kernel
theorem s_l : ∀ n, n < 32 → ((nI n &&& 31).toBitVec.smod 32).toNat = n := by decide +kernel
theorem b_shl (n : Nat) (hn : n < 32) (x : Int32) {i : Nat} (hi : i < 32) : bt (x <<< (nI n &&& 31)) i = (decide (n ≤ i) && bt x (i - n)) := by
  unfold bt
  rw [Int32.toBitVec_shiftLeft]
  show (x.toBitVec <<< ((nI n &&& 31).toBitVec.smod 32).toNat).getLsbD i = _
  rw [s_l n hn, BitVec.getLsbD_shiftLeft]
  rcases Nat.lt_or_ge i n with h | h
  · simp [h, Nat.not_le.mpr h]
  · simp [hi, h, Nat.not_lt.mpr h]
theorem b_sshr (n : Nat) (hn : n < 32) (x : Int32) {i : Nat} (hi : i < 32) : bt (x >>> (nI n &&& 31)) i = if n + i < 32 then bt x (n + i) else bt x 31 := by
  unfold bt
  rw [Int32.toBitVec_shiftRight]
  show (x.toBitVec.sshiftRight ((nI n &&& 31).toBitVec.smod 32).toNat).getLsbD i = _
  rw [s_l n hn, BitVec.getLsbD_sshiftRight, BitVec.msb_eq_getLsbD_last]
  simp [hi]
theorem and1 (x : Int32) : (x &&& 1 = 1 ↔ bt x 0 = true) ∧ (x &&& 1 = 0 ↔ bt x 0 = false) := by
  have h := pk_and x (m := 1) 1 (by decide)
  have hb : bt x 0 = decide (x.toBitVec.toNat % 2 = 1) := by
    unfold bt BitVec.getLsbD
    rw [Nat.testBit_zero]
  rw [h, hb, show 2 ^ 1 = 2 from rfl]
  have : x.toBitVec.toNat % 2 = 0 ∨ x.toBitVec.toNat % 2 = 1 := by omega
  rcases this with e | e
  · rw [e]; decide
  · rw [e]; decide
theorem bitC (r : Int32) {c : Nat} (hc : c < 32) : ((r >>> (nI c &&& 31)) &&& 1 = 1 ↔ bt r c = true) ∧ ((r >>> (nI c &&& 31)) &&& 1 = 0 ↔ bt r c = false) := by
  have h := and1 (r >>> (nI c &&& 31))
  rw [b_sshr c hc r (i := 0) (by omega), if_pos (by omega), Nat.add_zero] at h
  exact h
theorem b_set (r : Int32) {c i : Nat} (hc : c < 32) (hi : i < 32) : bt (r ||| (1 <<< (nI c &&& 31))) i = (bt r i || decide (i = c)) := by
  rw [b_or, b_shl c hc 1 hi, b_1 (i - c) (by omega)]
  congr 1
  by_cases h : c ≤ i
  · by_cases h2 : i = c
    · subst h2; simp
    · have h3 : ¬ i - c = 0 := by omega
      simp [h2, h3]
  · have h3 : ¬ i = c := by omega
    simp [h, h3]
theorem b_clr (r : Int32) {c i : Nat} (hc : c < 32) (hi : i < 32) : bt (r &&& ((1 <<< (nI c &&& 31)) ^^^ (-1))) i = (bt r i && !decide (i = c)) := by
  rw [b_and, b_xor, b_shl c hc 1 hi, b_1 (i - c) (by omega), b_m1 i hi]
  congr 1
  by_cases h : c ≤ i
  · by_cases h2 : i = c
    · subst h2; simp
    · have h3 : ¬ i - c = 0 := by omega
      simp [h2, h3]
  · have h3 : ¬ i = c := by omega
    simp [h, h3]
/-! ===== the program's panel ===== -/
def PIs (μ : MT) (b nc : Nat) (x : RS) : Prop := PRel nc (μ b) (μ (b + 1)) (μ (b + 2)) (μ (b + 3)) (μ (b + 4)) (μ (b + 5)) (μ (b + 6)) x
def FrP (b : Nat) (μ ν : MT) : Prop := ∀ k, k < b ∨ b + 6 < k → ν k = μ k
theorem FrP.refl (b : Nat) (μ : MT) : FrP b μ μ := fun _ _ => rfl
theorem FrP.trans {b : Nat} {μ ν ω : MT} (h : FrP b μ ν) (h2 : FrP b ν ω) : FrP b μ ω := fun k hk => (h2 k hk).trans (h k hk)
theorem FrP.w {b : Nat} {μ ν : MT} (h : FrP b μ ν) {k j : Nat} {v : Int32} (hk : b ≤ k ∧ k ≤ b + 6) : FrP b μ (u2 ν k j v) := fun q hq => by rw [u2_w, if_neg (by omega)]; exact h q hq
theorem FrP.w1 {b : Nat} {μ ν : MT} (h : FrP b μ ν) {k : Nat} {f : Nat → Int32} (hk : b ≤ k ∧ k ≤ b + 6) : FrP b μ (u1 ν k f) := fun q hq => by rw [u1_w, if_neg (by omega)]; exact h q hq
theorem u2_id {μ : MT} {k j : Nat} {v : Int32} (h : μ k j = v) : u2 μ k j v = μ := by
  funext a c
  rw [u2_r]
  by_cases hh : a = k ∧ c = j
  · rw [if_pos hh, hh.1, hh.2, h]
  · rw [if_neg hh]
theorem u2_2 {μ : MT} {k j : Nat} {v w : Int32} : u2 (u2 μ k j v) k j w = u2 μ k j w := by
  funext a c
  rw [u2_r, u2_r, u2_r]
  by_cases hh : a = k ∧ c = j
  · rw [if_pos hh, if_pos hh]
  · rw [if_neg hh, if_neg hh, if_neg hh]
theorem al_P {μ : MT} {b j i : Nat} (hb : isPn b) (h1 : 1 ≤ j) (h2 : j ≤ 6) (hi : i < 12) : ald Zc μ (b + j) (nI i) = some (μ (b + j) i) := by
  obtain ⟨l1, l2, l3, l4, l5, l6⟩ := zpl hb
  rcases (by omega : j = 1 ∨ j = 2 ∨ j = 3 ∨ j = 4 ∨ j = 5 ∨ j = 6) with rfl | rfl | rfl | rfl | rfl | rfl
  · exact ald_n l1 hi (by omega)
  · exact ald_n l2 hi (by omega)
  · exact ald_n l3 hi (by omega)
  · exact ald_n l4 hi (by omega)
  · exact ald_n l5 hi (by omega)
  · exact ald_n l6 hi (by omega)
theorem as_P {μ : MT} {b j i : Nat} {v : Int32} (hb : isPn b) (h1 : 1 ≤ j) (h2 : j ≤ 6) (hi : i < 12) : ast Zc μ (b + j) (nI i) v = some (u2 μ (b + j) i v) := by
  obtain ⟨l1, l2, l3, l4, l5, l6⟩ := zpl hb
  rcases (by omega : j = 1 ∨ j = 2 ∨ j = 3 ∨ j = 4 ∨ j = 5 ∨ j = 6) with rfl | rfl | rfl | rfl | rfl | rfl
  · exact ast_n l1 hi (by omega)
  · exact ast_n l2 hi (by omega)
  · exact ast_n l3 hi (by omega)
  · exact ast_n l4 hi (by omega)
  · exact ast_n l5 hi (by omega)
  · exact ast_n l6 hi (by omega)
theorem coolN_s : ∀ n h, coolN (n + 1) h = 3 * coolN n h / 4
  | 0, h => rfl
  | n + 1, h => by
    rw [coolN, coolN_s n (3 * h / 4)]
    rfl
theorem coolN_0 : ∀ n, coolN n 0 = 0
  | 0 => rfl
  | n + 1 => by
    rw [coolN_s, coolN_0 n]
theorem coolN_a (n : Nat) : ∀ m h, coolN (n + m) h = coolN n (coolN m h)
  | 0, h => rfl
  | m + 1, h => by
    show coolN (n + m) (3 * h / 4) = _
    rw [coolN_a n m]
    rfl
theorem coolN_le : ∀ n h, coolN n h ≤ h
  | 0, h => Nat.le_refl _
  | n + 1, h => by
    rw [coolN_s]
    have := coolN_le n h
    omega
theorem p_cool {μ : MT} {b nc c : Nat} {x : RS} (hb : isPn b) (h : PIs μ b nc x) (hc : nc ≤ 12) (hcc : c < nc) : m_X2_cool Zc b (nI c) μ = some (u2 (u2 μ (b + 1) c (x.1 c)) (b + 2) c x.2.2.2) := by
  obtain ⟨h7, h8, ⟨w, hw, hwl, hh⟩, h9⟩ := h
  obtain ⟨hv, t, e1, e2, e3, e4, e5⟩ := hh c hcc
  unfold m_X2_cool
  rw [zp_1 hb, zp_0 hb, al_P hb (by omega) (by omega) (by omega), ob_s, e3]
  apply ok_eq
  refine ok_l (fun m s => ∃ i, i + m = w ∧ t ≤ i ∧ s = (nI i, u2 μ (b + 1) c (nI (coolN (i - t) hv)))) (w - t) (by omega) ⟨t, by omega, Nat.le_refl _, ?_⟩ ?_
  · rw [Nat.sub_self]
    show (nI t, μ) = (nI t, u2 μ (b + 1) c (nI hv))
    rw [u2_id e1]
  · rintro m s ⟨i, hi, hti, rfl⟩
    have e8 : u2 μ (b + 1) c (nI (coolN (i - t) hv)) b 8 = nI w := by rw [u2_r, if_neg (by omega), h8, hw]
    have ev : u2 μ (b + 1) c (nI (coolN (i - t) hv)) (b + 1) c = nI (coolN (i - t) hv) := by rw [u2_r, if_pos ⟨rfl, rfl⟩]
    have hle := coolN_le (i - t) hv
    have hend : coolN (i - t) hv = coolN (w - t) hv → Ok ((ast Zc (u2 μ (b + 1) c (nI (coolN (i - t) hv))) (b + 2) (nI c) (u2 μ (b + 1) c (nI (coolN (i - t) hv)) b 8)).bind fun ν11 => some ν11) (fun a => a = u2 (u2 μ (b + 1) c (x.1 c)) (b + 2) c x.2.2.2) := fun hq => by
      rw [as_P hb (by omega) (by omega) (by omega), ob_s, e8, hw, e5, hq]
      exact ok_s rfl
    simp only [e8]
    by_cases hm : i = w
    · subst hm
      rw [if_pos (by rw [x_le (by omega) (by omega)]; omega)]
      exact ok_s (Or.inl ⟨_, rfl, hend rfl⟩)
    · rw [if_neg (by rw [x_le (by omega) (by omega)]; omega), al_P hb (by omega) (by omega) (by omega), ob_s, ev]
      by_cases hz : coolN (i - t) hv = 0
      · rw [if_pos (by rw [hz]; decide)]
        refine ok_s (Or.inl ⟨_, rfl, hend ?_⟩)
        rw [show w - t = (w - i) + (i - t) by omega, coolN_a, hz, coolN_0]
      · rw [if_neg (by rw [x_lel (by omega) (by omega)]; omega), ob_s, x_ml, x_d4, ob_s, x_ndl (by omega) (by omega) (by omega), as_P hb (by omega) (by omega) (by omega), ob_s, u2_2, n1, ob_s]
        refine ok_s (Or.inr ⟨_, m - 1, rfl, by omega, i + 1, by omega, by omega, ?_⟩)
        rw [show i + 1 - t = (i - t) + 1 by omega, coolN_s, Nat.mul_comm]
theorem p_has {μ : MT} {b nc c : Nat} (e : μ b 7 = nI nc) (hc : nc ≤ 12) (hcc : c < nc) : m_X2_has Zc b (nI c) μ = some 1 := by
  unfold m_X2_has
  rw [if_neg (by rw [x_ltl (by omega) (by omega)]; omega), e, if_neg (by rw [x_le (by omega) (by omega)]; omega)]
theorem p_holds {μ : MT} {b nc k : Nat} {N : Nat → Int32} (hb : isPn b) (e : μ b 7 = nI nc) (hN : ∀ c, c < nc → μ (b + 3) c = N (12 + c)) (hc : nc ≤ 12) (hk : k ≤ 12) : m_X2_holds Zc b (nI k) μ = some (bI (hoA nc N k = true)) := by
  unfold m_X2_holds
  rw [if_neg (by rw [x_ltl (by omega) (by omega)]; omega), e]
  by_cases h1 : k < nc
  · rw [if_neg (by rw [x_le (by omega) (by omega)]; omega), zp_2 hb, al_P hb (by omega) (by omega) (by omega), ob_s, hN k h1]
    unfold hoA bI
    simp only [le0]
    by_cases h2 : 0 < N (12 + k)
    · simp [h1, h2]
    · simp [h1, h2]
  · rw [if_pos (by rw [x_le (by omega) (by omega)]; omega)]
    unfold hoA bI
    simp [h1]
theorem p_holdm {μ : MT} {b nc c : Nat} {N : Nat → Int32} (hb : isPn b) (e : μ b 7 = nI nc) (hN : ∀ c, c < nc → μ (b + 3) c = N (12 + c)) (hc : nc ≤ 12) (hk : c < 12) : m_X2_holds Zc b (nI c - 1) μ = some (bI (1 ≤ c ∧ hoA nc N (c - 1) = true)) := by
  by_cases h0 : c = 0
  · subst h0
    unfold m_X2_holds
    rw [if_pos (by decide), bI_f (by omega)]
  · rw [x_sl (by omega), p_holds hb e hN hc (by omega)]
    unfold bI
    by_cases h2 : hoA nc N (c - 1) = true
    · rw [if_pos h2, if_pos ⟨by omega, h2⟩]
    · rw [if_neg h2, if_neg (fun hh => h2 hh.2)]
theorem p_shr {μ : MT} {b nc kd c : Nat} {p : Int32} {N : Nat → Int32} (hb : isPn b) (e : μ b 7 = nI nc) (hN : ∀ c, c < nc → μ (b + 3) c = N (12 + c)) (hB : ∀ c, c < nc → μ (b + 4) c = N (24 + c)) (hc : nc ≤ 12) (hcc : c < nc) (hk2 : kd ≤ 6) : m_X2_shrinkageOf Zc b (nI kd) (nI c) p μ = some (shA nc N (kd + 1) c p) := by
  unfold m_X2_shrinkageOf
  rw [n1, p_holds hb e hN hc (by omega), p_holdm hb e hN hc (by omega), p_holds hb e hN hc (by omega), zp_3 hb, al_P hb (by omega) (by omega) (by omega), hB c hcc]
  simp (disch := omega) only [x_eql, bI_0, ob_s, x_d2]
  unfold shA
  simp only [le0]
  have hz : (if ¬ hoA nc N (c + 1) = true then some p else some (p - 1)) = some (p - (if hoA nc N (c + 1) = true then 1 else 0)) := by
    by_cases h1 : hoA nc N (c + 1) = true
    · simp [h1]
    · simp [h1]
  rw [hz, ob_s]
  rcases (by omega : kd = 0 ∨ kd = 1 ∨ kd = 2 ∨ kd = 3 ∨ kd = 4 ∨ kd = 5 ∨ kd = 6) with rfl | rfl | rfl | rfl | rfl | rfl | rfl
  · simp
  · simp
  · simp
  · simp only [if_false, if_true, Nat.reduceEqDiff, Nat.reduceAdd]
    by_cases h1 : 1 ≤ c ∧ hoA nc N (c - 1) = true
    · simp [h1, jn]
    · by_cases h2 : hoA nc N (c + 1) = true
      · simp [h1, h2, jn]
      · simp [h1, h2, jn]
  · simp only [if_false, if_true, Nat.reduceEqDiff, Nat.reduceAdd]
    by_cases h1 : hoA nc N c = true
    · simp [h1]
    · simp [h1]
  · simp
  · simp only [if_false, if_true, Nat.reduceEqDiff, Nat.reduceAdd]
    by_cases h1 : 0 < N (24 + c)
    · simp [h1]
    · simp [h1]
theorem p_eff {μ : MT} {b nc kd c g : Nat} {p : Int32} {N : Nat → Int32} (hb : isPn b) (hN : μ (b + 3) c = N (12 + c)) (hH : μ (b + 1) c = N c) (hg : N (12 + c) = nI g) (hg2 : g < 100000) (hc : c < 12) : m_X2_effectOf Zc b (shA nc N kd c p) (nI c) μ = some (efA nc N kd c p) := by
  unfold m_X2_effectOf
  have hz : ¬ (8 + nI g : Int32) = 0 := by
    rw [x_la, x_eql (by omega) (by omega)]; omega
  have hz2 : ¬ (8 + nI g : Int32) ≤ 0 := by
    rw [x_la, x_lel (by omega) (by omega)]; omega
  rw [zp_2 hb, zp_0 hb, al_P hb (by omega) (by omega) (by omega), al_P hb (by omega) (by omega) (by omega), ob_s, ob_s, hN, hg, if_neg hz2, x_dv hz, ob_s, ob_s, ob_s, hH, x_d2, ob_s]
  unfold efA
  rw [hg]
  by_cases h100 : N c < 100
  · rw [if_pos h100, if_neg (by rw [fa_le]; rw [fa_lt] at h100; omega)]
  · rw [if_neg h100, if_pos (by rw [fa_le]; rw [fa_lt] at h100; omega)]
theorem p_clm {μ : MT} {b c : Nat} (hc : c < 12) : m_X2_isClamped Zc b (nI c) μ = some (bI (bt (μ b 6) c = true)) := by
  unfold m_X2_isClamped bI
  simp only [(bitC (μ b 6) (c := c) (by omega)).1]
  by_cases h : bt (μ b 6) c = true
  · rw [if_pos h, if_pos h]
  · rw [if_neg h, if_neg h]
theorem p_hos {kd : Nat} {q : Int32} {μ : MT} (hk : kd ≤ 6) : m_X2_heatOfStep Zc (nI kd) q μ = some (heA (kd + 1) q) ∧ m_X2_holdOfStep Zc (nI kd) μ = some (hdA (kd + 1)) := by
  unfold m_X2_heatOfStep m_X2_holdOfStep heA hdA
  simp (disch := omega) only [x_eql]
  rcases (by omega : kd = 0 ∨ kd = 1 ∨ kd = 2 ∨ kd = 3 ∨ kd = 4 ∨ kd = 5 ∨ kd = 6) with rfl | rfl | rfl | rfl | rfl | rfl | rfl <;> simp
theorem hea_n {kd q : Nat} (h2 : q ≤ 20) : ∃ e : Nat, heA kd (nI q) = nI e ∧ e ≤ 120 := by
  unfold heA
  split
  · exact ⟨q, rfl, by omega⟩
  split
  · exact ⟨6 * q, x_lm, by omega⟩
  · exact ⟨4 * q, x_lm, by omega⟩
