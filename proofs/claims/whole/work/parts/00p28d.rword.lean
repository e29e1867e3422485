/-! ===== words, numbers, signs: what reading them gives ===== -/
def pNum (T : Nat → Nat) (N : Nat) (P : Nat → Bool) (k : PT) : (Nat × Nat) ⊕ (Nat × PT) :=
  if k.2.2 = 2 then (if P (nvA T k) = true then .inr (nvA T k, tkA T N k.2.1) else .inl (2, k.1)) else .inl (1, k.1)
def pSgn (T : Nat → Nat) (N : Nat) (k : PT) : (Nat × Nat) ⊕ PT := if k.2.2 = 3 then .inr (tkA T N k.2.1) else .inl (1, k.1)
def pkF (T : Nat → Nat) : Nat → Nat
  | 0 => 0
  | n + 1 => pkF T n * 256 + T n
def pkL (w : List Nat) : Nat := pkF (fun j => w.getD j 0) w.length
theorem pkF_inj {T W : Nat → Nat} : ∀ n m, (∀ j, j < n → 1 ≤ T j ∧ T j < 256) → (∀ j, j < m → 1 ≤ W j ∧ W j < 256) → pkF T n = pkF W m → n = m ∧ ∀ j, j < n → T j = W j
  | 0, 0, _, _, _ => ⟨rfl, fun j hj => by omega⟩
  | 0, m + 1, _, h2, h => by
    rw [pkF, pkF] at h
    have := h2 m (by omega)
    omega
  | n + 1, 0, h1, _, h => by
    rw [pkF, pkF] at h
    have := h1 n (by omega)
    omega
  | n + 1, m + 1, h1, h2, h => by
    rw [pkF, pkF] at h
    have a1 := h1 n (by omega)
    have a2 := h2 m (by omega)
    obtain ⟨e1, e2⟩ := pkF_inj n m (fun j hj => h1 j (by omega)) (fun j hj => h2 j (by omega)) (by omega)
    refine ⟨by omega, fun j hj => ?_⟩
    by_cases hjn : j = n
    · subst hjn
      subst e1
      omega
    · exact e2 j (by omega)
theorem pkF_c {T W : Nat → Nat} : ∀ n, (∀ j, j < n → T j = W j) → pkF T n = pkF W n
  | 0, _ => rfl
  | n + 1, h => by rw [pkF, pkF, pkF_c n (fun j hj => h j (by omega)), h n (by omega)]
theorem pkF_lt {T : Nat → Nat} : ∀ n, (∀ j, j < n → T j < 256) → pkF T n < 256 ^ n
  | 0, _ => by simp [pkF]
  | n + 1, h => by
    rw [pkF, Nat.pow_succ]
    have a1 := pkF_lt n (fun j hj => h j (by omega))
    have a2 := h n (by omega)
    omega
theorem ofn_inj {a b : Nat} (ha : a < 2 ^ 63) (hb : b < 2 ^ 63) : Int64.ofNat a = Int64.ofNat b ↔ a = b := by
  constructor
  · intro h
    have h2 := congrArg Int64.toInt h
    rw [Int64.toInt_ofNat', Int64.toInt_ofNat', Int64.size, Int.bmod_eq_of_le (by omega) (by omega), Int.bmod_eq_of_le (by omega) (by omega)] at h2
    omega
  · intro h; rw [h]
theorem ti64_bit {v i : Nat} (hv : v < 256) (hi : i < 64) : (nI v).toInt64.toBitVec.getLsbD i = v.testBit i := by
  show ((nI v).toBitVec.signExtend 64).getLsbD i = _
  rw [BitVec.getLsbD_signExtend]
  have hb : ∀ j, j < 32 → (nI v).toBitVec.getLsbD j = v.testBit j := fun j hj => bt_n hj
  by_cases h : i < 32
  · rw [decide_eq_true hi, Bool.true_and, if_pos h, hb i h]
  · have h1 : v.testBit i = false := Nat.testBit_lt_two_pow (Nat.lt_of_lt_of_le hv (show 2 ^ 8 ≤ 2 ^ i from Nat.pow_le_pow_right (by decide) (by omega)))
    have h2 : (nI v).toBitVec.msb = false := by
      rw [BitVec.msb_eq_getLsbD_last]
      show (nI v).toBitVec.getLsbD 31 = false
      rw [hb 31 (by omega)]
      exact Nat.testBit_lt_two_pow (by omega)
    rw [decide_eq_true hi, Bool.true_and, if_neg h, h1, h2]
theorem pack_s {a v : Nat} (ha : a < 2 ^ 48) (hv : v < 256) : (Int64.ofNat a <<< ((8 : Int32).toInt64 &&& 63)) ||| (nI v).toInt64 = Int64.ofNat (a * 256 + v) := by
  apply Int64.toBitVec_inj.mp
  apply BitVec.eq_of_getLsbD_eq
  intro i hi
  rw [Int64.toBitVec_or, BitVec.getLsbD_or, ti64_bit hv hi, Int64.toBitVec_shiftLeft]
  show (((Int64.ofNat a).toBitVec <<< (((8 : Int32).toInt64 &&& 63).toBitVec.smod 64).toNat).getLsbD i || v.testBit i) = _
  rw [show (((8 : Int32).toInt64 &&& 63).toBitVec.smod 64).toNat = 8 by decide, BitVec.getLsbD_shiftLeft]
  show (decide (i < 64) && !decide (i < 8) && (BitVec.ofNat 64 a).getLsbD (i - 8) || v.testBit i) = (BitVec.ofNat 64 (a * 256 + v)).getLsbD i
  rw [BitVec.getLsbD_ofNat, BitVec.getLsbD_ofNat, show a * 256 + v = 2 ^ 8 * a + v by omega, Nat.testBit_two_pow_mul_add _ (by omega)]
  by_cases h8 : i < 8
  · simp [hi, h8]
  · have h1 : v.testBit i = false := Nat.testBit_lt_two_pow (Nat.lt_of_lt_of_le hv (show 2 ^ 8 ≤ 2 ^ i from Nat.pow_le_pow_right (by decide) (by omega)))
    simp [hi, h8, h1, show i - 8 < 64 by omega]
def wrdA (T : Nat → Nat) (k : PT) : Int64 := if k.2.2 = 1 ∧ k.2.1 - k.1 < 8 then Int64.ofNat (pkF (fun j => T (k.1 + j)) (k.2.1 - k.1)) else 0
theorem tc_1 {s : Nat} (h : s ≤ 4) : (nI (tcA s) = 2 ↔ s = 1) ∧ (nI (tcA s) = 3 ↔ s = 2) ∧ (nI (tcA s) = 4 ↔ s = 3) ∧ (nI (tcA s) = 1 ↔ s = 0) := by
  have := (by decide +kernel : ∀ s, s < 5 → (nI (tcA s) = 2 ↔ s = 1) ∧ (nI (tcA s) = 3 ↔ s = 2) ∧ (nI (tcA s) = 4 ↔ s = 3) ∧ (nI (tcA s) = 1 ↔ s = 0))
  exact this s (by omega)
theorem r_word {μ : MT} {T : Nat → Nat} {N : Nat} {k : PT} (h : TrI μ T N) (hk : RkI μ k) (hok : TkOK T N k) : m_X9_word Zc 106 μ = some (if μ 106 27 = 0 then wrdA T k else 0) := by
  obtain ⟨hN, h1, h2⟩ := h
  obtain ⟨k1, k2, k3, k4⟩ := hk
  obtain ⟨o1, o2, o3, o4, o5, o6⟩ := hok
  have htc := (tc_1 o3).1
  unfold m_X9_word
  simp only [zA, k2, k3, k4, ob_s]
  rw [x_s o1]
  have hend : ∀ v : Int64, v = wrdA T k → Ok (if μ 106 27 = 0 then some v else some 0) (fun a => a = if μ 106 27 = 0 then wrdA T k else 0) := fun v hv => by
    subst hv
    by_cases h27 : μ 106 27 = 0
    · rw [if_pos h27, if_pos h27]; exact ok_s rfl
    · rw [if_neg h27, if_neg h27]; exact ok_s rfl
  apply ok_eq
  by_cases hs : k.2.2 = 1 ∧ k.2.1 - k.1 < 8
  · refine ok_l (fun m q => ∃ i, i + m = k.2.1 - k.1 ∧ q = (Int64.ofNat (pkF (fun j => T (k.1 + j)) i), nI (k.1 + i))) (k.2.1 - k.1) (by omega) ⟨0, by omega, rfl⟩ ?_
    rintro m q ⟨i, hi, rfl⟩
    simp only []
    by_cases hm : m = 0
    · rw [if_pos (by rw [x_le (by omega) (by omega)]; omega)]
      refine ok_s (Or.inl ⟨_, rfl, hend _ ?_⟩)
      unfold wrdA
      rw [if_pos hs, show i = k.2.1 - k.1 by omega]
    · obtain ⟨b1, b2⟩ := h2 (k.1 + i) (by omega)
      have hlt := pkF_lt (T := fun j => T (k.1 + j)) i (fun j hj => (h2 (k.1 + j) (by omega)).1)
      have hp : 256 ^ i ≤ 256 ^ 6 := Nat.pow_le_pow_right (by decide) (by omega)
      rw [if_neg (by rw [x_le (by omega) (by omega)]; omega), if_pos (htc.mpr hs.1), if_neg (by rw [x_lle (by omega) (by omega)]; omega), al_116 (by omega), ob_s, b2, pack_s (Nat.lt_of_lt_of_le hlt (by omega)) b1, n1]
      exact ok_s (Or.inr ⟨_, m - 1, rfl, by omega, i + 1, by omega, rfl⟩)
  · refine ok_l (fun m q => q = ((0 : Int64), nI k.1)) 0 (by omega) rfl ?_
    rintro m q rfl
    simp only []
    have h0 : (0 : Int64) = wrdA T k := by
      unfold wrdA
      rw [if_neg hs]
    by_cases hc : k.2.1 ≤ k.1
    · rw [if_pos (by rw [x_le (by omega) (by omega)]; exact hc)]
      exact ok_s (Or.inl ⟨_, rfl, hend _ h0⟩)
    · rw [if_neg (by rw [x_le (by omega) (by omega)]; exact hc)]
      by_cases hs1 : k.2.2 = 1
      · rw [if_pos (htc.mpr hs1), if_pos (by rw [x_lle (by omega) (by omega)]; omega)]
        exact ok_s (Or.inl ⟨_, rfl, hend _ h0⟩)
      · rw [if_neg (fun hq => hs1 (htc.mp hq))]
        exact ok_s (Or.inl ⟨_, rfl, hend _ h0⟩)
theorem pkL_lt : ∀ i, i < 13 → pkL (wdW i) < 2 ^ 63 ∧ 1 ≤ pkL (wdW i) := by decide +kernel
theorem alB_i {f : Nat → Bool} : ∀ n, alB f n = true ↔ ∀ c, c < n → f c = true
  | 0 => by simp [alB]
  | n + 1 => by
    rw [alB_s, Bool.and_eq_true, alB_i n]
    constructor
    · rintro ⟨h1, h2⟩ c hc
      by_cases hcn : c = n
      · rw [hcn]; exact h2
      · exact h1 c (by omega)
    · intro h
      exact ⟨fun c hc => h c (by omega), h n (by omega)⟩
theorem wr_iff {T : Nat → Nat} {N i : Nat} {k : PT} (hok : TkOK T N k) (hi : i < 13) : wrdA T k = Int64.ofNat (pkL (wdW i)) ↔ wsB T k i = true := by
  obtain ⟨o1, o2, o3, o4, o5, o6⟩ := hok
  obtain ⟨w1, w2, w3⟩ := wd_lo i hi
  obtain ⟨p1, p2⟩ := pkL_lt i hi
  unfold wrdA wsB wmB
  simp only [Bool.and_eq_true, decide_eq_true_eq, alB_i]
  by_cases hs : k.2.2 = 1 ∧ k.2.1 - k.1 < 8
  · rw [if_pos hs]
    have hlet := o5 hs.1
    have hlt := pkF_lt (T := fun j => T (k.1 + j)) (k.2.1 - k.1) (fun j hj => by have := hlet (k.1 + j) (by omega) (by omega); omega)
    have hp : 256 ^ (k.2.1 - k.1) ≤ 256 ^ 7 := Nat.pow_le_pow_right (by decide) (by omega)
    rw [ofn_inj (Nat.lt_of_lt_of_le hlt (Nat.le_trans hp (by decide))) p1]
    unfold pkL
    constructor
    · intro h
      obtain ⟨e1, e2⟩ := pkF_inj _ _ (fun j hj => by have := hlet (k.1 + j) (by omega) (by omega); omega) (fun j hj => by have := w3 j hj; omega) h
      exact ⟨hs.1, e1, fun c hc => e2 c (by omega)⟩
    · rintro ⟨_, e1, e2⟩
      rw [e1]
      exact pkF_c _ e2
  · rw [if_neg hs]
    constructor
    · intro h
      have h2 : Int64.ofNat 0 = Int64.ofNat (pkL (wdW i)) := h
      have := (ofn_inj (by omega) p1).mp h2
      omega
    · rintro ⟨e0, e1, e2⟩
      exact absurd ⟨e0, by omega⟩ hs
theorem wr_c {T : Nat → Nat} {N : Nat} {k : PT} (hok : TkOK T N k) {i : Nat} {c : Int64} (hi : i < 13) (hc : c = Int64.ofNat (pkL (wdW i))) : (lg_cmp (wrdA T k) c = 0) ↔ wsB T k i = true := by
  rw [lg_cmp_eq, hc]
  exact wr_iff hok hi
theorem cw_n : (1952539499 : Int64) = Int64.ofNat (pkL (wdW 0)) ∧ (28526 : Int64) = Int64.ofNat (pkL (wdW 1)) ∧ (1650549611 : Int64) = Int64.ofNat (pkL (wdW 2)) ∧ (1936419184 : Int64) = Int64.ofNat (pkL (wdW 3)) ∧ (126879297138276 : Int64) = Int64.ofNat (pkL (wdW 4)) ∧ (128047779833188 : Int64) = Int64.ofNat (pkL (wdW 5)) ∧ (439904988517 : Int64) = Int64.ofNat (pkL (wdW 6)) ∧ (2002872692 : Int64) = Int64.ofNat (pkL (wdW 7)) ∧ (427020086640 : Int64) = Int64.ofNat (pkL (wdW 8)) ∧ (1718773093 : Int64) = Int64.ofNat (pkL (wdW 9)) ∧ (482670962028 : Int64) = Int64.ofNat (pkL (wdW 10)) ∧ (1936023917 : Int64) = Int64.ofNat (pkL (wdW 11)) ∧ (108187649798757 : Int64) = Int64.ofNat (pkL (wdW 12)) := by decide +kernel
theorem z_c {c : Int64} (h : ¬ (0 : Int64) = c) : ¬ lg_cmp 0 c = 0 := fun hq => h ((lg_cmp_eq 0 c).mp hq)
def krI (q : Option Nat) : Int32 := match q with
  | none => -1000000
  | some i => nI (i + 1)
theorem r_kow {μ : MT} {T : Nat → Nat} {N : Nat} {k : PT} (h : TrI μ T N) (hk : RkI μ k) (hok : TkOK T N k) : m_X9_kindOfWord Zc 106 μ = some (if μ 106 27 = 0 then krI (akA T k) else -1000000) := by
  obtain ⟨c0, c1, c2, c3, c4, c5, c6, c7, c8, c9, -, -, -⟩ := cw_n
  unfold m_X9_kindOfWord
  rw [r_word h hk hok, ob_s]
  by_cases h27 : μ 106 27 = 0
  · rw [if_pos h27, if_pos h27]
    simp only [wr_c hok (show 0 < 13 by omega) c0, wr_c hok (show 1 < 13 by omega) c1, wr_c hok (show 2 < 13 by omega) c2, wr_c hok (show 3 < 13 by omega) c3, wr_c hok (show 4 < 13 by omega) c4, wr_c hok (show 5 < 13 by omega) c5, wr_c hok (show 6 < 13 by omega) c6, wr_c hok (show 7 < 13 by omega) c7, wr_c hok (show 8 < 13 by omega) c8, wr_c hok (show 9 < 13 by omega) c9]
    unfold akA
    simp only [akG]
    repeat' split
    all_goals rfl
  · rw [if_neg h27, if_neg h27, if_neg (z_c (by decide)), if_neg (z_c (by decide)), if_neg (z_c (by decide)), if_neg (z_c (by decide)), if_neg (z_c (by decide)), if_neg (z_c (by decide)), if_neg (z_c (by decide)), if_neg (z_c (by decide)), if_neg (z_c (by decide)), if_neg (z_c (by decide))]
/-- a fault is told: its number, its place -/
def FsI (μ : MT) (T : Nat → Nat) (N c pl : Nat) : Prop := μ 106 27 = nI c ∧ 1 ≤ c ∧ c ≤ 3 ∧ μ 106 28 = nI pl ∧ TrI μ T N ∧ ∃ k, RkI μ k ∧ TkOK T N k
theorem FsI.ne {μ : MT} {T : Nat → Nat} {N c pl : Nat} (h : FsI μ T N c pl) : ¬ μ 106 27 = 0 ∧ ¬ μ 106 27 ≤ 0 := by
  rw [h.1]
  have h1 := h.2.1
  have h2 := h.2.2.1
  refine ⟨?_, ?_⟩
  · rw [x_eql (by omega) (by omega)]; omega
  · rw [x_lel (by omega) (by omega)]; omega
theorem r_bad_f {μ : MT} {T : Nat → Nat} {N c pl : Nat} {z : Int32} (h : FsI μ T N c pl) : m_X9_bad Zc 106 z μ = some μ := by
  unfold m_X9_bad
  rw [if_neg h.ne.1]
theorem r_must_f {μ : MT} {T : Nat → Nat} {N c pl : Nat} {z : Int32} (h : FsI μ T N c pl) : m_X9_must Zc 106 z μ = some μ := by
  unfold m_X9_must
  rw [r_bad_f h]
  simp only [ob_s]
  by_cases hz : z = 0
  · rw [if_pos hz, ob_s, if_neg h.ne.1]
  · rw [if_neg hz, ob_s, if_neg h.ne.1]
theorem r_num_f {μ : MT} {T : Nat → Nat} {N c pl : Nat} {a b z : Int32} (h : FsI μ T N c pl) : m_X9_numberIn Zc 106 a b z μ = some (0, μ) := by
  unfold m_X9_numberIn
  rw [if_neg h.ne.2]
theorem r_end_f {μ : MT} {T : Nat → Nat} {N c pl : Nat} (h : FsI μ T N c pl) : m_X9_mustEnd Zc 106 μ = some μ := by
  unfold m_X9_mustEnd
  rw [if_neg h.ne.1]
theorem r_word_f {μ : MT} {T : Nat → Nat} {N c pl : Nat} (h : FsI μ T N c pl) : m_X9_word Zc 106 μ = some 0 := by
  obtain ⟨k, h1, h2⟩ := h.2.2.2.2.2
  rw [r_word h.2.2.2.2.1 h1 h2, if_neg h.ne.1]
theorem r_kow_f {μ : MT} {T : Nat → Nat} {N c pl : Nat} (h : FsI μ T N c pl) : m_X9_kindOfWord Zc 106 μ = some (-1000000) := by
  obtain ⟨k, h1, h2⟩ := h.2.2.2.2.2
  rw [r_kow h.2.2.2.2.1 h1 h2, if_neg h.ne.1]
theorem r_bad {μ : MT} {T : Nat → Nat} {N c : Nat} {k : PT} (h : TrI μ T N) (hk : RkI μ k) (hok : TkOK T N k) (h27 : μ 106 27 = 0) (hc : 1 ≤ c ∧ c ≤ 3) : Ok (m_X9_bad Zc 106 (nI c) μ) (fun ν => FsI ν T N c k.1 ∧ FrU μ ν ∧ RkI ν k) := by
  unfold m_X9_bad
  rw [if_pos h27, ob_s, ob_s]
  have e25 : u2 μ 106 27 (nI c) 106 25 = nI k.1 := by rw [u2_r, if_neg (by omega)]; exact hk.2.2.1
  rw [e25]
  have hfr : FrU μ (u2 (u2 μ 106 27 (nI c)) 106 28 (nI k.1)) := ((FrU.refl μ).w (by omega)).w (by omega)
  have hk2 : RkI (u2 (u2 μ 106 27 (nI c)) 106 28 (nI k.1)) k := by
    obtain ⟨k1, k2, k3, k4⟩ := hk
    refine ⟨?_, ?_, ?_, ?_⟩
    all_goals (rw [u2_r, if_neg (by omega), u2_r, if_neg (by omega)]; assumption)
  refine ok_s ⟨⟨?_, hc.1, hc.2, ?_, hfr.tr h, k, hk2, hok⟩, hfr, hk2⟩
  · rw [u2_r, if_neg (by omega), u2_r, if_pos ⟨rfl, rfl⟩]
  · rw [u2_r, if_pos ⟨rfl, rfl⟩]
theorem r_must1 {μ : MT} {T : Nat → Nat} {N : Nat} {k : PT} (h : TrI μ T N) (hk : RkI μ k) (hok : TkOK T N k) (h27 : μ 106 27 = 0) : Ok (m_X9_must Zc 106 1 μ) (fun ν => RkI ν (tkA T N k.2.1) ∧ FrU μ ν ∧ ν 106 27 = 0) := by
  unfold m_X9_must
  rw [if_neg (by decide), ob_s, if_pos h27]
  refine ok_b (r_tnext h hok.2.1 hk.1) ?_
  rintro ν ⟨g1, g2, g3, g4⟩
  exact ok_s ⟨g1, g2, by rw [g3]; exact h27⟩
theorem r_must0 {μ : MT} {T : Nat → Nat} {N : Nat} {k : PT} (h : TrI μ T N) (hk : RkI μ k) (hok : TkOK T N k) (h27 : μ 106 27 = 0) : Ok (m_X9_must Zc 106 0 μ) (fun ν => FsI ν T N 1 k.1 ∧ FrU μ ν) := by
  unfold m_X9_must
  rw [if_pos rfl]
  refine ok_b (R1 := fun ν => FsI ν T N 1 k.1 ∧ FrU μ ν) ?_ ?_
  · refine ok_b (r_bad (c := 1) h hk hok h27 (by omega)) ?_
    rintro ν ⟨g1, g2, g3⟩
    exact ok_s ⟨g1, g2⟩
  · rintro ν ⟨g1, g2⟩
    rw [if_neg g1.ne.1]
    exact ok_s ⟨g1, g2⟩
theorem r_num {μ : MT} {T : Nat → Nat} {N : Nat} {k : PT} {a b z : Int32} {P : Nat → Bool} (h : TrI μ T N) (hk : RkI μ k) (hok : TkOK T N k) (h27 : μ 106 27 = 0) (hP : ∀ v, v ≤ 99 → (P v = true ↔ ((a.toInt ≤ v ∧ (v : Int) ≤ b.toInt) ∧ ¬ nI v = z))) :
    Ok (m_X9_numberIn Zc 106 a b z μ) (fun q => FrU μ q.2 ∧ match pNum T N P k with
      | .inl e => FsI q.2 T N e.1 e.2
      | .inr r => q.1 = nI r.1 ∧ RkI q.2 r.2 ∧ q.2 106 27 = 0) := by
  obtain ⟨hN, h1, h2⟩ := id h
  obtain ⟨k1, k2, k3, k4⟩ := id hk
  obtain ⟨o1, o2, o3, o4, o5, o6⟩ := id hok
  have htc := (tc_1 o3).2.1
  unfold m_X9_numberIn pNum
  simp only [zA, k2, k3, k4, ob_s]
  rw [if_pos (by rw [h27]; decide)]
  by_cases hs : k.2.2 = 2
  · rw [if_pos hs]
    obtain ⟨o7, o8⟩ := o6 hs
    have hnv := nv_le hok hs
    refine ok_l (fun m q => ∃ i, i + m = k.2.1 - k.1 ∧ q = (nI (nvF T k.1 i), nI (k.1 + i))) (k.2.1 - k.1) (by omega) ⟨0, by omega, rfl⟩ ?_
    rintro m q ⟨i, hi, rfl⟩
    simp only []
    by_cases hm : m = 0
    · rw [if_pos (by rw [x_le (by omega) (by omega)]; omega)]
      refine ok_s (Or.inl ⟨_, rfl, ?_⟩)
      have hi2 : nvF T k.1 i = nvA T k := by
        unfold nvA
        rw [show i = k.2.1 - k.1 by omega]
      rw [hi2]
      generalize nvA T k = v at hnv ⊢
      have hPv := hP v hnv
      rw [if_pos (htc.mpr hs), q_in, Int32.toInt_toInt64, Int32.toInt_toInt64, Int32.toInt_toInt64, ti_n (by omega), ob_s]
      have hbad : Ok ((m_X9_bad Zc 106 2 μ).bind fun ν20 => some ν20) (fun ν => FsI ν T N 2 k.1 ∧ FrU μ ν ∧ RkI ν k) := by
        refine ok_b (r_bad (c := 2) h hk hok h27 (by omega)) ?_
        rintro ν g
        exact ok_s g
      by_cases hp : P v = true
      · obtain ⟨q1, q2⟩ := hPv.mp hp
        rw [if_pos hp, bI_t q1, if_neg (by decide), if_neg q2, ob_s]
        simp only [jn, ob_s]
        rw [k2, if_pos (htc.mpr hs), ob_s]
        refine ok_b (r_must1 h hk hok h27) ?_
        rintro ν ⟨g1, g2, g3⟩
        exact ok_s ⟨g2, rfl, g1, g3⟩
      · rw [if_neg hp]
        have hrest : ∀ ν9, FsI ν9 T N 2 k.1 ∧ FrU μ ν9 ∧ RkI ν9 k → Ok ((if ν9 106 24 = 3 then some 1 else some 0 : Option Int32).bind (fun z12 => (m_X9_must Zc 106 z12 ν9).bind fun ν15 => some (nI v, ν15))) (fun q => FrU μ q.2 ∧ FsI q.2 T N 2 k.1) := fun ν9 ⟨g1, g2, g3⟩ => by
          rw [g3.2.1, if_pos (htc.mpr hs), ob_s, r_must_f g1, ob_s]
          exact ok_s ⟨g2, g1⟩
        by_cases q1 : a.toInt ≤ v ∧ (v : Int) ≤ b.toInt
        · have q2 : nI v = z := Classical.byContradiction fun hq => hp (hPv.mpr ⟨q1, hq⟩)
          rw [bI_t q1, if_neg (by decide), if_pos q2, ob_s]
          exact ok_b hbad hrest
        · rw [bI_f q1, if_pos rfl, ob_s]
          exact ok_b hbad hrest
    · obtain ⟨b1, b2⟩ := h2 (k.1 + i) (by omega)
      have hd := o8 (k.1 + i) (by omega) (by omega)
      rw [if_neg (by rw [x_le (by omega) (by omega)]; omega), if_pos (htc.mpr hs), al_116 (by omega), ob_s, b2, x_lm, x_a, x_sl (by omega), n1]
      refine ok_s (Or.inr ⟨_, m - 1, rfl, by omega, i + 1, by omega, ?_⟩)
      rw [nvF, show 10 * nvF T k.1 i + T (k.1 + i) - 48 = nvF T k.1 i * 10 + (T (k.1 + i) - 48) by omega]
      rfl
  · rw [if_neg hs]
    refine ok_l (fun m q => q = ((0 : Int32), nI k.1)) 0 (by omega) rfl ?_
    rintro m q rfl
    simp only []
    have hrest : Ok ((((if nI (tcA k.2.2) = 3 then (m_X9_in Zc ((0 : Int32).toInt64) ((a : Int32).toInt64) ((b : Int32).toInt64) μ).bind fun r16 => (((if r16 = 0 then some (Sum.inr ()) else (if (0 : Int32) = z then some (Sum.inr ()) else some (Sum.inl μ))) : Option ((MT) ⊕ (Unit)))).bind (jn (fun (_ : Unit) => (m_X9_bad Zc 106 2 μ).bind fun ν20 => some ν20)) else some μ) : Option (MT))).bind (fun ν9 => (((if (ν9 106 24) = 3 then some 1 else some 0) : Option (Int32))).bind (fun z12 => (m_X9_must Zc 106 z12 ν9).bind fun ν15 => some ((0 : Int32), ν15)))) (fun q => FrU μ q.2 ∧ FsI q.2 T N 1 k.1) := by
      rw [if_neg (fun hq => hs (htc.mp hq)), ob_s, k2, if_neg (fun hq => hs (htc.mp hq)), ob_s]
      refine ok_b (r_must0 h hk hok h27) ?_
      rintro ν ⟨g1, g2⟩
      exact ok_s ⟨g2, g1⟩
    by_cases hc : k.2.1 ≤ k.1
    · rw [if_pos (by rw [x_le (by omega) (by omega)]; exact hc)]
      exact ok_s (Or.inl ⟨_, rfl, hrest⟩)
    · rw [if_neg (by rw [x_le (by omega) (by omega)]; exact hc), if_neg (fun hq => hs (htc.mp hq))]
      exact ok_s (Or.inl ⟨_, rfl, hrest⟩)
theorem r_end {μ : MT} {T : Nat → Nat} {N : Nat} {k : PT} (h : TrI μ T N) (hk : RkI μ k) (hok : TkOK T N k) (h27 : μ 106 27 = 0) :
    Ok (m_X9_mustEnd Zc 106 μ) (fun ν => FrU μ ν ∧ match pSgn T N k with
      | .inl e => FsI ν T N e.1 e.2
      | .inr r => RkI ν r ∧ ν 106 27 = 0) := by
  have o3 := hok.2.2.1
  have htc := (tc_1 o3).2.2.1
  unfold m_X9_mustEnd pSgn
  rw [if_pos h27, hk.2.1]
  by_cases hs : k.2.2 = 3
  · rw [if_pos (htc.mpr hs), ob_s, if_pos hs]
    refine ok_b (r_must1 h hk hok h27) ?_
    rintro ν ⟨g1, g2, g3⟩
    exact ok_s ⟨g2, g1, g3⟩
  · rw [if_neg (fun hq => hs (htc.mp hq)), ob_s, if_neg hs]
    refine ok_b (r_must0 h hk hok h27) ?_
    rintro ν ⟨g1, g2⟩
    exact ok_s ⟨g2, g1⟩
