theorem acp0 {μ : MT} {k k1 n n1 m : Nat} {v : Int32} (hk : zl Zc k = n) (hk1 : zl Zc k1 = n1) (h1 : m ≤ n) (h2 : m ≤ n1) (hm : m < 1000) (hv : v = nI m) : acp Zc μ k 0 k1 0 v = some (u1 μ k1 (fun j => if j < m then μ k j else μ k1 j)) := by
  subst hv
  have e0 : (0 : Int32).toNatClampNeg = 0 := rfl
  have hn : ¬ nI m < 0 := by rw [x_ltl (by omega) (by omega)]; omega
  unfold acp
  rw [x_cl (by omega), e0, hk, hk1, if_pos ⟨by decide, by decide, hn, by omega, by omega⟩]
  congr 2
  funext j
  unfold va_cpy
  by_cases hj : j < m
  · have h3 : 0 ≤ j ∧ j < 0 + m := by omega
    rw [if_pos h3, if_pos hj, show 0 + (j - 0) = j by omega]
  · have h3 : ¬ (0 ≤ j ∧ j < 0 + m) := by omega
    rw [if_neg h3, if_neg hj]
theorem p_begin {μ : MT} {b k nc : Nat} (hb : isPn b) (hk : zl Zc k = 12) (hk2 : k < b ∨ b + 6 < k) (hc : nc ≤ 12) : Ok (m_X2_begin Zc b (nI nc) k μ) (fun ν => PIs ν b nc (bgA (μ k)) ∧ FrP b μ ν) := by
  obtain ⟨l1, l2, l3, l4, l5, l6⟩ := zpl hb
  have hmin : imin (nI nc) 12 = nI nc := by
    unfold imin
    rw [if_neg (by rw [x_llt (by omega) (by omega)]; omega)]
  unfold m_X2_begin
  rw [hmin, zp_0 hb, zp_1 hb, zp_2 hb, zp_3 hb, zp_4 hb, zp_5 hb]
  simp only [ob_s]
  rw [q_fill l1 (by omega), ob_s, q_fill l2 (by omega), ob_s, q_fill l3 (by omega), ob_s, q_fill l5 (by omega), ob_s, q_fill l6 (by omega), ob_s, acp0 (m := 12) (v := 12) hk l4 (by omega) (by omega) (by omega) rfl, ob_s]
  have hkb : ¬ k = b := by omega
  have hk1 : ¬ k = b + 1 := by omega
  have hk3 : ¬ k = b + 2 := by omega
  have hk4 : ¬ k = b + 3 := by omega
  have hk5 : ¬ k = b + 5 := by omega
  have hk6 : ¬ k = b + 6 := by omega
  refine ok_s ⟨⟨?_, ?_, ⟨0, rfl, by omega, ?_⟩, ?_⟩, ?_⟩
  · simp [u1_r, u2_r]
  · simp [u1_r, u2_r, bgA]
  · intro c hcc
    have hcl : c < 12 := by omega
    refine ⟨0, 0, ?_, by omega, ?_, by omega, ?_⟩
    · simp [u1_r, u2_r, hcl]; rfl
    · simp [u1_r, u2_r, hcl]; rfl
    · simp only [bgA]
      rw [if_neg (by omega)]
      rfl
  · intro c hcc
    have hcl : c < 12 := by omega
    refine ⟨?_, ?_, ?_, ?_, ?_, Or.inl rfl⟩
    · simp only [bgA]
      rw [if_neg (by omega)]
      simp [u1_r, u2_r, hcl]
    · simp only [bgA]
      rw [if_pos (by omega), show 24 + c - 24 = c by omega]
      simp [u1_r, u2_r, hcl, hkb, hk1, hk3, hk4, hk5, hk6]
    · simp [u1_r, u2_r, hcl, bgA]
    · simp only [bgA]
      rw [if_neg (by omega)]
      simp [u1_r, u2_r, hcl]
    · simp [u1_r, u2_r, bgA, b_0]
  · exact ((((((((((FrP.refl b μ).w (by omega)).w (by omega)).w (by omega)).w (by omega)).w1 (by omega)).w1 (by omega)).w1 (by omega)).w1 (by omega)).w1 (by omega)).w1 (by omega)
theorem p_height {μ : MT} {b nc i : Nat} {N : Nat → Int32} (hb : isPn b) (e : μ b 7 = nI nc) (hB : ∀ c, c < nc → μ (b + 4) c = N (24 + c)) (hc : nc ≤ 12) (hi : i ≤ nc) : m_X2_heightAt Zc b (nI i) μ = some (hgA N i).2 := by
  unfold m_X2_heightAt
  apply ok_eq
  refine ok_l (fun m q => ∃ c, c + m = i ∧ q = ((hgA N c).1, (hgA N c).2, nI c)) i (by omega) ⟨0, by omega, rfl⟩ ?_
  rintro m q ⟨c, hc', rfl⟩
  by_cases hm : m = 0
  · subst hm
    have : c = i := by omega
    subst this
    simp (disch := omega) only [x_le, Nat.le_refl, if_true]
    exact ok_s (Or.inl ⟨_, rfl, ok_s rfl⟩)
  · simp (disch := omega) only [e, x_le, show ¬ i ≤ c by omega, show ¬ nc ≤ c by omega, if_false, zp_3 hb]
    rw [al_P hb (by omega) (by omega) (by omega), ob_s, hB c (by omega)]
    simp only [ob_s, n1]
    refine ok_s (Or.inr ⟨_, m - 1, rfl, by omega, c + 1, by omega, ?_⟩)
    simp only [hgA]
theorem iabs_A (y : Int32) : iabs y = abA y := by
  unfold iabs abA
  by_cases h : 0 ≤ y
  · rw [if_pos h, if_neg (by rw [fa_lt]; rw [fa_le] at h; omega)]
  · rw [if_neg h, if_pos (by rw [fa_lt]; rw [fa_le] at h; omega), Int32.zero_sub]
theorem mx_1 (nc : Nat) (N : Nat → Int32) : mxA nc N 1 = 0 := by
  have h : nI nc * (hgA N 0).2 - nI 0 * (hgA N nc).2 = 0 := by
    show nI nc * 0 - nI 0 * (hgA N nc).2 = 0
    rw [nI_0, Int32.zero_mul, Int32.mul_zero]
    rfl
  rw [mxA, h]
  rfl
theorem p_off {μ : MT} {b nc : Nat} {N : Nat → Int32} (hb : isPn b) (e : μ b 7 = nI nc) (hB : ∀ c, c < nc → μ (b + 4) c = N (24 + c)) (hc : 4 ≤ nc) (hc2 : nc ≤ 12) : m_X2_off Zc b μ = some (offA nc N) := by
  unfold m_X2_off
  rw [e, p_height hb e hB hc2 (Nat.le_refl _), ob_s]
  apply ok_eq
  refine ok_l (fun m q => ∃ c, c + m = nc ∧ q = ((hgA N c).1, (hgA N c).2, mxA nc N (c + 1), nI c)) nc (by omega) ⟨0, by omega, ?_⟩ ?_
  · rw [mx_1]; rfl
  rintro m q ⟨c, hc', rfl⟩
  by_cases hm : m = 0
  · subst hm
    have : c = nc := by omega
    subst this
    simp (disch := omega) only [x_le, Nat.le_refl, if_true]
    refine ok_s (Or.inl ⟨_, rfl, ?_⟩)
    rw [if_neg (by rw [x_lel (by omega) (by omega)]; omega), x_dv (by rw [ne_eq, x_eql (by omega) (by omega)]; omega), ob_s]
    exact ok_s rfl
  · simp (disch := omega) only [x_le, show ¬ nc ≤ c by omega, if_false, zp_3 hb]
    rw [al_P hb (by omega) (by omega) (by omega), ob_s, hB c (by omega)]
    simp only [ob_s, n1, iabs_A]
    refine ok_s (Or.inr ⟨_, m - 1, rfl, by omega, c + 1, by omega, ?_⟩)
    simp only [hgA, imax, mxA]
    rfl
theorem p_pull {μ : MT} {b nc c : Nat} {x : RS} (hb : isPn b) (h : PIs μ b nc x) (hc : nc ≤ 12) (hcc : c < nc) : m_X2_pullOf Zc b (nI c) μ = some (x.1 (36 + c)) := by
  obtain ⟨h7, h8, hh, h9⟩ := h
  unfold m_X2_pullOf
  rw [p_has h7 hc hcc, ob_s, if_neg (by decide), zp_5 hb, al_P hb (by omega) (by omega) (by omega), ob_s, h7, (h9 c hcc).2.2.2.1]
/-- the first cell whose pull is above a limit -/
def fsF (N : Nat → Int32) (lim : Int32) : Nat → Nat → Int32
  | 0, _ => -1000000
  | n + 1, c => if lim < N (36 + c) then nI c else fsF N lim n (c + 1)
theorem nle {a b : Int32} : ¬ a ≤ b ↔ b < a := by rw [fa_le, fa_lt]; omega
theorem p_fst {μ : MT} {b nc : Nat} {x : RS} {lim : Int32} (hb : isPn b) (h : PIs μ b nc x) (hc : nc ≤ 12) : m_X2_firstAbove Zc b lim μ = some (fsF x.1 lim nc 0) := by
  unfold m_X2_firstAbove
  have h7 := h.1
  apply ok_eq
  refine ok_c (fun i => fsF x.1 lim (nc - i) i = fsF x.1 lim nc 0) 0 nc (by omega) (by omega) rfl rfl ?_ ?_
  · intro i _ hi hJ
    simp (disch := omega) only [h7, x_le, show ¬ nc ≤ i by omega, if_false]
    rw [p_pull hb h hc hi, ob_s]
    rw [show nc - i = (nc - (i + 1)) + 1 by omega, fsF] at hJ
    by_cases hl : x.1 (36 + i) ≤ lim
    · rw [if_pos hl, ob_s, n1]
      rw [if_neg (fun q => (nle.mpr q) hl)] at hJ
      exact ok_s (Or.inl ⟨rfl, hJ⟩)
    · rw [if_neg hl]
      rw [if_pos (nle.mp hl)] at hJ
      exact ok_s (Or.inr ⟨_, rfl, ok_s hJ⟩)
  · intro hJ
    simp (disch := omega) only [h7, x_le, Nat.le_refl, if_true]
    rw [Nat.sub_self] at hJ
    exact ok_s ⟨_, rfl, ok_s hJ⟩
theorem p_heat {μ : MT} {b nc c : Nat} {x : RS} (hb : isPn b) (h : PIs μ b nc x) (hc : nc ≤ 12) (hcc : c < nc) : Ok (m_X2_heatOf Zc b (nI c) μ) (fun r => r.1 = x.1 c ∧ PIs r.2 b nc x ∧ FrP b μ r.2) := by
  have hcool := p_cool hb h hc hcc
  obtain ⟨h7, h8, ⟨w, hw, hwl, hh⟩, h9⟩ := h
  unfold m_X2_heatOf
  rw [p_has h7 hc hcc, ob_s, if_neg (by decide), hcool, ob_s, zp_0 hb, al_P hb (by omega) (by omega) (by omega), ob_s]
  refine ok_s ⟨?_, ⟨?_, ?_, ⟨w, hw, hwl, ?_⟩, ?_⟩, ((FrP.refl b μ).w (by omega)).w (by omega)⟩
  · simp [u2_r]
  · simp [u2_r, h7]
  · simp [u2_r, h8]
  · intro c' hc'
    obtain ⟨h', t', a1, a2, a3, a4, a5⟩ := hh c' hc'
    have := coolN_le (w - t') h'
    by_cases hcc' : c' = c
    · subst hcc'
      refine ⟨coolN (w - t') h', w, ?_, by omega, ?_, by omega, ?_⟩
      · simp [u2_r, a5]
      · simp [u2_r, hw]
      · rw [Nat.sub_self]; exact a5
    · refine ⟨h', t', ?_, a2, ?_, a4, a5⟩
      · simp [u2_r, a1, hcc']
      · simp [u2_r, a3, hcc']
  · intro c' hc'
    obtain ⟨a1, a2, a3, a4, a5, a6⟩ := h9 c' hc'
    refine ⟨?_, ?_, ?_, ?_, ?_, a6⟩
    · simp [u2_r, a1]
    · simp [u2_r, a2]
    · simp [u2_r, a3]
    · simp [u2_r, a4]
    · simp [u2_r, a5]
/-! ===== seams ===== -/
theorem p_first {μ : MT} {p ns s : Nat} {E : Nat → Nat} (hp : isPl p) (e1 : μ p 1 = nI ns) (hs : s < ns) (hns : ns ≤ 6) (hE0 : E 0 = 0) (hE : ∀ s, s < ns → μ (p + 5) s = nI (E (s + 1))) : m_X3_firstAct Zc p (nI s) μ = some (nI (E s)) := by
  unfold m_X3_firstAct
  by_cases h0 : s = 0
  · subst h0
    rw [if_pos (by decide), hE0]
    rfl
  · rw [if_neg (by rw [x_lel (by omega) (by omega)]; omega), e1, if_neg (by rw [x_le (by omega) (by omega)]; omega), zq_8 hp, x_sl (by omega), al_p5 hp (by omega) (by omega) (by omega), ob_s, hE (s - 1) (by omega), show s - 1 + 1 = s by omega]
theorem p_last {μ : MT} {p ns s : Nat} {E : Nat → Nat} (hp : isPl p) (e1 : μ p 1 = nI ns) (hs : s < ns) (hns : ns ≤ 6) (hE : ∀ s, s < ns → μ (p + 5) s = nI (E (s + 1))) : m_X3_endOfActs Zc p (nI s) μ = some (nI (E (s + 1))) := by
  unfold m_X3_endOfActs
  rw [q_hasSeam e1 (by omega), ob_s, bI_t (by rw [ti_n (by omega)]; omega), if_neg (by decide), zq_8 hp, al_p5 hp (by omega) (by omega) (by omega), ob_s, hE s hs]
theorem seg_ex {E : Nat → Nat} (hE0 : E 0 = 0) : ∀ t a, a < E t → ∃ s, s < t ∧ E s ≤ a ∧ a < E (s + 1)
  | 0, a, h => by omega
  | t + 1, a, h => by
    by_cases ha : a < E t
    · obtain ⟨s, h1, h2⟩ := seg_ex hE0 t a ha
      exact ⟨s, by omega, h2⟩
    · exact ⟨t, by omega, by omega, h⟩
theorem fold_sk {α : Type} {f : α → Nat → α} {x : α} {lo : Nat} : ∀ n, (∀ a y, lo ≤ a → a < lo + n → f y a = y) → (List.range (lo + n)).foldl f x = (List.range lo).foldl f x
  | 0, _ => rfl
  | n + 1, h => by
    rw [show lo + (n + 1) = (lo + n) + 1 by omega, List.range_succ, List.foldl_append, List.foldl_cons, List.foldl_nil, h _ _ (by omega) (by omega)]
    exact fold_sk n (fun a y h1 h2 => h a y h1 (by omega))
theorem mins_h {nc c : Nat} (hc : c < nc) : ∀ (n : Nat) (x : RS) (h : Nat), x.1 c = nI h → h ≤ 480 → (minsA nc n x).1 c = nI (coolN n h)
  | 0, x, h, e, _ => e
  | n + 1, x, h, e, hl => by
    refine mins_h hc n (minA nc x) (3 * h / 4) ?_ (by omega)
    show (if c < nc then 3 * x.1 c / 4 else x.1 c) = _
    rw [if_pos hc, e, (cool_n hl).1]
theorem p_wait {μ : MT} {b nc n m : Nat} {x : RS} (hb : isPn b) (h : PIs μ b nc x) (hbd : Bd nc m x) (hm : m < 1000) (hc : nc ≤ 12) (hn : n ≤ 30) : PIs (u2 μ b 8 (μ b 8 + nI n)) b nc (minsA nc n x) := by
  obtain ⟨h7, h8, ⟨w, hw, hwl, hh⟩, h9⟩ := h
  obtain ⟨⟨w', hw', hwb⟩, hbc⟩ := hbd
  have hww : w ≤ 30 * m := by
    rw [hw'] at hw
    by_cases hwx : w' = w
    · omega
    · exact absurd ((nI_inj (by omega) (by omega)).mp hw) hwx
  obtain ⟨a1, a2, a3, a4, a5⟩ := bd_mins (nc := nc) n x (fun c' hc' => (hbc c' hc').1)
  refine ⟨?_, ?_, ⟨w + n, ?_, by omega, ?_⟩, ?_⟩
  · simp [u2_r, h7]
  · simp [u2_r, h8, a5]
  · rw [a5, hw, x_a]
  · intro c hcc
    obtain ⟨h', t', b1, b2, b3, b4, b5⟩ := hh c hcc
    have := coolN_le (w - t') h'
    refine ⟨h', t', ?_, b2, ?_, by omega, ?_⟩
    · simp [u2_r, b1]
    · simp [u2_r, b3]
    · rw [mins_h hcc n x _ b5 (by omega), show w + n - t' = n + (w - t') by omega, coolN_a]
  · intro c hcc
    obtain ⟨b1, b2, b3, b4, b5, b6⟩ := h9 c hcc
    rw [a2 _ (by omega), a2 _ (by omega), a2 _ (by omega), a3, a4]
    refine ⟨?_, ?_, ?_, ?_, ?_, b6⟩
    · simp [u2_r, b1]
    · simp [u2_r, b2]
    · simp [u2_r, b3]
    · simp [u2_r, b4]
    · simp [u2_r, b5]
theorem p_clamp {μ : MT} {b nc c : Nat} {x : RS} (h : PIs μ b nc x) (hc : nc ≤ 12) (hcc : c < nc) : PIs (u2 μ b 6 (μ b 6 ||| (1 <<< (nI c &&& 31)))) b nc (x.1, x.2.1, upd x.2.2.1 c 1, x.2.2.2) := by
  obtain ⟨h7, h8, hh, h9⟩ := h
  refine ⟨?_, ?_, ?_, ?_⟩
  · simp [u2_r, h7]
  · simp [u2_r, h8]
  · obtain ⟨w, hw, hwl, hh⟩ := hh
    refine ⟨w, hw, hwl, fun c' hc' => ?_⟩
    obtain ⟨h', t', b1, b2, b3, b4, b5⟩ := hh c' hc'
    refine ⟨h', t', ?_, b2, ?_, b4, b5⟩
    · simp [u2_r, b1]
    · simp [u2_r, b3]
  · intro c' hc'
    obtain ⟨b1, b2, b3, b4, b5, b6⟩ := h9 c' hc'
    refine ⟨?_, ?_, ?_, ?_, ?_, ?_⟩
    · simp [u2_r, b1]
    · simp [u2_r, b2]
    · simp [u2_r, b3]
    · simp [u2_r, b4]
    · have := b_set (μ b 6) (c := c) (i := c') (by omega) (by omega)
      rw [show u2 μ b 6 (μ b 6 ||| (1 <<< (nI c &&& 31))) b 6 = μ b 6 ||| (1 <<< (nI c &&& 31)) by simp [u2_r], this]
      by_cases hcc' : c' = c
      · simp [hcc', upd]
      · simp [hcc', upd, b5]
    · by_cases hcc' : c' = c
      · simp [hcc', upd]
      · simp [hcc', upd, b6]
theorem pl_act {nc ns na nb : Nat} {r kd pc st sm se nd A AH BH : Nat → Int32} (h : IPl nc ns na nb r kd pc st sm se nd A AH BH) : ∀ a, a < na → ActOK nc A a := fun a ha => by
  obtain ⟨k, c, s, q, hk, hs, e1, e2, e3, e4, e5, e6, e7, e8, e9, e10⟩ := h.2.2.1 a ha
  exact ⟨k, c, q, hk, e2, e4, e7, e8, fun h7 => ⟨(e9 h7).1, (e9 h7).2.1, (e9 h7).2.2.2⟩⟩
abbrev PlIs (μ : MT) (p nc ns na nb : Nat) : Prop := IPl nc ns na nb (μ p) (μ (p + 1)) (μ (p + 2)) (μ (p + 3)) (μ (p + 4)) (μ (p + 5)) (μ (p + 6)) (μ 110) (μ 111) (μ 112)
theorem p_doSeam {μ : MT} {b p nc ns na nb s m : Nat} {x : RS} (hb : isPn b) (hp : isPl p) (hpl : PlIs μ p nc ns na nb) (hs : s < ns) (h : PIs μ b nc x) (hbd : Bd nc m x) (hm : m + na < 1000) : Ok (m_X2_doSeam Zc b p (nI s) μ) (fun ν => PIs ν b nc (seA nc na (μ 110) (nI s) x) ∧ FrP b μ ν) := by
  obtain ⟨hnc, hns, hna, hnb⟩ := pl_bd hpl
  have hbl := isPn_le hb
  have hpl2 := isPl_le hp
  have hact := pl_act hpl
  obtain ⟨⟨e0, e1, e2, e3⟩, -, hac, ⟨E, hE0, hEn, hE, hin⟩, -, -⟩ := hpl
  have hEs := (hE s hs).1
  have hEs2 := (hE s hs).2.1
  have nx : ∀ t, t < ns → t ≠ s → nI t ≠ nI s := fun t ht hts hq => hts ((nI_inj (by omega) (by omega)).mp hq)
  have hlo : ∀ a, a < E s → μ 110 (4 * a + 3) ≠ nI s := fun a ha => by
    obtain ⟨t, h1, h2, h3⟩ := seg_ex hE0 s a ha
    rw [hin a t (by omega) h2 h3]
    exact nx t (by omega) (by omega)
  have hhi : ∀ a, E (s + 1) ≤ a → a < na → μ 110 (4 * a + 3) ≠ nI s := fun a ha ha2 => by
    obtain ⟨t, h1, h2, h3⟩ := seg_ex hE0 ns a (by omega)
    rw [hin a t h1 h2 h3]
    refine nx t h1 (fun hq => ?_)
    rw [hq] at h3
    omega
  unfold m_X2_doSeam
  rw [p_first hp e1 hs hns hE0 (fun s hs => (hE s hs).2.2), ob_s]
  refine ok_for (fun i ν => FrP b μ ν ∧ PIs ν b nc ((List.range i).foldl (fun x a => if μ 110 (4 * a + 3) = nI s then acA nc (μ 110) a x else x) x)) (E s) (E (s + 1)) hEs (by omega) rfl ⟨FrP.refl b μ, ?_⟩ ?_ ?_
  · have := fold_sk (f := fun x a => if μ 110 (4 * a + 3) = nI s then acA nc (μ 110) a x else x) (x := x) (lo := 0) (E s) (fun a y _ ha => if_neg (hlo a (by omega)))
    rw [Nat.zero_add] at this
    rw [this]
    exact h
  · rintro i ν hi1 hi2 ⟨f, g⟩
    have fp : ∀ j, j ≤ 6 → ν (p + j) = μ (p + j) := fun j hj => f _ (by omega)
    have fp0 : ν p = μ p := f _ (by omega)
    have hbi := bd_se (s := nI s) hnc hact i m x (by omega) hbd (by omega)
    generalize hy : (List.range i).foldl (fun x a => if μ 110 (4 * a + 3) = nI s then acA nc (μ 110) a x else x) x = y at g hbi
    obtain ⟨k, c, s', q, hk, hs', c1, c2, c3, c4, c5, c6, c7, c8, c9, c10⟩ := hac i (by omega)
    have hsi := hin i s hs hi1 hi2
    have hcl : c < 2147483648 := by by_cases k = 7 <;> omega
    have main : Ok (if (nI k : Int32) = 7 then (some (u2 ν b 8 ((ν b 8) + nI c))).bind fun ν19 => some ν19 else if (nI k : Int32) = 8 then (some (u2 ν b 6 ((ν b 6) ||| (1 <<< (nI c &&& 31))))).bind fun ν21 => some ν21 else if (nI k : Int32) = 9 then (m_X2_freeOne Zc b (nI c) ν).bind fun ν23 => some ν23 else (some (nI k)).bind fun x25 => (some (μ (p + 3) i)).bind fun x27 => (m_X2_doStep Zc b x25 (nI c) x27 ν).bind fun ν28 => some ν28) (fun ν' => PIs ν' b nc (acA nc (μ 110) i y) ∧ FrP b ν ν') := by
      unfold acA
      rw [c2, c4, x_cl hcl, x_cl (by omega)]
      simp (disch := omega) only [x_eql]
      by_cases k7 : k = 7
      · subst k7
        have := c7 rfl
        rw [if_pos rfl, if_pos rfl]
        exact ok_s ⟨p_wait hb g hbi (by omega) hnc (by omega), (FrP.refl b ν).w (by omega)⟩
      · have hcn := c8 k7
        rw [if_neg k7, if_neg (show ¬ k + 1 = 8 by omega)]
        by_cases k8 : k = 8
        · subst k8
          rw [if_pos rfl, if_pos rfl]
          exact ok_s ⟨p_clamp g hnc hcn, (FrP.refl b ν).w (by omega)⟩
        · rw [if_neg k8, if_neg (show ¬ k + 1 = 9 by omega)]
          by_cases k9 : k = 9
          · subst k9
            rw [if_pos rfl, if_pos rfl]
            exact ok_b (p_free hb g hnc hcn) (fun ν' hν => ok_s hν)
          · rw [if_neg k9, if_neg (show ¬ k + 1 = 10 by omega)]
            obtain ⟨q1, q2, q3, q4⟩ := c9 (by omega)
            rw [q3, q4, ob_s, ob_s]
            exact ok_b (p_doStep hb g hbi (by omega) hnc hcn (by omega) q1 q2) (fun ν' hν => ok_s hν)
    simp only []
    rw [p_last hp (by rw [fp0]; exact e1) hs hns (fun s hs => by rw [fp 5 (by omega)]; exact (hE s hs).2.2), ob_s, if_neg (by rw [x_le (by omega) (by omega)]; omega), zq_4 hp, zq_5 hp, zq_6 hp, al_p hp (by omega) (by omega) (by omega), al_p hp (by omega) (by omega) (by omega), al_p hp (by omega) (by omega) (by omega), fp 1 (by omega), fp 2 (by omega), fp 3 (by omega), c1, c3, ob_s, ob_s]
    refine ok_b main ?_
    rintro ν' ⟨t1, t2⟩
    simp only [ob_s, n1]
    refine ok_s (Or.inl ⟨_, rfl, f.trans t2, ?_⟩)
    rw [List.range_succ, List.foldl_append, List.foldl_cons, List.foldl_nil, hy, if_pos hsi]
    exact t1
  · rintro ν ⟨f, g⟩
    have fp : ∀ j, j ≤ 6 → ν (p + j) = μ (p + j) := fun j hj => f _ (by omega)
    have fp0 : ν p = μ p := f _ (by omega)
    simp only []
    rw [p_last hp (by rw [fp0]; exact e1) hs hns (fun s hs => by rw [fp 5 (by omega)]; exact (hE s hs).2.2), ob_s, if_pos (by rw [x_le (by omega) (by omega)]; omega)]
    refine ok_s ⟨_, rfl, ok_s ⟨?_, f⟩⟩
    unfold seA
    have := fold_sk (f := fun x a => if μ 110 (4 * a + 3) = nI s then acA nc (μ 110) a x else x) (x := x) (lo := E (s + 1)) (na - E (s + 1)) (fun a y h1 h2 => if_neg (hhi a h1 (by omega)))
    rw [show E (s + 1) + (na - E (s + 1)) = na by omega] at this
    rw [this]
    exact g
theorem pl_fr {μ ν : MT} {b p nc ns na nb : Nat} (hb : isPn b) (hp : isPl p) (f : FrP b μ ν) (h : PlIs μ p nc ns na nb) : PlIs ν p nc ns na nb := by
  have hbl := isPn_le hb
  have hpl2 := isPl_le hp
  unfold PlIs
  rw [f p (by omega), f (p + 1) (by omega), f (p + 2) (by omega), f (p + 3) (by omega), f (p + 4) (by omega), f (p + 5) (by omega), f (p + 6) (by omega), f 110 (by omega), f 111 (by omega), f 112 (by omega)]
  exact h
theorem p_go {μ : MT} {b p k o nc ns na nb : Nat} {wo : Int32} (hb : isPn b) (hp : isPl p) (hpl : PlIs μ p nc ns na nb) (hk : zl Zc k = 12) (hk2 : k < b ∨ b + 6 < k) (ho : zl Zc o = 6) (ho2 : o < b ∨ b + 6 < o) (hO : ∀ j, j < ns → ∃ s, s < ns ∧ μ o j = nI s) (hB : ∀ c, c < 12 → -40 ≤ (μ k c).toInt ∧ (μ k c).toInt ≤ 40) : Ok (m_X2_go Zc b p k o wo μ) (fun ν => PIs ν b nc (goA nc ns na (μ 110) (μ k) (μ o) wo) ∧ FrP b μ ν) := by
  obtain ⟨hnc, hns, hna, hnb⟩ := pl_bd hpl
  have hbl := isPn_le hb
  have hpl2 := isPl_le hp
  have hact := pl_act hpl
  have e0 := hpl.1.1
  have e1 := hpl.1.2.1
  unfold m_X2_go
  rw [e0]
  refine ok_b (p_begin hb hk hk2 hnc) ?_
  rintro ν0 ⟨g0, f0⟩
  refine ok_for (fun i ν => FrP b μ ν ∧ PIs ν b nc (sesA nc na (μ 110) wo (μ o) i (bgA (μ k)))) 0 ns (by omega) (by omega) rfl ⟨f0, g0⟩ ?_ ?_
  · rintro i ν _ hi ⟨f, g⟩
    have fo : ν o = μ o := f o ho2
    have f1 : ν p 1 = nI ns := by rw [f p (by omega)]; exact e1
    obtain ⟨s, hs, hos⟩ := hO i hi
    have h6 : Int32.ofNat (zl Zc o) = nI 6 := by rw [ho]; rfl
    have hbi := bd_ses (wo := wo) (O := μ o) hnc hna hact i 0 (bgA (μ k)) (bd_bg hnc hB) (by omega)
    simp (disch := omega) only [f1, h6, x_le, show ¬ ns ≤ i by omega, show ¬ 6 ≤ i by omega, if_false]
    rw [ald_n ho (by omega) (by omega), ob_s, fo, hos]
    have hse : sesA nc na (μ 110) wo (μ o) (i + 1) (bgA (μ k)) = if nI s = wo then sesA nc na (μ 110) wo (μ o) i (bgA (μ k)) else seA nc na (μ 110) (nI s) (sesA nc na (μ 110) wo (μ o) i (bgA (μ k))) := by
      show (List.range (i + 1)).foldl _ _ = _
      rw [List.range_succ, List.foldl_append, List.foldl_cons, List.foldl_nil, hos]
      rfl
    rw [hse]
    by_cases hw : nI s = wo
    · simp only [hw, if_true, ob_s, n1]
      exact ok_s (Or.inl ⟨_, rfl, f, g⟩)
    · simp only [hw, if_false, ob_s]
      have hd := p_doSeam hb hp (pl_fr hb hp f hpl) hs g hbi (by omega)
      rw [f 110 (by omega)] at hd
      obtain ⟨ν2, t1, t2, t3⟩ := hd
      rw [t1]
      simp only [ob_s, n1]
      exact ok_s (Or.inl ⟨_, rfl, f.trans t3, t2⟩)
  · rintro ν ⟨f, g⟩
    have f1 : ν p 1 = nI ns := by rw [f p (by omega)]; exact e1
    simp (disch := omega) only [f1, x_le, Nat.le_refl, if_true]
    refine ok_s ⟨_, rfl, ?_⟩
    refine ok_b (p_freeAll hb g hnc) ?_
    rintro ν2 ⟨t1, t2⟩
    exact ok_s ⟨t1, f.trans t2⟩
