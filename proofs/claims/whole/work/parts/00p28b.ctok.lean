/-! ===== the program's tokens ===== -/
def TxI (μ : MT) (T : Nat → Nat) (N : Nat) : Prop := N ≤ 500 ∧ μ 13 1 = nI N ∧ ∀ j, j < N → T j < 256 ∧ μ 14 j = sbA (T j)
def CtI (μ : MT) (k : PT) : Prop := μ 13 2 = nI k.1 ∧ μ 13 3 = nI k.2.1 ∧ μ 13 4 = nI k.2.2
def Fr13 (μ ν : MT) : Prop := (∀ q, q ≠ 13 → ν q = μ q) ∧ ν 13 1 = μ 13 1
theorem Fr13.refl (μ : MT) : Fr13 μ μ := ⟨fun _ _ => rfl, rfl⟩
theorem Fr13.trans {μ ν ω : MT} (h : Fr13 μ ν) (h2 : Fr13 ν ω) : Fr13 μ ω := ⟨fun q a => (h2.1 q a).trans (h.1 q a), h2.2.trans h.2⟩
theorem Fr13.tx {μ ν : MT} {T : Nat → Nat} {N : Nat} (h : Fr13 μ ν) (g : TxI μ T N) : TxI ν T N := ⟨g.1, by rw [h.2]; exact g.2.1, fun j hj => by rw [h.1 14 (by omega)]; exact g.2.2 j hj⟩
theorem p_skip {μ : MT} {T : Nat → Nat} {N e : Nat} (h : TxI μ T N) (he : e ≤ N) {γ : Type} {G : MT → Option γ} {R : γ → Prop} (hG : Ok (G (u2 μ 13 2 (nI (skA T N (N - e) e)))) R) :
    Ok ((loop (σ := MT) (τ := MT) (fun ν2 => ((if (ν2 13 1) ≤ (ν2 13 2) then some (Sum.inr ν2) else (ald Zc ν2 14 (ν2 13 2)).bind fun x34 => (((if x34 = 32 then some (Sum.inr ()) else (ald Zc ν2 14 (ν2 13 2)).bind fun x40 => (if x40 = 10 then some (Sum.inr ()) else some (Sum.inl (Sum.inr ν2)))) : Option (((MT) ⊕ (MT)) ⊕ (Unit)))).bind (jn (fun (_ : Unit) => (some (u2 ν2 13 2 ((ν2 13 2) + 1))).bind fun ν38 => some (Sum.inl ν38)))) : Option ((MT) ⊕ (MT)))) LN (u2 μ 13 2 (nI e))).bind G) R := by
  obtain ⟨hN, h1, h2⟩ := h
  refine ok_l (fun m ν => ∃ i, i + m = N ∧ ν = u2 μ 13 2 (nI i) ∧ skA T N m i = skA T N (N - e) e) (N - e) (by omega) ⟨e, by omega, rfl, rfl⟩ ?_
  rintro m ν ⟨i, hi, rfl, hs⟩
  have a1 : u2 μ 13 2 (nI i) 13 1 = nI N := by rw [u2_r, if_neg (by omega)]; exact h1
  have a2 : u2 μ 13 2 (nI i) 13 2 = nI i := by rw [u2_r, if_pos ⟨rfl, rfl⟩]
  have a3 : u2 μ 13 2 (nI i) 14 = μ 14 := by rw [u2_w, if_neg (by omega)]
  simp only [a1, a2]
  cases m with
  | zero =>
    rw [if_pos (by rw [x_le (by omega) (by omega)]; omega)]
    rw [skA] at hs
    rw [← hs] at hG
    exact ok_s (Or.inl ⟨_, rfl, hG⟩)
  | succ n =>
    obtain ⟨b1, b2⟩ := h2 i (by omega)
    obtain ⟨s1, s2⟩ := sp_n (T i) b1
    rw [if_neg (by rw [x_le (by omega) (by omega)]; omega), al_14 (by omega), ob_s, a3, b2]
    rw [skA] at hs
    by_cases hsp : spB (T i) = true
    · rw [if_pos ⟨by omega, hsp⟩] at hs
      have hgo : ∀ (q : Option (((MT) ⊕ (MT)) ⊕ (Unit))), q = some (Sum.inr ()) → Ok (q.bind (jn (fun (_ : Unit) => (some (u2 (u2 μ 13 2 (nI i)) 13 2 (nI i + 1))).bind fun ν38 => some (Sum.inl ν38)))) (fun q => (∃ t, q = Sum.inr t ∧ Ok (G t) R) ∨ (∃ s' j, q = Sum.inl s' ∧ j < n + 1 ∧ ∃ i, i + j = N ∧ s' = u2 μ 13 2 (nI i) ∧ skA T N j i = skA T N (N - e) e)) := fun q hq => by
        subst hq
        simp only [ob_s, jn, n1, u2_2]
        exact ok_s (Or.inr ⟨_, n, rfl, by omega, i + 1, by omega, rfl, hs⟩)
      refine hgo _ ?_
      unfold spB at hsp
      by_cases h32 : T i = 32
      · rw [if_pos (s1.mpr h32)]
      · have h10 : T i = 10 := by simpa [h32] using hsp
        rw [if_neg (fun hq => h32 (s1.mp hq)), ob_s, if_pos (s2.mpr h10)]
    · rw [if_neg (fun hq => hsp hq.2)] at hs
      have h32 : ¬ T i = 32 := fun hq => hsp (by simp [spB, hq])
      have h10 : ¬ T i = 10 := fun hq => hsp (by simp [spB, hq])
      rw [if_neg (fun hq => h32 (s1.mp hq)), ob_s, if_neg (fun hq => h10 (s2.mp hq)), ob_s]
      rw [← hs] at hG
      exact ok_s (Or.inl ⟨_, rfl, hG⟩)
theorem p_run {ω : MT} {T : Nat → Nat} {N s e : Nat} (h : TxI ω T N) (he : e ≤ N) (h4 : ω 13 4 = nI s) (hs4 : s ≤ 4) {γ : Type} {G : MT → Option γ} {R : γ → Prop} (hG : Ok (G (u2 ω 13 3 (nI (if s = 1 ∨ s = 2 then ruA T N s (N - e) e else e)))) R) :
    Ok ((loop (σ := MT) (τ := MT) (fun ν16 => ((if (ν16 13 1) ≤ (ν16 13 3) then some (Sum.inr ν16) else (((if (ν16 13 4) = 1 then some (Sum.inr ()) else (if (ν16 13 4) = 2 then some (Sum.inr ()) else some (Sum.inl (Sum.inr ν16)))) : Option (((MT) ⊕ (MT)) ⊕ (Unit)))).bind (jn (fun (_ : Unit) => (ald Zc ν16 14 (ν16 13 3)).bind fun x27 => (m_X7_sortOf Zc x27 ν16).bind fun r28 => (if r28 = (ν16 13 4) then (some (u2 ν16 13 3 ((ν16 13 3) + 1))).bind fun ν29 => some (Sum.inl ν29) else some (Sum.inr ν16))))) : Option ((MT) ⊕ (MT)))) LN (u2 ω 13 3 (nI e))).bind G) R := by
  obtain ⟨hN, h1, h2⟩ := h
  have a1 : ∀ i, u2 ω 13 3 (nI i) 13 1 = nI N := fun i => by rw [u2_r, if_neg (by omega)]; exact h1
  have a2 : ∀ i, u2 ω 13 3 (nI i) 13 3 = nI i := fun i => by rw [u2_r, if_pos ⟨rfl, rfl⟩]
  have a3 : ∀ i, u2 ω 13 3 (nI i) 14 = ω 14 := fun i => by rw [u2_w, if_neg (by omega)]
  have a4 : ∀ i, u2 ω 13 3 (nI i) 13 4 = nI s := fun i => by rw [u2_r, if_neg (by omega)]; exact h4
  by_cases hs : s = 1 ∨ s = 2
  · rw [if_pos hs] at hG
    refine ok_l (fun m ν => ∃ i, i + m = N ∧ ν = u2 ω 13 3 (nI i) ∧ ruA T N s m i = ruA T N s (N - e) e) (N - e) (by omega) ⟨e, by omega, rfl, rfl⟩ ?_
    rintro m ν ⟨i, hi, rfl, hr⟩
    simp only [a1, a2, a4, so_eq]
    cases m with
    | zero =>
      rw [if_pos (by rw [x_le (by omega) (by omega)]; omega)]
      rw [ruA] at hr
      rw [← hr] at hG
      exact ok_s (Or.inl ⟨_, rfl, hG⟩)
    | succ n =>
      obtain ⟨b1, b2⟩ := h2 i (by omega)
      rw [if_neg (by rw [x_le (by omega) (by omega)]; omega)]
      have hif : (if nI s = (1 : Int32) then some (Sum.inr ()) else (if nI s = (2 : Int32) then some (Sum.inr ()) else some (Sum.inl (Sum.inr (u2 ω 13 3 (nI i))))) : Option (((MT) ⊕ (MT)) ⊕ (Unit))) = some (Sum.inr ()) := by
        rcases hs with rfl | rfl
        · exact if_pos rfl
        · rw [if_neg (by decide)]; exact if_pos rfl
      rw [hif, ob_s]
      simp only [jn]
      rw [al_14 (by omega), ob_s, a3, b2, so_n _ b1, ob_s]
      rw [ruA] at hr
      have := srt_le (T i)
      by_cases hq : srtA (T i) = s
      · rw [if_pos (by rw [hq]), ob_s, n1, u2_2]
        rw [if_pos ⟨by omega, hq⟩] at hr
        exact ok_s (Or.inr ⟨_, n, rfl, by omega, i + 1, by omega, rfl, hr⟩)
      · rw [if_neg (by rw [x_eq (by omega) (by omega)]; exact hq)]
        rw [if_neg (fun hh => hq hh.2)] at hr
        rw [← hr] at hG
        exact ok_s (Or.inl ⟨_, rfl, hG⟩)
  · rw [if_neg hs] at hG
    refine ok_l (fun m ν => ν = u2 ω 13 3 (nI e)) 0 (by omega) rfl ?_
    rintro m ν rfl
    simp only [a1, a2, a4]
    by_cases hc : N ≤ e
    · rw [if_pos (by rw [x_le (by omega) (by omega)]; exact hc)]
      exact ok_s (Or.inl ⟨_, rfl, hG⟩)
    · rw [if_neg (by rw [x_le (by omega) (by omega)]; exact hc), if_neg (by rw [x_eql (by omega) (by omega)]; omega), if_neg (by rw [x_eql (by omega) (by omega)]; omega), ob_s]
      exact ok_s (Or.inl ⟨_, rfl, hG⟩)
theorem p_toNext {μ : MT} {T : Nat → Nat} {N e : Nat} (h : TxI μ T N) (he : e ≤ N) (h3 : μ 13 3 = nI e) : Ok (m_X7_toNext Zc 13 μ) (fun ν => CtI ν (tkA T N e) ∧ Fr13 μ ν) := by
  have hsk := sk_le (T := T) (N := N) (N - e) e (by omega)
  unfold m_X7_toNext
  simp only [zA]
  rw [ob_s, h3]
  refine p_skip h he ?_
  unfold tkA
  generalize skA T N (N - e) e = f at hsk ⊢
  obtain ⟨hN, h1, h2⟩ := id h
  have a1 : u2 μ 13 2 (nI f) 13 1 = nI N := by rw [u2_r, if_neg (by omega)]; exact h1
  have a2 : u2 μ 13 2 (nI f) 13 2 = nI f := by rw [u2_r, if_pos ⟨rfl, rfl⟩]
  have a3 : u2 μ 13 2 (nI f) 14 = μ 14 := by rw [u2_w, if_neg (by omega)]
  have hfr : Fr13 μ (u2 μ 13 2 (nI f)) := ⟨fun q a => by rw [u2_w, if_neg a], by rw [u2_r, if_neg (by omega)]⟩
  generalize u2 μ 13 2 (nI f) = ν3 at a1 a2 a3 hfr ⊢
  simp only [a1, a2, so_eq]
  have hz : (if nI N ≤ nI f then some 0 else (ald Zc ν3 14 (nI f)).bind fun x31 => (soF x31).bind fun r32 => some r32) = some (nI (if N ≤ f then 0 else srtA (T f))) := by
    by_cases hc : N ≤ f
    · rw [if_pos (by rw [x_le (by omega) (by omega)]; exact hc), if_pos hc]; rfl
    · obtain ⟨b1, b2⟩ := h2 f (by omega)
      rw [if_neg (by rw [x_le (by omega) (by omega)]; exact hc), if_neg hc, al_14 (by omega), ob_s, a3, b2, so_n _ b1, ob_s]
  rw [hz, ob_s, ob_s]
  have hsl := srt_le (T f)
  have hs4 : (if N ≤ f then 0 else srtA (T f)) ≤ 4 := by split <;> omega
  generalize hs : (if N ≤ f then 0 else srtA (T f)) = s at hs4 ⊢
  have b1 : u2 ν3 13 4 (nI s) 13 1 = nI N := by rw [u2_r, if_neg (by omega)]; exact a1
  have b2 : u2 ν3 13 4 (nI s) 13 2 = nI f := by rw [u2_r, if_neg (by omega)]; exact a2
  have b4 : u2 ν3 13 4 (nI s) 13 4 = nI s := by rw [u2_r, if_pos ⟨rfl, rfl⟩]
  have hfr2 : Fr13 μ (u2 ν3 13 4 (nI s)) := hfr.trans ⟨fun q a => by rw [u2_w, if_neg a], by rw [u2_r, if_neg (by omega)]⟩
  generalize u2 ν3 13 4 (nI s) = ν11 at b1 b2 b4 hfr2 ⊢
  simp only [b1, b2]
  have hz2 : (if nI N ≤ nI f then some (nI f) else some (nI f + 1)) = some (nI (if N ≤ f then f else f + 1)) := by
    by_cases hc : N ≤ f
    · rw [if_pos (by rw [x_le (by omega) (by omega)]; exact hc), if_pos hc]
    · rw [if_neg (by rw [x_le (by omega) (by omega)]; exact hc), if_neg hc, n1]
  rw [hz2, ob_s, ob_s]
  refine p_run (hfr2.tx h) (by split <;> omega) b4 hs4 ?_
  generalize ht : (if s = 1 ∨ s = 2 then ruA T N s (N - (if N ≤ f then f else f + 1)) (if N ≤ f then f else f + 1) else (if N ≤ f then f else f + 1)) = t
  have d2 : u2 ν11 13 3 (nI t) 13 2 = nI f := by rw [u2_r, if_neg (by omega)]; exact b2
  have d3 : u2 ν11 13 3 (nI t) 13 3 = nI t := by rw [u2_r, if_pos ⟨rfl, rfl⟩]
  have d4 : u2 ν11 13 3 (nI t) 13 4 = nI s := by rw [u2_r, if_neg (by omega)]; exact b4
  have hfr3 : Fr13 μ (u2 ν11 13 3 (nI t)) := hfr2.trans ⟨fun q a => by rw [u2_w, if_neg a], by rw [u2_r, if_neg (by omega)]⟩
  generalize u2 ν11 13 3 (nI t) = ν17 at d2 d3 d4 hfr3 ⊢
  simp only [d2, d3, d4]
  have hft : f ≤ t ∧ t ≤ N := by
    subst ht
    by_cases hc : N ≤ f
    · rw [if_pos hc] at hs
      rw [if_pos hc, if_neg (by omega)]; omega
    · rw [if_neg hc]
      by_cases hs2 : s = 1 ∨ s = 2
      · rw [if_pos hs2]
        have := ru_le (T := T) (N := N) (s := s) (N - (f + 1)) (f + 1) (by omega)
        omega
      · rw [if_neg hs2]; omega
  have hend : tkB T N f = (f, t, if s = 2 ∧ ¬ t - f ≤ 2 then 4 else s) := by
    unfold tkB
    subst ht
    by_cases hc : N ≤ f
    · rw [if_pos hc] at hs
      subst hs
      rw [if_pos hc]
      simp [hc]
    · rw [if_neg hc] at hs
      rw [if_neg hc, hs]
      by_cases h1 : s = 1
      · subst h1
        rw [if_pos rfl]
        simp [hc]
      · rw [if_neg h1]
        by_cases h2 : s = 2
        · subst h2
          rw [if_pos rfl]
          simp only [hc, if_false, or_true, if_true]
          by_cases h3 : ruA T N 2 (N - (f + 1)) (f + 1) - f ≤ 2
          · simp [h3]
          · simp [h3]
        · rw [if_neg h2]
          simp [hc, h1, h2]
  rw [hend]
  by_cases h2 : s = 2
  · subst h2
    rw [if_pos (show nI 2 = 2 from rfl), x_s hft.1]
    by_cases h3 : t - f ≤ 2
    · rw [if_pos (by rw [x_lel (by omega) (by omega)]; exact h3)]
      refine ok_s ⟨⟨d2, d3, ?_⟩, hfr3⟩
      simp only [h3, not_true_eq_false, and_false, if_false]
      exact d4
    · rw [if_neg (by rw [x_lel (by omega) (by omega)]; exact h3), ob_s]
      refine ok_s ⟨⟨?_, ?_, ?_⟩, hfr3.trans ⟨fun q a => by rw [u2_w, if_neg a], by rw [u2_r, if_neg (by omega)]⟩⟩
      · rw [u2_r, if_neg (by omega)]; exact d2
      · rw [u2_r, if_neg (by omega)]; exact d3
      · rw [u2_r, if_pos ⟨rfl, rfl⟩]
        simp only [h3, not_false_eq_true, and_true, if_true]
        rfl
  · rw [if_neg (by rw [x_eql (by omega) (by omega)]; exact h2)]
    refine ok_s ⟨⟨d2, d3, ?_⟩, hfr3⟩
    simp only [h2, false_and, if_false]
    exact d4
/-! words -/
def Zq : ZT := (fun _ => 0, fun _ => 0, fun _ _ => 0)
def μq : MT := fun _ _ => 0
theorem len_n : ∀ i, i < 13 → m_J0_length_8abf5 Zq (2000 + i) μq = some (nI (wdW i).length) := by decide +kernel
theorem cha_n : ∀ i, i < 13 → ∀ k, k < (wdW i).length → m_J0_charAt_5068e Zq (2000 + i) (nI k) μq = some (nI ((wdW i).getD k 0)) := by decide +kernel
theorem wd_lo : ∀ i, i < 13 → (wdW i).length ≤ 6 ∧ 1 ≤ (wdW i).length ∧ ∀ k, k < (wdW i).length → 97 ≤ (wdW i).getD k 0 ∧ (wdW i).getD k 0 ≤ 122 := by decide +kernel
theorem spl_n : ∀ i, i < 13 → m_X7_spelling Zq (nI i) μq = some (2000 + i) := by decide +kernel
theorem p_spells {μ : MT} {T : Nat → Nat} {N i : Nat} {k : PT} (h : TxI μ T N) (hk : CtI μ k) (hok : TkOK T N k) (hi : i < 13) : m_X7_spells Zc 13 (2000 + i) μ = some (bI (wmB T k.1 k.2.1 (wdW i) = true)) := by
  obtain ⟨hN, h1, h2⟩ := h
  obtain ⟨k1, k2, k3⟩ := hk
  obtain ⟨o1, o2, o3, o4, o5, o6⟩ := hok
  obtain ⟨w1, w2, w3⟩ := wd_lo i hi
  have hlen : m_J0_length_8abf5 Zc (2000 + i) μ = some (nI (wdW i).length) := len_n i hi
  have hch : ∀ q, q < (wdW i).length → m_J0_charAt_5068e Zc (2000 + i) (nI q) μ = some (nI ((wdW i).getD q 0)) := cha_n i hi
  unfold m_X7_spells
  simp only [zA, hlen, ob_s, k1, k2]
  rw [x_s o1]
  unfold wmB
  by_cases hl : k.2.1 - k.1 = (wdW i).length
  · rw [if_pos (by rw [hl])]
    apply ok_eq
    refine ok_c (fun q => alB (fun q => decide (T (k.1 + q) = (wdW i).getD q 0)) q = true) 0 (wdW i).length (by omega) (by omega) rfl rfl ?_ ?_
    · intro q _ hq hJ
      rw [if_neg (by rw [x_le (by omega) (by omega)]; omega), hch q hq, ob_s, x_a, al_14 (by omega), ob_s]
      obtain ⟨b1, b2⟩ := h2 (k.1 + q) (by omega)
      have hw := w3 q hq
      rw [b2]
      have hse := sb_eq (v := T (k.1 + q)) (w := (wdW i).getD q 0) b1 (by omega)
      by_cases hc : T (k.1 + q) = (wdW i).getD q 0
      · rw [if_pos (hse.mpr hc), n1]
        exact ok_s (Or.inl ⟨rfl, by rw [alB_s, hJ, decide_eq_true hc]; rfl⟩)
      · rw [if_neg (fun hh => hc (hse.mp hh))]
        refine ok_s (Or.inr ⟨_, rfl, ok_s ?_⟩)
        have g1 : alB (fun q => decide (T (k.1 + q) = (wdW i).getD q 0)) (q + 1) = false := by rw [alB_s, decide_eq_false hc, Bool.and_false]
        have g2 := alB_f ((wdW i).length - (q + 1)) g1
        rw [show q + 1 + ((wdW i).length - (q + 1)) = (wdW i).length by omega] at g2
        rw [bI_f (by rw [g2]; simp)]
    · intro hJ
      rw [if_pos (by rw [x_le (by omega) (by omega)]; omega)]
      refine ok_s ⟨_, rfl, ok_s ?_⟩
      rw [bI_t (by rw [hJ]; simp [hl])]
  · rw [if_neg (by rw [x_eq (by omega) (by omega)]; omega), bI_f (by simp [hl])]
theorem p_atWord {μ : MT} {T : Nat → Nat} {N i : Nat} {k : PT} (h : TxI μ T N) (hk : CtI μ k) (hok : TkOK T N k) (hi : i < 13) : m_X7_atWord Zc 13 (nI i) μ = some (bI (wsB T k i = true)) := by
  have h3 := hok.2.2.1
  unfold m_X7_atWord wsB
  rw [hk.2.2]
  by_cases hs : k.2.2 = 1
  · have hspl : m_X7_spelling Zc (nI i) μ = some (2000 + i) := spl_n i hi
    rw [if_pos (by rw [hs]; rfl), hspl, ob_s]
    unfold stc
    rw [if_pos (by omega), ob_s, p_spells h hk hok hi, ob_s]
    by_cases hw : wmB T k.1 k.2.1 (wdW i) = true
    · rw [bI_t hw, if_neg (by decide), bI_t (by simp [hs, hw])]
    · rw [bI_f hw, if_pos rfl, bI_f (by simp [hw])]
  · rw [if_neg (by rw [x_eql (by omega) (by omega)]; exact hs), bI_f (by simp [hs])]
def akI (q : Option Nat) : Int32 := match q with
  | none => -1
  | some i => nI i
theorem p_actHere {μ : MT} {T : Nat → Nat} {N : Nat} {k : PT} (h : TxI μ T N) (hk : CtI μ k) (hok : TkOK T N k) : m_X7_actHere Zc 13 μ = some (akI (akA T k)) := by
  unfold m_X7_actHere akA
  apply ok_eq
  refine ok_c (fun i => akG T k i (10 - i) = akG T k 0 10) 0 10 (by omega) (by omega) rfl rfl ?_ ?_
  · intro i _ hi hJ
    rw [if_neg (by rw [x_llt (by omega) (by omega)]; omega), p_atWord h hk hok (by omega), ob_s]
    rw [show 10 - i = (10 - (i + 1)) + 1 by omega, akG] at hJ
    by_cases hw : wsB T k i = true
    · rw [bI_t hw, if_neg (by decide)]
      rw [if_pos hw] at hJ
      refine ok_s (Or.inr ⟨_, rfl, ok_s ?_⟩)
      rw [← hJ]
      rfl
    · rw [bI_f hw, if_pos rfl, ob_s, n1]
      rw [if_neg hw] at hJ
      exact ok_s (Or.inl ⟨rfl, hJ⟩)
  · intro hJ
    rw [if_pos (by decide)]
    refine ok_s ⟨_, rfl, ok_s ?_⟩
    rw [← hJ]
    rfl
theorem p_numH {μ : MT} {T : Nat → Nat} {N : Nat} {k : PT} (h : TxI μ T N) (hk : CtI μ k) (hok : TkOK T N k) (hs : k.2.2 = 2) : m_X7_numberHere Zc 13 μ = some (nI (nvA T k)) := by
  obtain ⟨hN, h1, h2⟩ := h
  obtain ⟨k1, k2, k3⟩ := hk
  obtain ⟨o1, o2, o3, o4, o5, o6⟩ := hok
  obtain ⟨o7, o8⟩ := o6 hs
  unfold m_X7_numberHere nvA
  simp only [zA, k1, k2, k3, ob_s]
  apply ok_eq
  refine ok_l (fun m q => ∃ i, i + m = k.2.1 - k.1 ∧ q = (nI (nvF T k.1 i), nI (k.1 + i))) (k.2.1 - k.1) (by omega) ⟨0, by omega, rfl⟩ ?_
  rintro m q ⟨i, hi, rfl⟩
  simp only []
  by_cases hm : m = 0
  · rw [if_pos (by rw [x_le (by omega) (by omega)]; omega)]
    refine ok_s (Or.inl ⟨_, rfl, ok_s ?_⟩)
    rw [show i = k.2.1 - k.1 by omega]
  · obtain ⟨b1, b2⟩ := h2 (k.1 + i) (by omega)
    have hd := o8 (k.1 + i) (by omega) (by omega)
    rw [if_neg (by rw [x_le (by omega) (by omega)]; omega), if_pos (by rw [hs]; rfl), al_14 (by omega), ob_s, b2, sb_lo (by omega), x_ml, x_a, x_sl (by omega), n1]
    refine ok_s (Or.inr ⟨_, m - 1, rfl, by omega, i + 1, by omega, ?_⟩)
    rw [nvF, show nvF T k.1 i * 10 + T (k.1 + i) - 48 = nvF T k.1 i * 10 + (T (k.1 + i) - 48) by omega]
    rfl
