/-! ===== the reference's tokens ===== -/
def tcA (s : Nat) : Nat := if s = 0 then 1 else if s = 1 then 2 else if s = 2 then 3 else if s = 3 then 4 else 0
def TrI (μ : MT) (T : Nat → Nat) (N : Nat) : Prop := N ≤ 500 ∧ μ 106 22 = nI N ∧ ∀ j, j < N → T j < 256 ∧ μ 116 j = nI (T j)
def RkI (μ : MT) (k : PT) : Prop := μ 106 23 = nI k.2.1 ∧ μ 106 24 = nI (tcA k.2.2) ∧ μ 106 25 = nI k.1 ∧ μ 106 26 = nI k.2.1
def FrU (μ ν : MT) : Prop := (∀ q, q ≠ 106 → ν q = μ q) ∧ (∀ j, j < 23 ∨ 28 < j → ν 106 j = μ 106 j)
theorem FrU.refl (μ : MT) : FrU μ μ := ⟨fun _ _ => rfl, fun _ _ => rfl⟩
theorem FrU.trans {μ ν ω : MT} (h : FrU μ ν) (h2 : FrU ν ω) : FrU μ ω := ⟨fun q a => (h2.1 q a).trans (h.1 q a), fun j a => (h2.2 j a).trans (h.2 j a)⟩
theorem FrU.w {μ ν : MT} (h : FrU μ ν) {j : Nat} {v : Int32} (hj : 23 ≤ j ∧ j ≤ 28) : FrU μ (u2 ν 106 j v) := ⟨fun q a => by rw [u2_w, if_neg a]; exact h.1 q a, fun i a => by rw [u2_r, if_neg (by omega)]; exact h.2 i a⟩
theorem FrU.tr {μ ν : MT} {T : Nat → Nat} {N : Nat} (h : FrU μ ν) (g : TrI μ T N) : TrI ν T N := ⟨g.1, by rw [h.2 22 (by omega)]; exact g.2.1, fun j hj => by rw [h.1 116 (by omega)]; exact g.2.2 j hj⟩
theorem r_byte {μ : MT} {T : Nat → Nat} {N i : Nat} (h : TrI μ T N) (hi : i ≤ N) : m_X9_byteAt Zc 106 (nI i) μ = some (if i < N then nI (T i) else -1000000) := by
  obtain ⟨hN, h1, h2⟩ := h
  unfold m_X9_byteAt
  rw [h1]
  by_cases hc : i < N
  · rw [if_neg (by rw [x_le (by omega) (by omega)]; omega), if_pos hc]
    simp only [zA]
    rw [al_116 (by omega), ob_s, (h2 i hc).2]
  · rw [if_pos (by rw [x_le (by omega) (by omega)]; omega), if_neg hc]
theorem r_let {v : Nat} {μ : MT} (h : v < 256) : m_X9_isLetter Zc (nI v) μ = some (bI (srtA v = 1)) := by
  have := (let_n v h).1
  unfold m_X9_isLetter
  by_cases h1 : nI v < 97
  · rw [if_pos h1, bI_f (this.mp (Or.inl h1))]
  · rw [if_neg h1]
    by_cases h2 : 122 < nI v
    · rw [if_pos h2, bI_f (this.mp (Or.inr h2))]
    · rw [if_neg h2, bI_t]
      exact Classical.byContradiction fun hq => by
        rcases this.mpr hq with h3 | h3
        · exact h1 h3
        · exact h2 h3
theorem r_fig {v : Nat} {μ : MT} (h : v < 256) : m_X9_isFigure Zc (nI v) μ = some (bI (srtA v = 2)) := by
  have := (let_n v h).2
  unfold m_X9_isFigure
  by_cases h1 : nI v < 48
  · rw [if_pos h1, bI_f (this.mp (Or.inl h1))]
  · rw [if_neg h1]
    by_cases h2 : 57 < nI v
    · rw [if_pos h2, bI_f (this.mp (Or.inr h2))]
    · rw [if_neg h2, bI_t]
      exact Classical.byContradiction fun hq => by
        rcases this.mpr hq with h3 | h3
        · exact h1 h3
        · exact h2 h3
theorem r_skip {μ : MT} {T : Nat → Nat} {N e : Nat} (h : TrI μ T N) (he : e ≤ N) (h23 : μ 106 23 = nI e) {γ : Type} {G : MT → Option γ} {R : γ → Prop} (hG : Ok (G (u2 μ 106 23 (nI (skA T N (N - e) e)))) R) :
    Ok ((loop (σ := MT) (τ := MT) (fun ν1 => ((m_X9_byteAt Zc 106 (ν1 106 23) ν1).bind fun r44 => (((if r44 = 32 then some (Sum.inr ()) else (m_X9_byteAt Zc 106 (ν1 106 23) ν1).bind fun r49 => (if r49 = 10 then some (Sum.inr ()) else some (Sum.inl (Sum.inr ν1)))) : Option (((MT) ⊕ (MT)) ⊕ (Unit)))).bind (jn (fun (_ : Unit) => (some (u2 ν1 106 23 ((ν1 106 23) + 1))).bind fun ν48 => some (Sum.inl ν48))) : Option ((MT) ⊕ (MT)))) LN μ).bind G) R := by
  obtain ⟨hN, h1, h2⟩ := id h
  refine ok_l (fun m ν => ∃ i, i + m = N ∧ ν = u2 μ 106 23 (nI i) ∧ skA T N m i = skA T N (N - e) e) (N - e) (by omega) ⟨e, by omega, by rw [u2_id h23], rfl⟩ ?_
  rintro m ν ⟨i, hi, rfl, hs⟩
  have a2 : u2 μ 106 23 (nI i) 106 23 = nI i := by rw [u2_r, if_pos ⟨rfl, rfl⟩]
  have hfr : FrU μ (u2 μ 106 23 (nI i)) := (FrU.refl μ).w (by omega)
  simp only [a2]
  rw [r_byte (hfr.tr h) (by omega)]
  simp only [ob_s]
  cases m with
  | zero =>
    rw [if_neg (show ¬ i < N by omega), if_neg (by decide), if_neg (by decide), ob_s]
    rw [skA] at hs
    rw [← hs] at hG
    exact ok_s (Or.inl ⟨_, rfl, hG⟩)
  | succ n =>
    obtain ⟨b1, b2⟩ := h2 i (by omega)
    rw [if_pos (show i < N by omega)]
    simp only [u2_2, n1]
    rw [skA] at hs
    by_cases h32 : T i = 32
    · rw [if_pos (by rw [h32]; rfl), ob_s]
      rw [if_pos ⟨by omega, by simp [spB, h32]⟩] at hs
      exact ok_s (Or.inr ⟨_, n, rfl, by omega, i + 1, by omega, rfl, hs⟩)
    · rw [if_neg (by rw [x_eql (by omega) (by omega)]; exact h32)]
      by_cases h10 : T i = 10
      · rw [if_pos (by rw [h10]; rfl), ob_s]
        rw [if_pos ⟨by omega, by simp [spB, h10]⟩] at hs
        exact ok_s (Or.inr ⟨_, n, rfl, by omega, i + 1, by omega, rfl, hs⟩)
      · rw [if_neg (by rw [x_eql (by omega) (by omega)]; exact h10), ob_s]
        rw [if_neg (fun hq => by have := hq.2; simp [spB, h32, h10] at this)] at hs
        rw [← hs] at hG
        exact ok_s (Or.inl ⟨_, rfl, hG⟩)
theorem r_run {μ : MT} {T : Nat → Nat} {N s e : Nat} {tst : Int32 → MT → Option Int32} (h : TrI μ T N) (he : e ≤ N) (h23 : μ 106 23 = nI e) (ht : ∀ v ν, v < 256 → tst (nI v) ν = some (bI (srtA v = s))) (ht0 : ∀ ν, tst (-1000000) ν = some 0) {γ : Type} {G : MT → Option γ} {R : γ → Prop} (hG : Ok (G (u2 μ 106 23 (nI (ruA T N s (N - e) e)))) R) :
    Ok ((loop (σ := MT) (τ := MT) (fun ν20 => ((m_X9_byteAt Zc 106 (ν20 106 23) ν20).bind fun r30 => (tst r30 ν20).bind fun r31 => (if r31 = 0 then some (Sum.inr ν20) else (some (u2 ν20 106 23 ((ν20 106 23) + 1))).bind fun ν32 => some (Sum.inl ν32)) : Option ((MT) ⊕ (MT)))) LN μ).bind G) R := by
  obtain ⟨hN, h1, h2⟩ := id h
  refine ok_l (fun m ν => ∃ i, i + m = N ∧ ν = u2 μ 106 23 (nI i) ∧ ruA T N s m i = ruA T N s (N - e) e) (N - e) (by omega) ⟨e, by omega, by rw [u2_id h23], rfl⟩ ?_
  rintro m ν ⟨i, hi, rfl, hs⟩
  have a2 : u2 μ 106 23 (nI i) 106 23 = nI i := by rw [u2_r, if_pos ⟨rfl, rfl⟩]
  have hfr : FrU μ (u2 μ 106 23 (nI i)) := (FrU.refl μ).w (by omega)
  simp only [a2]
  rw [r_byte (hfr.tr h) (by omega), ob_s]
  cases m with
  | zero =>
    rw [if_neg (show ¬ i < N by omega), ht0, ob_s, if_pos rfl]
    rw [ruA] at hs
    rw [← hs] at hG
    exact ok_s (Or.inl ⟨_, rfl, hG⟩)
  | succ n =>
    obtain ⟨b1, b2⟩ := h2 i (by omega)
    rw [if_pos (show i < N by omega), ht _ _ b1, ob_s, n1, u2_2]
    rw [ruA] at hs
    by_cases hq : srtA (T i) = s
    · rw [bI_t hq, if_neg (by decide), ob_s]
      rw [if_pos ⟨by omega, hq⟩] at hs
      exact ok_s (Or.inr ⟨_, n, rfl, by omega, i + 1, by omega, rfl, hs⟩)
    · rw [bI_f hq, if_pos rfl]
      rw [if_neg (fun hh => hq hh.2)] at hs
      rw [← hs] at hG
      exact ok_s (Or.inl ⟨_, rfl, hG⟩)
theorem r_tnext {μ : MT} {T : Nat → Nat} {N e : Nat} (h : TrI μ T N) (he : e ≤ N) (h23 : μ 106 23 = nI e) : Ok (m_X9_next Zc 106 μ) (fun ν => RkI ν (tkA T N e) ∧ FrU μ ν ∧ ν 106 27 = μ 106 27 ∧ ν 106 28 = μ 106 28) := by
  have hsk := sk_le (T := T) (N := N) (N - e) e (by omega)
  unfold m_X9_next
  refine r_skip h he h23 ?_
  unfold tkA
  generalize skA T N (N - e) e = f at hsk ⊢
  obtain ⟨hN, h1, h2⟩ := id h
  have a1 : u2 μ 106 23 (nI f) 106 23 = nI f := by rw [u2_r, if_pos ⟨rfl, rfl⟩]
  rw [ob_s, a1]
  have b1 : u2 (u2 μ 106 23 (nI f)) 106 25 (nI f) 106 23 = nI f := by rw [u2_r, if_neg (by omega)]; exact a1
  have b2 : u2 (u2 μ 106 23 (nI f)) 106 25 (nI f) 106 25 = nI f := by rw [u2_r, if_pos ⟨rfl, rfl⟩]
  have b3 : u2 (u2 μ 106 23 (nI f)) 106 25 (nI f) 106 27 = μ 106 27 ∧ u2 (u2 μ 106 23 (nI f)) 106 25 (nI f) 106 28 = μ 106 28 := by
    constructor
    · rw [u2_r, if_neg (by omega), u2_r, if_neg (by omega)]
    · rw [u2_r, if_neg (by omega), u2_r, if_neg (by omega)]
  have hfr : FrU μ (u2 (u2 μ 106 23 (nI f)) 106 25 (nI f)) := ((FrU.refl μ).w (by omega)).w (by omega)
  generalize u2 (u2 μ 106 23 (nI f)) 106 25 (nI f) = ν7 at b1 b2 b3 hfr ⊢
  have htr := hfr.tr h
  have hend : ∀ (ν9 : MT) (t s : Nat), tkB T N f = (f, t, s) → ν9 106 23 = nI t → ν9 106 24 = nI (tcA s) → ν9 106 25 = nI f → ν9 106 27 = μ 106 27 ∧ ν9 106 28 = μ 106 28 → FrU μ ν9 → Ok ((some (u2 ν9 106 26 (ν9 106 23))).bind fun ν12 => some ν12) (fun ν => RkI ν (tkB T N f) ∧ FrU μ ν ∧ ν 106 27 = μ 106 27 ∧ ν 106 28 = μ 106 28) := fun ν9 t s e1 e2 e3 e4 e5 e6 => by
    rw [ob_s, e1]
    refine ok_s ⟨⟨?_, ?_, ?_, ?_⟩, e6.w (by omega), ?_, ?_⟩
    · rw [u2_r, if_neg (by omega)]; exact e2
    · rw [u2_r, if_neg (by omega)]; exact e3
    · rw [u2_r, if_neg (by omega)]; exact e4
    · rw [u2_r, if_pos ⟨rfl, rfl⟩]; exact e2
    · rw [u2_r, if_neg (by omega)]; exact e5.1
    · rw [u2_r, if_neg (by omega)]; exact e5.2
  have hset : ∀ (ω : MT) (t : Nat) (z : Int32), ω 106 23 = nI t → ω 106 25 = nI f → (ω 106 27 = μ 106 27 ∧ ω 106 28 = μ 106 28) → FrU μ ω → u2 ω 106 24 z 106 23 = nI t ∧ u2 ω 106 24 z 106 24 = z ∧ u2 ω 106 24 z 106 25 = nI f ∧ (u2 ω 106 24 z 106 27 = μ 106 27 ∧ u2 ω 106 24 z 106 28 = μ 106 28) ∧ FrU μ (u2 ω 106 24 z) := fun ω t z e1 e2 e3 e4 => by
    refine ⟨?_, ?_, ?_, ⟨?_, ?_⟩, e4.w (by omega)⟩
    · rw [u2_r, if_neg (by omega)]; exact e1
    · rw [u2_r, if_pos ⟨rfl, rfl⟩]
    · rw [u2_r, if_neg (by omega)]; exact e2
    · rw [u2_r, if_neg (by omega)]; exact e3.1
    · rw [u2_r, if_neg (by omega)]; exact e3.2
  rw [b1, r_byte htr (by omega), ob_s]
  by_cases hc : f < N
  case neg =>
    rw [if_neg hc, if_pos rfl, ob_s, ob_s]
    obtain ⟨s1, s2, s3, s4, s5⟩ := hset ν7 f 1 b1 b2 b3 hfr
    exact hend _ f 0 (by unfold tkB; rw [if_pos (by omega)]) s1 s2 s3 s4 s5
  obtain ⟨v1, v2⟩ := h2 f hc
  have hmove : ∀ t, u2 ν7 106 23 (nI t) 106 23 = nI t ∧ u2 ν7 106 23 (nI t) 106 25 = nI f ∧ (u2 ν7 106 23 (nI t) 106 27 = μ 106 27 ∧ u2 ν7 106 23 (nI t) 106 28 = μ 106 28) ∧ FrU μ (u2 ν7 106 23 (nI t)) := fun t => by
    refine ⟨?_, ?_, ⟨?_, ?_⟩, hfr.w (by omega)⟩
    · rw [u2_r, if_pos ⟨rfl, rfl⟩]
    · rw [u2_r, if_neg (by omega)]; exact b2
    · rw [u2_r, if_neg (by omega)]; exact b3.1
    · rw [u2_r, if_neg (by omega)]; exact b3.2
  have hru : ∀ s, srtA (T f) = s → ruA T N s (N - f) f = ruA T N s (N - (f + 1)) (f + 1) := fun s hs => by
    rw [show N - f = (N - (f + 1)) + 1 by omega, ruA, if_pos ⟨hc, hs⟩]
  have hvN : ¬ nI (T f) = -1000000 := mNn (by omega)
  rw [if_pos hc, if_neg hvN, r_let v1, ob_s]
  by_cases hl : srtA (T f) = 1
  · rw [bI_t hl, if_neg (by decide)]
    refine ok_b (R1 := fun ν9 => ∃ t s, tkB T N f = (f, t, s) ∧ ν9 106 23 = nI t ∧ ν9 106 24 = nI (tcA s) ∧ ν9 106 25 = nI f ∧ (ν9 106 27 = μ 106 27 ∧ ν9 106 28 = μ 106 28) ∧ FrU μ ν9) ?_ (fun ν9 ⟨t, s, e1, e2, e3, e4, e5, e6⟩ => hend ν9 t s e1 e2 e3 e4 e5 e6)
    refine r_run (tst := m_X9_isLetter Zc) htr (by omega) b1 (fun v ν hv => r_let hv) (fun ν => rfl) ?_
    rw [ob_s, hru 1 hl]
    obtain ⟨m1, m2, m3, m4⟩ := hmove (ruA T N 1 (N - (f + 1)) (f + 1))
    obtain ⟨s1, s2, s3, s4, s5⟩ := hset _ _ 2 m1 m2 m3 m4
    exact ok_s ⟨_, 1, by unfold tkB; rw [if_neg (by omega), if_pos hl], s1, s2, s3, s4, s5⟩
  · rw [bI_f hl, if_pos rfl, r_fig v1, ob_s]
    by_cases hg : srtA (T f) = 2
    · rw [bI_t hg, if_neg (by decide)]
      refine ok_b (R1 := fun ν9 => ∃ t s, tkB T N f = (f, t, s) ∧ ν9 106 23 = nI t ∧ ν9 106 24 = nI (tcA s) ∧ ν9 106 25 = nI f ∧ (ν9 106 27 = μ 106 27 ∧ ν9 106 28 = μ 106 28) ∧ FrU μ ν9) ?_ (fun ν9 ⟨t, s, e1, e2, e3, e4, e5, e6⟩ => hend ν9 t s e1 e2 e3 e4 e5 e6)
      refine r_run (tst := m_X9_isFigure Zc) htr (by omega) b1 (fun v ν hv => r_fig hv) (fun ν => rfl) ?_
      rw [hru 2 hg]
      have hrl := ru_le (T := T) (N := N) (s := 2) (N - (f + 1)) (f + 1) (by omega)
      have htk : tkB T N f = (f, ruA T N 2 (N - (f + 1)) (f + 1), if ruA T N 2 (N - (f + 1)) (f + 1) - f ≤ 2 then 2 else 4) := by unfold tkB; rw [if_neg (by omega), if_neg hl, if_pos hg]
      generalize ruA T N 2 (N - (f + 1)) (f + 1) = t at hrl htk ⊢
      obtain ⟨m1, m2, m3, m4⟩ := hmove t
      rw [m1, m2, x_s (by omega)]
      by_cases h3 : t - f ≤ 2
      · rw [if_pos (by rw [x_lel (by omega) (by omega)]; exact h3), ob_s, ob_s]
        obtain ⟨s1, s2, s3, s4, s5⟩ := hset _ _ 3 m1 m2 m3 m4
        exact ok_s ⟨t, 2, by rw [htk, if_pos h3], s1, s2, s3, s4, s5⟩
      · rw [if_neg (by rw [x_lel (by omega) (by omega)]; exact h3), ob_s, ob_s]
        obtain ⟨s1, s2, s3, s4, s5⟩ := hset _ _ 0 m1 m2 m3 m4
        exact ok_s ⟨t, 4, by rw [htk, if_neg h3], s1, s2, s3, s4, s5⟩
    · rw [bI_f hg, if_pos rfl, ob_s, n1]
      obtain ⟨m1, m2, m3, m4⟩ := hmove (f + 1)
      have htk : tkB T N f = (f, f + 1, srtA (T f)) := by unfold tkB; rw [if_neg (by omega), if_neg hl, if_neg hg]
      by_cases h59 : T f = 59
      · rw [if_pos (by rw [h59]; rfl), ob_s]
        obtain ⟨s1, s2, s3, s4, s5⟩ := hset _ _ 4 m1 m2 m3 m4
        refine hend _ (f + 1) 3 ?_ s1 s2 s3 s4 s5
        rw [htk, h59]; rfl
      · rw [if_neg (by rw [x_eql (by omega) (by omega)]; exact h59), ob_s]
        obtain ⟨s1, s2, s3, s4, s5⟩ := hset _ _ 0 m1 m2 m3 m4
        refine hend _ (f + 1) 4 ?_ s1 s2 s3 s4 s5
        have : srtA (T f) = 4 := by
          unfold srtA at hl hg ⊢
          repeat' split
          all_goals first | rfl | (rename_i h; simp_all)
        rw [htk, this]
