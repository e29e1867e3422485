/-! ===== spots ===== -/
theorem okI_of2 {c : Option (Int32 × MT)} {r : MT → Option (Int32 × MT)} {Q : Int32 → Prop} {P : MT → Prop} (hu : ∀ a b, Q a → Q b → a = b) (h1 : Ok c (fun q => Q q.1 ∧ P q.2)) (h2 : ∀ μ, P μ → Ok (r μ) (fun q => Q q.1 ∧ Inv q.2)) : OkI Inv c r := by
  obtain ⟨⟨a, μ⟩, e, e1, e2⟩ := h1
  simp only at e1 e2
  obtain ⟨⟨b, μ'⟩, g, g1, g2⟩ := h2 μ e2
  simp only at g1 g2
  have := hu a b e1 g1
  subst this
  exact ⟨_, _, _, e, g, g2⟩
def alB (f : Nat → Bool) (n : Nat) : Bool := (List.range n).all f
theorem alB_s {f : Nat → Bool} {c : Nat} : alB f (c + 1) = (alB f c && f c) := by
  unfold alB
  rw [List.range_succ, List.all_append]
  simp
theorem alB_f {f : Nat → Bool} {c : Nat} : ∀ n, alB f c = false → alB f (c + n) = false
  | 0, h => h
  | n + 1, h => by
    rw [show c + (n + 1) = (c + n) + 1 by omega, alB_s, alB_f n h]
    rfl
def spV (b p : Int32) : Int32 := if p < b then b - p else if b < -p then b + p else 0
def sp1 (p : Int32) (c : Nat) (R : Nat → Int32) : Nat → Int32 := upd R c (spV (R c) p)
def sp2 (c : Nat) (R : Nat → Int32) : Nat → Int32 := if c = 0 then R else upd R (c - 1) (R (c - 1) + 1)
def sp3 (nc c : Nat) (R : Nat → Int32) : Nat → Int32 := if nc ≤ c + 1 then R else upd R (c + 1) (R (c + 1) + 1)
def spF (p : Int32) (nc c : Nat) (R : Nat → Int32) : Nat → Int32 := sp3 nc c (sp2 c (sp1 p c R))
def ddF (p : Int32) (nc set : Nat) (R : Nat → Int32) : Nat → Nat → Int32
  | 0 => R
  | n + 1 => if bt (nI set) n = true then spF p nc n (ddF p nc set R n) else ddF p nc set R n
def pcN (set : Nat) : Nat → Nat
  | 0 => 0
  | n + 1 => pcN set n + (if bt (nI set) n = true then 1 else 0)
def RwIs (μ : MT) (k o : Nat) (R : Nat → Int32) : Prop := ∀ q, q < 12 → μ k (o + q) = R q
theorem RwIs.w {μ : MT} {k o c : Nat} {R : Nat → Int32} {v : Int32} (h : RwIs μ k o R) : RwIs (u2 μ k (o + c) v) k o (upd R c v) := fun q hq => by
  rw [u2_r]
  unfold upd
  by_cases hqc : q = c
  · rw [if_pos ⟨rfl, by rw [hqc]⟩, if_pos hqc]
  · rw [if_neg (by omega), if_neg hqc]
    exact h q hq
theorem spV_c {b : Int32} {pv : Nat} (h1 : 1 ≤ pv) (h2 : pv ≤ 20) : (b ≤ 0 → imin 0 (b + nI pv) = spV b (nI pv)) ∧ (¬ b ≤ 0 → imax 0 (b - nI pv) = spV b (nI pv)) := by
  have l1 := ti_lo b
  have l2 := ti_hi b
  have e : (nI pv).toInt = pv := ti_n (by omega)
  have en : (-nI pv).toInt = -pv := by rw [ti_neg (by omega), e]
  have z0 : (0 : Int32).toInt = 0 := rfl
  refine ⟨fun h => ?_, fun h => ?_⟩
  · rw [fa_le, z0] at h
    have ea : (b + nI pv).toInt = b.toInt + pv := by rw [ti_add (by omega) (by omega), e]
    unfold imin spV
    rw [if_neg (show ¬ nI pv < b by rw [fa_lt]; omega)]
    by_cases hb : b < -nI pv
    · rw [if_pos hb, if_pos (show b + nI pv < 0 by rw [fa_lt, ea, z0]; rw [fa_lt, en] at hb; omega)]
    · rw [if_neg hb, if_neg (show ¬ b + nI pv < 0 by rw [fa_lt, ea, z0]; rw [fa_lt, en] at hb; omega)]
  · rw [fa_le, z0] at h
    have ea : (b - nI pv).toInt = b.toInt - pv := by rw [ti_sub (by omega) (by omega), e]
    unfold imax spV
    by_cases hb : nI pv < b
    · rw [if_pos hb, if_pos (show 0 < b - nI pv by rw [fa_lt, ea, z0]; rw [fa_lt, e] at hb; omega)]
    · rw [if_neg hb, if_neg (show ¬ b < -nI pv by rw [fa_lt, en]; omega), if_neg (show ¬ 0 < b - nI pv by rw [fa_lt, ea, z0]; rw [fa_lt, e] at hb; omega)]
theorem p_spot {μ : MT} {p nc c pv : Nat} {R : Nat → Int32} (hp : isPl p) (e11 : μ 0 11 = nI p) (e0 : μ p 0 = nI nc) (hnc : nc ≤ 12) (hcc : c < nc) (h1 : 1 ≤ pv) (h2 : pv ≤ 20) (hR : RwIs μ 18 0 R) : Ok (m_X8_spotAt Zc 127 0 (nI c) (nI pv) μ) (fun ν => RwIs ν 18 0 (spF (nI pv) nc c R) ∧ ∀ k, k ≠ 18 → ν k = μ k) := by
  have hpl := isPl_le hp
  have hr : ∀ {ν : MT} {R : Nat → Int32} {q : Nat}, RwIs ν 18 0 R → q < 12 → ν 18 q = R q := fun {ν R q} h hq => by
    have := h q hq
    rw [Nat.zero_add] at this
    exact this
  have hwr : ∀ {ν : MT} {R : Nat → Int32} {q : Nat} {v : Int32}, RwIs ν 18 0 R → RwIs (u2 ν 18 q v) 18 0 (upd R q v) := fun {ν R q v} h => by
    have := h.w (c := q) (v := v)
    rw [Nat.zero_add] at this
    exact this
  unfold m_X8_spotAt spF
  simp only [zA]
  rw [al_18 (by omega), hr hR (by omega), ob_s]
  refine ok_b (R1 := fun ν => RwIs ν 18 0 (sp1 (nI pv) c R) ∧ ∀ k, k ≠ 18 → ν k = μ k) ?_ ?_
  · by_cases hb : R c ≤ 0
    · rw [if_pos hb, ob_s, as_18 (by omega), ob_s, (spV_c h1 h2).1 hb]
      exact ok_s ⟨hwr hR, fun k hk => by rw [u2_w, if_neg hk]⟩
    · rw [if_neg hb, ob_s, as_18 (by omega), ob_s, (spV_c h1 h2).2 hb]
      exact ok_s ⟨hwr hR, fun k hk => by rw [u2_w, if_neg hk]⟩
  · rintro ν1 ⟨g1, g2⟩
    generalize sp1 (nI pv) c R = R1 at g1
    refine ok_b (R1 := fun ν => RwIs ν 18 0 (sp2 c R1) ∧ ∀ k, k ≠ 18 → ν k = μ k) ?_ ?_
    · unfold sp2
      by_cases h0 : c = 0
      · rw [if_pos h0, if_pos (by rw [h0]; decide)]
        exact ok_s ⟨g1, g2⟩
      · rw [if_neg h0, if_neg (by rw [x_lel (by omega) (by omega)]; omega), x_sl (by omega), al_18 (by omega), ob_s, as_18 (by omega), ob_s, hr g1 (by omega)]
        exact ok_s ⟨hwr g1, fun k hk => by rw [u2_w, if_neg hk]; exact g2 k hk⟩
    · rintro ν2 ⟨g3, g4⟩
      generalize sp2 c R1 = R2 at g3
      rw [g4 0 (by omega), e11, mrd_p hp, ob_s, g4 p (by omega), e0, n1]
      unfold sp3
      by_cases h0 : nc ≤ c + 1
      · rw [if_pos h0, if_pos (by rw [x_le (by omega) (by omega)]; exact h0)]
        exact ok_s ⟨g3, g4⟩
      · rw [if_neg h0, if_neg (by rw [x_le (by omega) (by omega)]; exact h0), al_18 (by omega), ob_s, as_18 (by omega), ob_s, hr g3 (by omega)]
        exact ok_s ⟨hwr g3, fun k hk => by rw [u2_w, if_neg hk]; exact g4 k hk⟩
theorem r_flame {μ : MT} {nc c : Nat} {pv : Int32} {R : Nat → Int32} (e5 : μ 106 5 = nI nc) (hnc : nc ≤ 12) (hcc : c < nc) (hR : RwIs μ 119 24 R) : Ok (m_X9_flame Zc 106 (nI c) pv μ) (fun ν => RwIs ν 119 24 (spF pv nc c R) ∧ ∀ k, k ≠ 119 → ν k = μ k) := by
  unfold m_X9_flame spF
  simp only [zA, x_la]
  rw [al_119 (by omega), hR c (by omega), ob_s]
  have hv : (if R c ≤ pv then (if -pv ≤ R c then some 0 else some (R c + pv)) else some (R c - pv)) = some (spV (R c) pv) := by
    unfold spV
    by_cases h1 : R c ≤ pv
    · rw [if_pos h1, if_neg (fun q => (nle.mpr q) h1)]
      by_cases h2 : -pv ≤ R c
      · rw [if_pos h2, if_neg (fun q => (nle.mpr q) h2)]
      · rw [if_neg h2, if_pos (nle.mp h2)]
    · rw [if_neg h1, if_pos (nle.mp h1)]
  rw [hv, ob_s, as_119 (by omega), ob_s]
  have g1 : RwIs (u2 μ 119 (24 + c) (spV (R c) pv)) 119 24 (sp1 pv c R) := hR.w
  have g2 : ∀ k, k ≠ 119 → u2 μ 119 (24 + c) (spV (R c) pv) k = μ k := fun k hk => by rw [u2_w, if_neg hk]
  generalize u2 μ 119 (24 + c) (spV (R c) pv) = ν1 at g1 g2 ⊢
  generalize sp1 pv c R = R1 at g1 ⊢
  refine ok_b (R1 := fun ν => RwIs ν 119 24 (sp2 c R1) ∧ ∀ k, k ≠ 119 → ν k = μ k) ?_ ?_
  · unfold sp2
    by_cases h0 : c = 0
    · rw [if_pos h0, if_pos (by rw [h0]; decide)]
      exact ok_s ⟨g1, g2⟩
    · rw [if_neg h0, if_neg (by rw [x_lel (by omega) (by omega)]; omega), x_sl (by omega), show 24 + c - 1 = 24 + (c - 1) by omega, al_119 (by omega), ob_s, as_119 (by omega), ob_s, g1 _ (by omega)]
      exact ok_s ⟨g1.w, fun k hk => by rw [u2_w, if_neg hk]; exact g2 k hk⟩
  · rintro ν2 ⟨g3, g4⟩
    generalize sp2 c R1 = R2 at g3
    rw [g4 106 (by omega), e5, x_sl (by omega)]
    unfold sp3
    by_cases h0 : nc ≤ c + 1
    · rw [if_pos h0, if_pos (by rw [x_le (by omega) (by omega)]; omega)]
      exact ok_s ⟨g3, g4⟩
    · rw [if_neg h0, if_neg (by rw [x_le (by omega) (by omega)]; omega), n1, show 24 + c + 1 = 24 + (c + 1) by omega, al_119 (by omega), ob_s, as_119 (by omega), ob_s, g3 _ (by omega)]
      exact ok_s ⟨g3.w, fun k hk => by rw [u2_w, if_neg hk]; exact g4 k hk⟩
theorem sp_bd {p : Int32} {pv nc c B : Nat} {R : Nat → Int32} (hp : p = nI pv) (h1 : 1 ≤ pv) (h2 : pv ≤ 20) (hB : B < 100000) (h : ∀ q, q < nc → (R q).toInt.natAbs ≤ B) (hc : c < nc) : ∀ q, q < nc → (spF p nc c R q).toInt.natAbs ≤ B + 1 := by
  subst hp
  have e : (nI pv).toInt = pv := ti_n (by omega)
  have en : (-nI pv).toInt = -pv := by rw [ti_neg (by omega), e]
  have z0 : (0 : Int32).toInt = 0 := rfl
  have b1 : ∀ q, q < nc → (sp1 (nI pv) c R q).toInt.natAbs ≤ B := fun q hq => by
    unfold sp1 upd
    by_cases hqc : q = c
    · rw [if_pos hqc]
      have := h c hc
      unfold spV
      by_cases g1 : nI pv < R c
      · rw [if_pos g1]
        rw [fa_lt, e] at g1
        rw [ti_sub (by omega) (by omega), e]
        omega
      · rw [if_neg g1]
        by_cases g2 : R c < -nI pv
        · rw [if_pos g2]
          rw [fa_lt, en] at g2
          rw [ti_add (by omega) (by omega), e]
          omega
        · rw [if_neg g2, z0]; omega
    · rw [if_neg hqc]; exact h q hq
  have inc : ∀ v : Int32, v.toInt.natAbs ≤ B → (v + 1).toInt.natAbs ≤ B + 1 := fun v hv => ab_add hv (by decide) (by omega)
  intro q hq
  unfold spF
  generalize sp1 (nI pv) c R = R1 at b1 ⊢
  have b2 : ∀ q, q < nc → (sp2 c R1 q).toInt.natAbs ≤ if q + 1 = c then B + 1 else B := fun q hq => by
    unfold sp2
    by_cases h0 : c = 0
    · rw [if_pos h0, if_neg (by omega)]; exact b1 q hq
    · rw [if_neg h0]
      unfold upd
      by_cases hqc : q = c - 1
      · rw [if_pos hqc, if_pos (by omega)]
        exact inc _ (b1 _ (by omega))
      · rw [if_neg hqc, if_neg (by omega)]; exact b1 q hq
  generalize sp2 c R1 = R2 at b2 ⊢
  unfold sp3
  by_cases h0 : nc ≤ c + 1
  · rw [if_pos h0]
    have := b2 q hq
    split at this <;> omega
  · rw [if_neg h0]
    unfold upd
    by_cases hqc : q = c + 1
    · rw [if_pos hqc]
      have := b2 (c + 1) (by omega)
      rw [if_neg (by omega)] at this
      exact inc _ this
    · rw [if_neg hqc]
      have := b2 q hq
      split at this <;> omega
theorem dd_bd {p : Int32} {pv nc set B : Nat} {R : Nat → Int32} (hp : p = nI pv) (h1 : 1 ≤ pv) (h2 : pv ≤ 20) (h : ∀ q, q < nc → (R q).toInt.natAbs ≤ B) : ∀ n, n ≤ nc → B + n < 100000 → ∀ q, q < nc → (ddF p nc set R n q).toInt.natAbs ≤ B + n
  | 0, _, _ => h
  | n + 1, hn, hB => fun q hq => by
    have ih := dd_bd (set := set) hp h1 h2 h n (by omega) (by omega)
    rw [ddF]
    by_cases hb : bt (nI set) n = true
    · rw [if_pos hb]
      exact sp_bd hp h1 h2 (by omega) ih (by omega) q hq
    · rw [if_neg hb]
      have := ih q hq
      omega
/-- all bends are t or less in size -/
def ckB (t : Nat) (R : Nat → Int32) (c : Nat) : Bool := decide (-(t : Int) ≤ (R c).toInt ∧ (R c).toInt ≤ t)
def okS (p : Int32) (t nc : Nat) (R : Nat → Int32) (set : Nat) : Bool := alB (ckB t (ddF p nc set R nc)) nc
theorem p_draw {μ : MT} {p nc set pv t : Nat} {x : RS} (hp : isPl p) (e11 : μ 0 11 = nI p) (e0 : μ p 0 = nI nc) (hnc : nc ≤ 12) (h1 : 1 ≤ pv) (h2 : pv ≤ 20) (ht : t ≤ 40) (hx : PIs μ 19 nc x) (hb : Bd nc 240 x) : Ok (m_X8_drawDown Zc 127 0 (nI set) (nI pv) (nI t) μ) (fun q => q.1 = bI (okS (nI pv) t nc (fun c => μ 23 c) set = true) ∧ ∀ k, k ≠ 18 → q.2 k = μ k) := by
  have hpl := isPl_le hp
  unfold m_X8_drawDown
  simp only [zA]
  rw [zp_3 pn19, acp0 (m := 12) (v := 12) (n := 12) (n1 := 12) (zpl pn19).2.2.2.1 (by simp only [zA]) (by omega) (by omega) (by omega) rfl, ob_s]
  have hR0 : RwIs (u1 μ 18 (fun j => if j < 12 then μ (19 + 4) j else μ 18 j)) 18 0 (fun c => μ 23 c) := fun q hq => by
    rw [u1_r, if_pos rfl, Nat.zero_add, if_pos hq]
  have hF0 : ∀ k, k ≠ 18 → u1 μ 18 (fun j => if j < 12 then μ (19 + 4) j else μ 18 j) k = μ k := fun k hk => by rw [u1_w, if_neg hk]
  generalize u1 μ 18 (fun j => if j < 12 then μ (19 + 4) j else μ 18 j) = μ0 at hR0 hF0 ⊢
  refine ok_for (fun c ν => RwIs ν 18 0 (ddF (nI pv) nc set (fun c => μ 23 c) c) ∧ ∀ k, k ≠ 18 → ν k = μ k) 0 nc (by omega) (by omega) rfl ⟨hR0, hF0⟩ ?_ ?_
  · rintro c ν _ hc ⟨g1, g2⟩
    have f11 : ν 0 11 = nI p := by rw [g2 0 (by omega)]; exact e11
    have f0 : ν p 0 = nI nc := by rw [g2 p (by omega)]; exact e0
    simp only [f11, mrd_p hp, ob_s, f0]
    rw [if_neg (by rw [x_le (by omega) (by omega)]; omega)]
    refine ok_b (R1 := fun ν' => RwIs ν' 18 0 (ddF (nI pv) nc set (fun c => μ 23 c) (c + 1)) ∧ ∀ k, k ≠ 18 → ν' k = μ k) ?_ ?_
    · rw [ddF]
      by_cases hbt : bt (nI set) c = true
      · rw [if_pos hbt, if_pos ((bitC (nI set) (by omega)).1.mpr hbt)]
        refine ok_b (p_spot hp f11 f0 hnc hc h1 h2 g1) ?_
        rintro ν' ⟨k1, k2⟩
        exact ok_s ⟨k1, fun k hk => by rw [k2 k hk]; exact g2 k hk⟩
      · rw [if_neg hbt, if_neg (fun hq => hbt ((bitC (nI set) (by omega)).1.mp hq))]
        exact ok_s ⟨g1, g2⟩
    · rintro ν' hν
      rw [n1]
      exact ok_s (Or.inl ⟨_, rfl, hν⟩)
  · rintro ν ⟨g1, g2⟩
    have f11 : ν 0 11 = nI p := by rw [g2 0 (by omega)]; exact e11
    have f0 : ν p 0 = nI nc := by rw [g2 p (by omega)]; exact e0
    simp only [f11, mrd_p hp, ob_s, f0]
    rw [if_pos (by rw [x_le (by omega) (by omega)]; omega)]
    refine ok_s ⟨_, rfl, ?_⟩
    have hR : ∀ q, q < nc → (μ 23 q).toInt.natAbs ≤ 4840 := fun q hq => by
      have h3 := (hb.2 q hq).2.2.1
      have h4 : μ 23 q = x.1 (24 + q) := (hx.2.2.2 q hq).2.1
      rw [h4]
      omega
    have hbd := dd_bd (p := nI pv) (set := set) (B := 4840) rfl h1 h2 hR nc (Nat.le_refl _) (by omega)
    unfold okS
    simp only [f11, mrd_p hp, ob_s, f0]
    generalize ddF (nI pv) nc set (fun c => μ 23 c) nc = R at g1 hbd ⊢
    refine ok_c (fun c => alB (ckB t R) c = true) 0 nc (by omega) (by omega) rfl rfl ?_ ?_
    · intro c _ hc hJ
      have hrc := g1 c (by omega)
      rw [Nat.zero_add] at hrc
      have hb1 := hbd c hc
      rw [if_neg (by rw [x_le (by omega) (by omega)]; omega), al_18 (by omega), ob_s, hrc]
      have hck : (iabs (R c) ≤ nI t) ↔ ckB t R c = true := by
        have z0 : (0 : Int32).toInt = 0 := rfl
        rw [fa_le, ti_n (by omega)]
        unfold ckB iabs
        by_cases g : 0 ≤ R c
        · rw [if_pos g]
          rw [fa_le, z0] at g
          simp
          omega
        · rw [if_neg g]
          rw [fa_le, z0] at g
          rw [ti_sub (by rw [z0]; omega) (by rw [z0]; omega), z0]
          simp
          omega
      by_cases hq : iabs (R c) ≤ nI t
      · rw [if_pos hq, n1]
        exact ok_s (Or.inl ⟨rfl, by rw [alB_s, hJ, hck.mp hq]; rfl⟩)
      · rw [if_neg hq]
        refine ok_s (Or.inr ⟨_, rfl, ok_s ⟨?_, g2⟩⟩)
        have h5 : alB (ckB t R) (c + 1) = false := by
          rw [alB_s]
          have : ckB t R c = false := by
            cases hq2 : ckB t R c
            · rfl
            · exact absurd (hck.mpr hq2) hq
          rw [this]
          simp
        have h6 := alB_f (nc - (c + 1)) h5
        rw [show c + 1 + (nc - (c + 1)) = nc by omega] at h6
        rw [h6]
        exact (bI_f (by decide)).symm
    · intro hJ
      rw [if_pos (by rw [x_le (by omega) (by omega)]; omega)]
      exact ok_s ⟨_, rfl, ok_s ⟨(bI_t hJ).symm, g2⟩⟩
/-! ===== how many bits ===== -/
def bcF (a0 : Int32) : Int32 :=
  ((fun x1 : Int32 => (fun x2 : Int32 => (fun x3 : Int32 => (fun x4 : Int32 => (fun x5 : Int32 => x5 &&& 63) (x4 + ((x4.toUInt32 >>> ((16 : Int32).toUInt32 &&& Int32.toUInt32 31)).toInt32))) (x3 + ((x3.toUInt32 >>> ((8 : Int32).toUInt32 &&& Int32.toUInt32 31)).toInt32))) ((x2 + ((x2.toUInt32 >>> ((4 : Int32).toUInt32 &&& Int32.toUInt32 31)).toInt32)) &&& 252645135)) ((x1 &&& 858993459) + (((x1.toUInt32 >>> ((2 : Int32).toUInt32 &&& Int32.toUInt32 31)).toInt32) &&& 858993459))) (a0 - (((a0.toUInt32 >>> ((1 : Int32).toUInt32 &&& Int32.toUInt32 31)).toInt32) &&& 1431655765)))
theorem bc_eq (a : Int32) (μ : MT) : m_J6_bitCount_0f7a4 Zc a μ = some (bcF a) := rfl
theorem bc_n : ∀ h, h < 64 → ∀ l, l < 64 → bcF (nI (64 * h + l)) = nI (pcN (64 * h + l) 12) := by decide +kernel
theorem bt_n {set c : Nat} (hc : c < 32) : bt (nI set) c = set.testBit c := by
  unfold bt
  show (BitVec.ofNat 32 set).getLsbD c = _
  rw [BitVec.getLsbD_ofNat]
  simp [hc]
theorem pc_hi {set nc : Nat} (h : set < 2 ^ nc) : ∀ n, nc + n ≤ 12 → pcN set (nc + n) = pcN set nc
  | 0, _ => rfl
  | n + 1, hn => by
    rw [show nc + (n + 1) = (nc + n) + 1 by omega, pcN, pc_hi h n (by omega), bt_n (by omega), Nat.testBit_lt_two_pow (Nat.lt_of_lt_of_le h (Nat.pow_le_pow_right (by decide) (by omega)))]
    simp
theorem bc_set {set nc : Nat} (hnc : nc ≤ 12) (h : set < 2 ^ nc) (μ : MT) : m_J6_bitCount_0f7a4 Zc (nI set) μ = some (nI (pcN set nc)) := by
  have h12 : set < 4096 := Nat.lt_of_lt_of_le h (show 2 ^ nc ≤ 2 ^ 12 from Nat.pow_le_pow_right (by decide) hnc)
  have := bc_n (set / 64) (by omega) (set % 64) (by omega)
  rw [show 64 * (set / 64) + set % 64 = set by omega] at this
  rw [bc_eq, this]
  have h2 := pc_hi h (12 - nc) (by omega)
  rw [show nc + (12 - nc) = 12 by omega] at h2
  rw [h2]
theorem one_sh {n : Nat} (hn : n ≤ 12) : (1 : Int32) <<< (nI n &&& 31) = nI (2 ^ n) := by
  have h : 2 ^ n ≤ 2 ^ 12 := Nat.pow_le_pow_right (by decide) hn
  have := pk_shlN (n := 1) (nI n &&& 31) n (s_l n (by omega)) (by omega)
  rw [Nat.one_mul] at this
  exact this
/-- the answer of spots -/
def SpR (p : Int32) (t nc : Nat) (R : Nat → Int32) (a : Int32) : Prop :=
  (a = -1000000 ∧ ∀ b, b < 2 ^ nc → okS p t nc R b = true → 4 ≤ pcN b nc) ∨
  (∃ b0, b0 < 2 ^ nc ∧ a = nI b0 ∧ okS p t nc R b0 = true ∧ pcN b0 nc < 4 ∧ (∀ b, b < 2 ^ nc → okS p t nc R b = true → pcN b0 nc ≤ pcN b nc) ∧ (∀ b, b < b0 → okS p t nc R b = true → pcN b0 nc < pcN b nc))
theorem SpR_u {p : Int32} {t nc : Nat} {R : Nat → Int32} (a b : Int32) (h1 : SpR p t nc R a) (h2 : SpR p t nc R b) : a = b := by
  rcases h1 with ⟨e1, f1⟩ | ⟨x, hx, e1, o1, l1, m1, n1⟩
  · rcases h2 with ⟨e2, f2⟩ | ⟨y, hy, e2, o2, l2, m2, n2⟩
    · rw [e1, e2]
    · have := f1 y hy o2
      omega
  · rcases h2 with ⟨e2, f2⟩ | ⟨y, hy, e2, o2, l2, m2, n2⟩
    · have := f2 x hx o1
      omega
    · have a1 := m1 y hy o2
      have a2 := m2 x hx o1
      rcases Nat.lt_trichotomy x y with hxy | hxy | hxy
      · have := n2 x hxy o1
        omega
      · rw [e1, e2, hxy]
      · have := n1 y hxy o2
        omega
