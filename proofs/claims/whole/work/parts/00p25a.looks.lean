/-! ===== what a call leaves of the rest, once more ===== -/
theorem c_gen {μ ν : MT} {p d nc ns na nb : Nat} (h : Core μ p d nc ns na nb) (k2 : ν 0 15 = ν 106 1)
    (k0 : ∀ j, j = 11 ∨ j = 12 ∨ j = 14 → ν 0 j = μ 0 j)
    (k6 : ∀ j, (5 ≤ j ∧ j < 9) ∨ j = 20 ∨ j = 21 ∨ j = 42 → ν 106 j = μ 106 j)
    (kr : ∀ k, (1 ≤ k ∧ k < 15) ∨ k = 16 ∨ (90 ≤ k ∧ k < 106) ∨ (107 ≤ k ∧ k < 113) ∨ k = 116 ∨ k = 117 ∨ k = 126 ∨ (1000 ≤ k ∧ k < 1004) → ν k = μ k)
    (k8 : (ν 17 = μ 17 ∧ ν 118 = μ 118) ∨ ∀ k, k < ns → ∃ s, s < ns ∧ ν 17 k = nI s ∧ ν 118 k = nI s)
    (k9 : (ν 0 13 = μ 0 13 ∧ ν 106 31 = μ 106 31 ∧ ν 106 37 = μ 106 37 ∧ ν 122 = μ 122 ∧ ∀ k, 19 ≤ k → k < 26 → ν k = μ k) ∨ ILa nc (ν 0 13) (ν 106 31) (ν 106 37) (ν 122) (ν 117) (ν 19) (ν 20) (ν 21) (ν 22) (ν 23) (ν 24) (ν 25))
    (k10 : ((∀ j, 4 ≤ j → j < 7 → ν 33 j = μ 33 j) ∧ ν 36 = μ 36) ∨ ISe nc ns na nb (ν 110) (ν 111) (ν 112) (ν 117) (ν 33 4) (ν 33 5) (ν 33 6) (ν 36))
    (k11 : (ν 87 2 = μ 87 2 ∧ ν 88 = μ 88) ∨ IBe nc ns na (ν 110) (ν 87 2) (ν 88)) : Core ν p d nc ns na nb := by
  have hp := isPl_le h.2.2.2.1.1
  have e90 := kr 90 (by omega)
  have e13 := kr 13 (by omega)
  refine c_mk h (Or.inl ⟨?_, ?_, ?_, ?_, ?_, ?_⟩) k2 (Or.inl ⟨k0 14 (by omega), k6 21 (by omega)⟩) (Or.inl ⟨?_, ?_, k6 20 (by omega), ?_⟩) ⟨k0 11 (by omega), k0 12 (by omega)⟩ ?_ ⟨?_, ?_, ?_⟩ ⟨k6 5 (by omega), k6 6 (by omega), k6 7 (by omega), k6 8 (by omega)⟩ (Or.inl ⟨?_, ?_⟩) k8 ?_ ?_ k11 (Or.inl ⟨?_, ?_, k6 42 (by omega), ?_⟩) ⟨?_, ?_, ?_, ?_⟩
  case refine_10 => exact fun i hi => kr _ (by omega)
  case refine_16 =>
    rcases k9 with ⟨a1, a2, a3, a4, a5⟩ | k9
    · exact Or.inl ⟨a1, a2, a3, a4, kr _ (by omega), a5 19 (by omega) (by omega), a5 20 (by omega) (by omega), a5 21 (by omega) (by omega), a5 22 (by omega) (by omega), a5 23 (by omega) (by omega), a5 24 (by omega) (by omega), a5 25 (by omega) (by omega)⟩
    · exact Or.inr k9
  case refine_17 =>
    rcases k10 with ⟨a1, a2⟩ | k10
    · exact Or.inl ⟨kr _ (by omega), a1 4 (by omega) (by omega), a1 5 (by omega) (by omega), a1 6 (by omega) (by omega), a2⟩
    · exact Or.inr k10
  all_goals first
    | exact kr _ (by omega)
    | exact fun s hs => kr _ (by omega)
    | rw [e90]
    | rw [e13]
/-- what the reference's looking leaves -/
def FrX (μ ν : MT) : Prop := (∀ k, k ≠ 106 → (k < 119 ∨ 125 < k ∨ k = 122) → ν k = μ k) ∧ (∀ j, j ≠ 0 → j ≠ 35 → ν 106 j = μ 106 j)
theorem FrX.refl (μ : MT) : FrX μ μ := ⟨fun _ _ _ => rfl, fun _ _ _ => rfl⟩
theorem FrX.trans {μ ν ω : MT} (h : FrX μ ν) (h2 : FrX ν ω) : FrX μ ω := ⟨fun k a b => (h2.1 k a b).trans (h.1 k a b), fun j a b => (h2.2 j a b).trans (h.2 j a b)⟩
theorem FrX.of {μ ν : MT} (h : FrR μ ν) : FrX μ ν := ⟨fun k a b => h.1 k a (by omega) (by omega) (by omega), fun j _ b => h.2 j b⟩
theorem FrX.w {μ ν : MT} (h : FrX μ ν) {k j : Nat} {v : Int32} (hk : 119 ≤ k ∧ k ≤ 125 ∧ k ≠ 122) : FrX μ (u2 ν k j v) := ⟨fun q a b => by rw [u2_w, if_neg (by omega)]; exact h.1 q a b, fun i a b => by rw [u2_r, if_neg (by omega)]; exact h.2 i a b⟩
theorem FrX.w1 {μ ν : MT} (h : FrX μ ν) {k : Nat} {f : Nat → Int32} (hk : 119 ≤ k ∧ k ≤ 125 ∧ k ≠ 122) : FrX μ (u1 ν k f) := ⟨fun q a b => by rw [u1_w, if_neg (by omega)]; exact h.1 q a b, fun i a b => by rw [u1_r, if_neg (by omega)]; exact h.2 i a b⟩
theorem FrX.w0 {μ ν : MT} (h : FrX μ ν) {v : Int32} : FrX μ (u2 ν 106 0 v) := ⟨fun q a b => by rw [u2_w, if_neg (by omega)]; exact h.1 q a b, fun i a b => by rw [u2_r, if_neg (by omega)]; exact h.2 i a b⟩
/-- the reference looked, nothing else -/
theorem c_x {μ ν : MT} {p d nc ns na nb : Nat} (h : Core μ p d nc ns na nb) (f : FrX μ ν) : Core ν p d nc ns na nb := by
  refine c_gen h ?_ ?_ ?_ ?_ (Or.inl ⟨?_, ?_⟩) (Or.inl ⟨?_, ?_, ?_, ?_, ?_⟩) (Or.inl ⟨?_, ?_⟩) (Or.inl ⟨?_, ?_⟩)
  · rw [f.1 0 (by omega) (by omega), f.2 1 (by omega) (by omega)]; exact h.2.1.1
  · intro j _; rw [f.1 0 (by omega) (by omega)]
  · intro j hj; exact f.2 j (by omega) (by omega)
  · intro k hk; exact f.1 k (by omega) (by omega)
  · exact f.1 _ (by omega) (by omega)
  · exact f.1 _ (by omega) (by omega)
  · rw [f.1 0 (by omega) (by omega)]
  · exact f.2 _ (by omega) (by omega)
  · exact f.2 _ (by omega) (by omega)
  · exact f.1 _ (by omega) (by omega)
  · intro k h1 h2; exact f.1 _ (by omega) (by omega)
  · intro j _ _; rw [f.1 33 (by omega) (by omega)]
  · exact f.1 _ (by omega) (by omega)
  · rw [f.1 87 (by omega) (by omega)]
  · exact f.1 _ (by omega) (by omega)
theorem okR_of {c : Option Int32} {r : Option (Int32 × MT)} {a : Int32} (h1 : c = some a) (h2 : Ok r (fun q => q.1 = a ∧ Inv q.2)) : OkR Inv c r := by
  obtain ⟨⟨b, μ⟩, e, e1, e2⟩ := h2
  simp only at e1 e2
  subst e1
  exact ⟨_, _, h1, e, e2⟩
theorem okI_of {c : Option (Int32 × MT)} {r : MT → Option (Int32 × MT)} {a : Int32} {P : MT → Prop} (h1 : Ok c (fun q => q.1 = a ∧ P q.2)) (h2 : ∀ μ, P μ → Ok (r μ) (fun q => q.1 = a ∧ Inv q.2)) : OkI Inv c r := by
  obtain ⟨⟨b, μ⟩, e, e1, e2⟩ := h1
  simp only at e1 e2
  subst e1
  obtain ⟨⟨b', μ'⟩, g, g1, g2⟩ := h2 μ e2
  simp only at g1 g2
  subst g1
  exact ⟨_, _, _, e, g, g2⟩
theorem q_none {μ : MT} {p nc : Nat} (e : μ p 0 = nI nc) (h : nc < 1000) : m_X3_isNone Zc p μ = some (bI (nc = 0)) := by
  unfold m_X3_isNone bI
  rw [e]
  simp (disch := omega) only [x_eql]
  by_cases h0 : nc = 0
  · rw [if_pos h0, if_pos h0]
  · rw [if_neg h0, if_neg h0]
/-- what stands, as one run -/
def StIs (μ : MT) (x : RS) : Prop := (μ 106 31 = 1 ∧ ∀ k, k < 48 → μ 122 k = x.1 k) ∨ (μ 106 31 = 0 ∧ x = bgA (μ 117))
theorem q_layS {μ : MT} {x : RS} (h : StIs μ x) : Ok (m_X9_layStanding Zc 106 μ) (fun ν => (∀ k, k < 48 → ν 119 k = x.1 k) ∧ FrX μ ν ∧ ν 106 = μ 106) := by
  rw [r_layS]
  refine ok_s ⟨fun k hk => ?_, (FrX.refl μ).w1 (by omega), ?_⟩
  · rw [u1_r, if_pos rfl, if_pos hk]
    unfold stdR
    rcases h with ⟨h1, h2⟩ | ⟨h1, h2⟩
    · rw [h1, if_neg (by decide)]
      exact h2 k hk
    · rw [h1, if_pos rfl, h2]
      rfl
  · rw [u1_w, if_neg (by omega)]
theorem st_fr {μ ν : MT} {x : RS} (h : StIs μ x) (f : FrX μ ν) : StIs ν x := by
  unfold StIs
  rw [f.2 31 (by omega) (by omega), f.1 122 (by omega) (by omega), f.1 117 (by omega) (by omega)]
  exact h
theorem la_ex {μ : MT} {nc : Nat} (h : ILa nc (μ 0 13) (μ 106 31) (μ 106 37) (μ 122) (μ 117) (μ 19) (μ 20) (μ 21) (μ 22) (μ 23) (μ 24) (μ 25)) : ∃ x, PIs μ 19 nc x ∧ Bd nc 240 x ∧ StIs μ x := by
  obtain ⟨x, h1, h2, h3⟩ := h
  refine ⟨x, h1, h2, ?_⟩
  rcases h3 with ⟨_, a2, _, a4⟩ | ⟨_, a2, a3⟩
  · exact Or.inl ⟨a2, a4⟩
  · exact Or.inr ⟨a2, a3⟩
theorem pn19 : isPn 19 := Or.inl rfl
theorem pn26 : isPn 26 := Or.inr (Or.inl rfl)
theorem op_height {ν : MT} (h : Inv ν) (a0 : Int32) : OkR Inv (m_X8_height Zc 127 0 a0 ν) (m_X9_height Zc 106 a0 ν) := by
  obtain ⟨p, d, nc, ns, na, nb, h⟩ := h
  obtain ⟨c1, c2, c3, ⟨hp, hd, hpd, e11, e12⟩, c5, c6, c7, c8, c9, c10, c11, c12, c13⟩ := id h
  obtain ⟨hnc, hns, hna, hnb⟩ := pl_bd c5
  obtain ⟨x, x1, x2, x3⟩ := la_ex c9
  have e0 := c5.1.1
  have m5 : u2 ν 106 0 0 106 5 = nI nc := c6.1
  have f0 : FrX ν (u2 ν 106 0 0) := (FrX.refl ν).w0
  have gin : ∀ μ : MT, m_X9_in Zc a0.toInt64 0 (nI nc).toInt64 μ = some (bI (0 ≤ a0.toInt ∧ a0.toInt ≤ nc)) := fun μ => by
    rw [q_in, Int32.toInt_toInt64, Int32.toInt_toInt64, show (0 : Int64).toInt = 0 from rfl, ti_n (by omega)]
  unfold m_X8_height m_X9_height
  simp only [zA, e11, mrd_p hp, ob_s, q_none e0 (show nc < 1000 by omega), e0, m5, gin]
  by_cases hz : nc = 0
  · rw [bI_t hz, if_neg (by decide), if_pos (by rw [hz]; rfl)]
    exact okR_of rfl (ok_s ⟨rfl, p, d, nc, ns, na, nb, c_x h f0⟩)
  · have hz' : ¬ nI nc = 0 := by rw [x_eql (by omega) (by omega)]; exact hz
    rw [bI_f hz, if_pos rfl, if_neg hz']
    by_cases ha : 0 ≤ a0.toInt ∧ a0.toInt ≤ nc
    · rw [bI_t ha, if_neg (show ¬ a0 < 0 by rw [fa_lt]; show ¬ _ < (0 : Int); omega), if_pos (show a0 ≤ nI nc by rw [fa_le, ti_n (by omega)]; omega), if_neg (by decide)]
      obtain ⟨i, hi, rfl⟩ := nI_ex (n := nc + 1) ha.1 (by omega)
      rw [p_height pn19 x1.1 (fun c hc => (x1.2.2.2 c hc).2.1) hnc (by omega), ob_s]
      refine okR_of rfl ?_
      refine ok_b (q_layS (st_fr x3 f0)) ?_
      rintro ν3 ⟨g1, g2, g3⟩
      rw [r_height (by simp only [zA]) (by omega), ob_s]
      refine ok_s ⟨?_, p, d, nc, ns, na, nb, c_x h (f0.trans g2)⟩
      simp only
      rw [hgA_c (N' := x.1) (fun c hc => g1 _ (by omega))]
    · rw [bI_f ha, if_pos rfl]
      by_cases h1 : a0 < 0
      · rw [if_pos h1]
        exact okR_of rfl (ok_s ⟨rfl, p, d, nc, ns, na, nb, c_x h f0⟩)
      · rw [if_neg h1, if_neg (show ¬ a0 ≤ nI nc by rw [fa_le, ti_n (by omega)]; rw [fa_lt, show (0 : Int32).toInt = 0 from rfl] at h1; omega)]
        exact okR_of rfl (ok_s ⟨rfl, p, d, nc, ns, na, nb, c_x h f0⟩)
theorem r_crackAt {μ : MT} {x : RS} {nc : Nat} {a : Int32} (h : StIs μ x) (e : μ 106 5 = nI nc) (hc : nc ≤ 12) : Ok (m_X9_crackAt Zc 106 a μ) (fun q => q.1 = fsF x.1 (300 - 4 * a) nc 0 ∧ FrX μ q.2) := by
  unfold m_X9_crackAt
  refine ok_b (q_layS h) ?_
  rintro ν ⟨g1, g2, g3⟩
  have e5 : ν 106 5 = nI nc := by rw [g3]; exact e
  refine ok_c (fun i => fsF x.1 (300 - 4 * a) (nc - i) i = fsF x.1 (300 - 4 * a) nc 0) 0 nc (by omega) (by omega) rfl rfl ?_ ?_
  · intro i _ hi hJ
    simp (disch := omega) only [e5, x_le, show ¬ nc ≤ i by omega, if_false, zA, x_la]
    rw [al_119 (by omega), ob_s, g1 _ (by omega)]
    rw [show nc - i = (nc - (i + 1)) + 1 by omega, fsF] at hJ
    by_cases hl : x.1 (36 + i) ≤ 300 - 4 * a
    · rw [if_pos hl, ob_s, n1]
      rw [if_neg (fun q => (nle.mpr q) hl)] at hJ
      exact ok_s (Or.inl ⟨rfl, hJ⟩)
    · rw [if_neg hl]
      rw [if_pos (nle.mp hl)] at hJ
      exact ok_s (Or.inr ⟨_, rfl, ok_s ⟨hJ, g2⟩⟩)
  · intro hJ
    simp (disch := omega) only [e5, x_le, Nat.le_refl, if_true]
    rw [Nat.sub_self] at hJ
    exact ok_s ⟨_, rfl, ok_s ⟨hJ, g2⟩⟩
theorem op_crack {ν : MT} (h : Inv ν) (a0 : Int32) : OkR Inv (m_X8_crack Zc 0 a0 ν) (m_X9_crack Zc 106 a0 ν) := by
  obtain ⟨p, d, nc, ns, na, nb, h⟩ := h
  obtain ⟨c1, c2, c3, ⟨hp, hd, hpd, e11, e12⟩, c5, c6, c7, c8, c9, c10, c11, c12, c13⟩ := id h
  obtain ⟨hnc, hns, hna, hnb⟩ := pl_bd c5
  obtain ⟨x, x1, x2, x3⟩ := la_ex c9
  have m5 : u2 ν 106 0 0 106 5 = nI nc := c6.1
  have f0 : FrX ν (u2 ν 106 0 0) := (FrX.refl ν).w0
  unfold m_X8_crack m_X9_crack
  simp only [zA, ob_s, q_in, Int32.toInt_toInt64, show (0 : Int64).toInt = 0 from rfl, show (60 : Int64).toInt = 60 from rfl]
  by_cases ha : 0 ≤ a0.toInt ∧ a0.toInt ≤ 60
  · rw [bI_t ha, if_neg (show ¬ a0 < 0 by rw [fa_lt]; show ¬ _ < (0 : Int); omega), if_pos (show a0 ≤ 60 by rw [fa_le]; show _ ≤ (60 : Int); omega), if_neg (by decide), p_fst pn19 x1 hnc, ob_s]
    refine okR_of rfl ?_
    refine ok_b (r_crackAt (st_fr x3 f0) m5 hnc) ?_
    rintro ⟨r, ν3⟩ ⟨g1, g2⟩
    exact ok_s ⟨g1, p, d, nc, ns, na, nb, c_x h (f0.trans g2)⟩
  · rw [bI_f ha, if_pos rfl]
    by_cases h1 : a0 < 0
    · rw [if_pos h1]
      exact okR_of rfl (ok_s ⟨rfl, p, d, nc, ns, na, nb, c_x h f0⟩)
    · rw [if_neg h1, if_neg (show ¬ a0 ≤ 60 by rw [fa_le, show (60 : Int32).toInt = 60 from rfl]; rw [fa_lt, show (0 : Int32).toInt = 0 from rfl] at h1; omega)]
      exact okR_of rfl (ok_s ⟨rfl, p, d, nc, ns, na, nb, c_x h f0⟩)
/-- the greatest cold without a crack, from n - 1 down -/
def wmF (N : Nat → Int32) (nc : Nat) : Nat → Int32
  | 0 => -1000000
  | n + 1 => if fsF N (300 - 4 * nI n) nc 0 = -1000000 then nI n else wmF N nc n
theorem nm_1 {n : Nat} : nI (n + 1) + -1 = nI n := by
  rw [← n1, Int32.add_assoc, show (1 : Int32) + -1 = 0 from rfl, Int32.add_zero]
theorem op_warm {ν : MT} (h : Inv ν) : OkR Inv (m_X8_warm Zc 127 0 ν) (m_X9_warm Zc 106 ν) := by
  obtain ⟨p, d, nc, ns, na, nb, h⟩ := h
  obtain ⟨c1, c2, c3, ⟨hp, hd, hpd, e11, e12⟩, c5, c6, c7, c8, c9, c10, c11, c12, c13⟩ := id h
  obtain ⟨hnc, hns, hna, hnb⟩ := pl_bd c5
  obtain ⟨x, x1, x2, x3⟩ := la_ex c9
  have e0 := c5.1.1
  have m5 : u2 ν 106 0 0 106 5 = nI nc := c6.1
  have f0 : FrX ν (u2 ν 106 0 0) := (FrX.refl ν).w0
  unfold m_X8_warm m_X9_warm
  simp only [zA, e11, mrd_p hp, ob_s, q_none e0 (show nc < 1000 by omega), m5]
  by_cases hz : nc = 0
  · rw [bI_t hz, if_neg (by decide), if_pos (by rw [hz]; rfl)]
    exact okR_of rfl (ok_s ⟨rfl, p, d, nc, ns, na, nb, c_x h f0⟩)
  · have hz' : ¬ nI nc = 0 := by rw [x_eql (by omega) (by omega)]; exact hz
    rw [bI_f hz, if_pos rfl, if_neg hz']
    refine okR_of (a := wmF x.1 nc 61) ?_ ?_
    · apply ok_eq
      refine ok_l (fun m s => s = nI m + -1 ∧ wmF x.1 nc m = wmF x.1 nc 61 ∧ m ≤ 61) 61 (by omega) ⟨rfl, rfl, by omega⟩ ?_
      rintro m s ⟨rfl, hw, hm⟩
      cases m with
      | zero =>
        rw [if_pos (by decide)]
        exact ok_s (Or.inl ⟨_, rfl, ok_s hw⟩)
      | succ n =>
        rw [nm_1, if_neg (by rw [x_ltl (by omega) (by omega)]; omega), p_fst pn19 x1 hnc, ob_s]
        rw [wmF] at hw
        by_cases hq : fsF x.1 (300 - 4 * nI n) nc 0 = -1000000
        · rw [if_pos hq]
          rw [if_pos hq] at hw
          exact ok_s (Or.inl ⟨_, rfl, ok_s hw⟩)
        · rw [if_neg hq]
          rw [if_neg hq] at hw
          exact ok_s (Or.inr ⟨_, n, rfl, by omega, rfl, hw, by omega⟩)
    · refine ok_l (fun m s => s.1 = nI m + -1 ∧ FrX ν s.2 ∧ wmF x.1 nc m = wmF x.1 nc 61 ∧ m ≤ 61) 61 (by omega) ⟨rfl, f0, rfl, by omega⟩ ?_
      rintro m ⟨s, ν2⟩ ⟨hs, f2', hw, hm⟩
      have f2 : FrX ν ν2 := f2'
      clear f2'
      simp only at hs
      subst hs
      cases m with
      | zero =>
        simp only [show (nI 0 + -1 : Int32) < 0 from by decide, if_true]
        exact ok_s (Or.inl ⟨_, rfl, ok_s ⟨hw, p, d, nc, ns, na, nb, c_x h f2⟩⟩)
      | succ n =>
        simp only [nm_1]
        rw [if_neg (by rw [x_ltl (by omega) (by omega)]; omega)]
        refine ok_b (r_crackAt (st_fr x3 f2) (by rw [f2.2 5 (by omega) (by omega)]; exact c6.1) hnc) ?_
        rintro ⟨r, ν3⟩ ⟨g1, g2⟩
        simp only at g1 g2 ⊢
        subst g1
        rw [wmF] at hw
        by_cases hq : fsF x.1 (300 - 4 * nI n) nc 0 = -1000000
        · rw [if_pos hq]
          rw [if_pos hq] at hw
          refine ok_s (Or.inl ⟨_, rfl, ?_⟩)
          simp only
          rw [if_pos (by rw [x_lle (by omega) (by omega)]; omega)]
          exact ok_s ⟨hw, p, d, nc, ns, na, nb, c_x h (f2.trans g2)⟩
        · rw [if_neg hq]
          rw [if_neg hq] at hw
          exact ok_s (Or.inr ⟨_, n, rfl, by omega, rfl, f2.trans g2, hw, by omega⟩)
