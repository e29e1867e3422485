/-! ===== spots, kept ===== -/
theorem alB_c {f g : Nat → Bool} : ∀ {n : Nat}, (∀ c, c < n → f c = g c) → alB f n = alB g n
  | 0, _ => rfl
  | n + 1, h => by rw [alB_s, alB_s, alB_c (fun c hc => h c (by omega)), h n (by omega)]
theorem spF_c {p : Int32} {nc c : Nat} {R R' : Nat → Int32} (hc : c < nc) (h : ∀ q, q < nc → R q = R' q) : ∀ q, q < nc → spF p nc c R q = spF p nc c R' q := by
  have h1 : ∀ q, q < nc → sp1 p c R q = sp1 p c R' q := fun q hq => by
    unfold sp1 upd
    rw [h c hc, h q hq]
  have h2 : ∀ q, q < nc → sp2 c (sp1 p c R) q = sp2 c (sp1 p c R') q := fun q hq => by
    unfold sp2
    by_cases h0 : c = 0
    · rw [if_pos h0, if_pos h0]; exact h1 q hq
    · rw [if_neg h0, if_neg h0]
      unfold upd
      rw [h1 (c - 1) (by omega), h1 q hq]
  intro q hq
  unfold spF
  unfold sp3
  by_cases h0 : nc ≤ c + 1
  · rw [if_pos h0, if_pos h0]; exact h2 q hq
  · rw [if_neg h0, if_neg h0]
    unfold upd
    rw [h2 (c + 1) (by omega), h2 q hq]
theorem ddF_c {p : Int32} {nc set : Nat} {R R' : Nat → Int32} (h : ∀ q, q < nc → R q = R' q) : ∀ n, n ≤ nc → ∀ q, q < nc → ddF p nc set R n q = ddF p nc set R' n q
  | 0, _ => h
  | n + 1, hn => by
    have ih := ddF_c (p := p) (set := set) h n (by omega)
    intro q hq
    rw [ddF, ddF]
    by_cases hb : bt (nI set) n = true
    · rw [if_pos hb, if_pos hb]
      exact spF_c (by omega) ih q hq
    · rw [if_neg hb, if_neg hb]
      exact ih q hq
theorem okS_c {p : Int32} {t nc set : Nat} {R R' : Nat → Int32} (h : ∀ q, q < nc → R q = R' q) : okS p t nc R set = okS p t nc R' set := by
  unfold okS
  refine alB_c (fun c hc => ?_)
  unfold ckB
  rw [ddF_c h nc (Nat.le_refl _) c hc]
theorem pcN_le (set : Nat) : ∀ n, pcN set n ≤ n
  | 0 => Nat.le_refl _
  | n + 1 => by
    rw [pcN]
    have := pcN_le set n
    by_cases hb : bt (nI set) n = true
    · rw [if_pos hb]; omega
    · rw [if_neg hb]; omega
/-- the program's finds so far -/
def SpI (p : Int32) (t nc : Nat) (R : Nat → Int32) (b : Nat) (a f : Int32) : Prop :=
  ∃ fv, f = nI fv ∧ fv ≤ 4 ∧ (∀ c, c < b → okS p t nc R c = true → fv ≤ pcN c nc) ∧ ((a = -1000000 ∧ fv = 4) ∨ (∃ b0, b0 < b ∧ a = nI b0 ∧ okS p t nc R b0 = true ∧ pcN b0 nc = fv ∧ fv < 4 ∧ ∀ c, c < b0 → okS p t nc R c = true → fv < pcN c nc))
theorem two_le {nc : Nat} (h : nc ≤ 12) : 2 ^ nc ≤ 4096 := Nat.pow_le_pow_right (n := 2) (by decide) h
theorem p_spots {μ : MT} {p nc pv t : Nat} {x : RS} (hp : isPl p) (e11 : μ 0 11 = nI p) (e0 : μ p 0 = nI nc) (hz : nc ≠ 0) (hnc : nc ≤ 12) (h1 : 1 ≤ pv) (h2 : pv ≤ 20) (ht : t ≤ 40) (hx : PIs μ 19 nc x) (hb : Bd nc 240 x) : Ok (m_X8_spots Zc 127 0 (nI pv) (nI t) μ) (fun q => SpR (nI pv) t nc (fun c => μ 23 c) q.1 ∧ ∀ k, k ≠ 18 → q.2 k = μ k) := by
  have hpl := isPl_le hp
  have hN := two_le hnc
  unfold m_X8_spots
  rw [if_neg (by rw [x_ltl (by omega) (by omega)]; omega), if_neg (by rw [x_llt (by omega) (by omega)]; omega), if_neg (by rw [x_ltl (by omega) (by omega)]; omega), if_pos (by rw [x_lel (by omega) (by omega)]; omega), e11, mrd_p hp, ob_s, q_none e0 (by omega), ob_s, bI_f hz, if_pos rfl]
  refine ok_l (fun m s => ∃ b, b + m = 2 ^ nc ∧ s.2.2.1 = nI b ∧ (∀ k, k ≠ 18 → s.2.2.2 k = μ k) ∧ SpI (nI pv) t nc (fun c => μ 23 c) b s.1 s.2.1) (2 ^ nc) (by omega) ⟨0, by omega, rfl, fun _ _ => rfl, 4, rfl, by omega, fun c hc => by omega, Or.inl ⟨rfl, rfl⟩⟩ ?_
  rintro m ⟨y4, y5, y6, ν7⟩ ⟨b, hbm, g1, g2, fv, g3, g4, g5, g6⟩
  simp only at g1 g2 g3 g6
  subst g1
  subst g3
  have f11 : ν7 0 11 = nI p := by rw [g2 0 (by omega)]; exact e11
  have f0 : ν7 p 0 = nI nc := by rw [g2 p (by omega)]; exact e0
  simp only [f11, mrd_p hp, ob_s, f0, one_sh hnc]
  by_cases hm : m = 0
  · rw [if_pos (by rw [x_le (by omega) (by omega)]; omega)]
    refine ok_s (Or.inl ⟨_, rfl, ok_s ⟨?_, g2⟩⟩)
    have hbe : b = 2 ^ nc := by omega
    rw [hbe] at g5 g6
    rcases g6 with ⟨a1, a2⟩ | ⟨b0, a1, a2, a3, a4, a5, a6⟩
    · exact Or.inl ⟨a1, fun c hc ho => by have := g5 c hc ho; omega⟩
    · exact Or.inr ⟨b0, a1, a2, a3, by omega, fun c hc ho => by have := g5 c hc ho; omega, fun c hc ho => by have := a6 c hc ho; omega⟩
  · have hpc := pcN_le b nc
    rw [if_neg (by rw [x_le (by omega) (by omega)]; omega), bc_set hnc (by omega), ob_s]
    refine ok_b (R1 := fun q => (∀ k, k ≠ 18 → q.2.2 k = μ k) ∧ SpI (nI pv) t nc (fun c => μ 23 c) (b + 1) q.1 q.2.1) ?_ ?_
    · by_cases hle : fv ≤ pcN b nc
      · rw [if_pos (by rw [x_le (by omega) (by omega)]; omega)]
        refine ok_s ⟨g2, fv, rfl, g4, fun c hc ho => ?_, ?_⟩
        · by_cases hcb : c = b
          · rw [hcb]; exact hle
          · exact g5 c (by omega) ho
        · rcases g6 with ⟨a1, a2⟩ | ⟨b0, a1, a2⟩
          · exact Or.inl ⟨a1, a2⟩
          · exact Or.inr ⟨b0, by omega, a2⟩
      · rw [if_neg (by rw [x_le (by omega) (by omega)]; omega)]
        have hx7 : PIs ν7 19 nc x := by
          unfold PIs
          rw [g2 19 (by omega), g2 (19 + 1) (by omega), g2 (19 + 2) (by omega), g2 (19 + 3) (by omega), g2 (19 + 4) (by omega), g2 (19 + 5) (by omega), g2 (19 + 6) (by omega)]
          exact hx
        refine ok_b (p_draw (set := b) hp f11 f0 hnc h1 h2 ht hx7 hb) ?_
        rintro ⟨r, ν8⟩ ⟨k1, k2⟩
        simp only at k1 k2
        rw [g2 23 (by omega)] at k1
        have k3 : ∀ k, k ≠ 18 → ν8 k = μ k := fun k hk => by rw [k2 k hk]; exact g2 k hk
        subst k1
        by_cases ho : okS (nI pv) t nc (fun c => μ 23 c) b = true
        · simp only [bI_t ho, one0, if_false]
          refine ok_s ⟨k3, pcN b nc, rfl, by omega, fun c hc hoc => ?_, Or.inr ⟨b, by omega, rfl, ho, rfl, by omega, fun c hc hoc => ?_⟩⟩
          · by_cases hcb : c = b
            · rw [hcb]; exact Nat.le_refl _
            · have := g5 c (by omega) hoc
              omega
          · have := g5 c (by omega) hoc
            omega
        · simp only [bI_f ho, if_true]
          refine ok_s ⟨k3, fv, rfl, g4, fun c hc hoc => ?_, ?_⟩
          · by_cases hcb : c = b
            · rw [hcb] at hoc; exact absurd hoc ho
            · exact g5 c (by omega) hoc
          · rcases g6 with ⟨a1, a2⟩ | ⟨b0, a1, a2⟩
            · exact Or.inl ⟨a1, a2⟩
            · exact Or.inr ⟨b0, by omega, a2⟩
    · rintro ⟨z1, z2, ν8⟩ ⟨k1, k2⟩
      simp only [ob_s, n1]
      exact ok_s (Or.inr ⟨_, m - 1, rfl, by omega, b + 1, by omega, rfl, k1, k2⟩)
theorem r_pop {set nc : Nat} (hnc : nc ≤ 12) {γ : Type} {F : Int32 → Option γ} {R : γ → Prop} (hF : Ok (F (nI (pcN set nc))) R) :
    Ok ((loop (σ := Int32 × Int32) (τ := Int32) (fun (y21, y22) => ((if nI nc ≤ y22 then some (Sum.inr y21) else (some (y21 + ((nI set >>> (y22 &&& 31)) &&& 1))).bind fun x63 => (some (y22 + 1)).bind fun x64 => some (Sum.inl (x63, x64))) : Option ((Int32 × Int32) ⊕ (Int32)))) LN (0, 0)).bind F) R := by
  refine ok_l (fun m q => ∃ i, i + m = nc ∧ q = (nI (pcN set i), nI i)) nc (by omega) ⟨0, by omega, rfl⟩ ?_
  rintro m q ⟨i, hi, rfl⟩
  by_cases hm : m = 0
  · have : i = nc := by omega
    subst this
    simp only []
    rw [if_pos (by rw [x_le (by omega) (by omega)]; omega)]
    exact ok_s (Or.inl ⟨_, rfl, hF⟩)
  · simp only []
    rw [if_neg (by rw [x_le (by omega) (by omega)]; omega), ob_s, ob_s, n1]
    refine ok_s (Or.inr ⟨_, m - 1, rfl, by omega, i + 1, by omega, ?_⟩)
    rw [pcN]
    by_cases hb : bt (nI set) i = true
    · rw [if_pos hb, (bitC (nI set) (by omega)).1.mpr hb, n1]
    · rw [if_neg hb, (bitC (nI set) (by omega)).2.mpr (by simpa using hb), Int32.add_zero]
      rfl
theorem r_try {μ : MT} {nc pv t set : Nat} {x : RS} (h : StIs μ x) (e5 : μ 106 5 = nI nc) (hnc : nc ≤ 12) (ht : t ≤ 40) {γ : Type} {F : Int32 → MT → Option γ} {R : γ → Prop}
    (hF : ∀ ν, FrX μ ν → Ok (F (bI (okS (nI pv) t nc (fun c => x.1 (24 + c)) set = true)) ν) R) :
    Ok ((m_X9_layStanding Zc 106 μ).bind fun ν33 => (loop (σ := Int32 × MT) (τ := MT) (fun (y34, ν35) => ((if (ν35 106 5) ≤ y34 then some (Sum.inr ν35) else (((if ((nI set >>> (y34 &&& 31)) &&& 1) = 1 then (m_X9_flame Zc 106 y34 (nI pv) ν35).bind fun ν62 => some ν62 else some ν35) : Option (MT))).bind (fun ν58 => (some (y34 + 1)).bind fun x61 => some (Sum.inl (x61, ν58)))) : Option ((Int32 × MT) ⊕ (MT)))) LN (0, ν33)).bind (fun ν36 => (loop (σ := Int32 × Int32) (τ := Int32) (fun (y41, y42) => ((if (ν36 106 5) ≤ y42 then some (Sum.inr y41) else (((((if y41 = 0 then some (Sum.inr ()) else (ald Zc ν36 119 (24 + y42)).bind fun x56 => (m_X9_in Zc ((x56 : Int32).toInt64) ((-nI t : Int32).toInt64) ((nI t : Int32).toInt64) ν36).bind fun r57 => (if r57 = 0 then some (Sum.inr ()) else some (Sum.inl 1))) : Option ((Int32) ⊕ (Unit)))).bind (jn (fun (_ : Unit) => some 0)) : Option (Int32))).bind (fun z48 => (some (y42 + 1)).bind fun x51 => some (Sum.inl (z48, x51)))) : Option ((Int32 × Int32) ⊕ (Int32)))) LN (1, 0)).bind (fun y43 => F y43 ν36))) R := by
  refine ok_b (q_layS h) ?_
  rintro ν3 ⟨g1, g2, g3⟩
  have hR0 : RwIs ν3 119 24 (fun c => x.1 (24 + c)) := fun q hq => g1 _ (by omega)
  refine ok_for (fun c ν => RwIs ν 119 24 (ddF (nI pv) nc set (fun c => x.1 (24 + c)) c) ∧ ∀ k, k ≠ 119 → ν k = ν3 k) 0 nc (by omega) (by omega) rfl ⟨hR0, fun _ _ => rfl⟩ ?_ ?_
  · rintro c ν _ hc ⟨k1, k2⟩
    have f5 : ν 106 5 = nI nc := by rw [k2 106 (by omega), g3]; exact e5
    simp only [f5]
    rw [if_neg (by rw [x_le (by omega) (by omega)]; omega)]
    refine ok_b (R1 := fun ν' => RwIs ν' 119 24 (ddF (nI pv) nc set (fun c => x.1 (24 + c)) (c + 1)) ∧ ∀ k, k ≠ 119 → ν' k = ν3 k) ?_ ?_
    · rw [ddF]
      by_cases hbt : bt (nI set) c = true
      · rw [if_pos hbt, if_pos ((bitC (nI set) (by omega)).1.mpr hbt)]
        refine ok_b (r_flame f5 hnc hc k1) ?_
        rintro ν' ⟨l1, l2⟩
        exact ok_s ⟨l1, fun k hk => by rw [l2 k hk]; exact k2 k hk⟩
      · rw [if_neg hbt, if_neg (fun hq => hbt ((bitC (nI set) (by omega)).1.mp hq))]
        exact ok_s ⟨k1, k2⟩
    · rintro ν' hν
      rw [ob_s, n1]
      exact ok_s (Or.inl ⟨_, rfl, hν⟩)
  · rintro ν ⟨k1, k2⟩
    have f5 : ν 106 5 = nI nc := by rw [k2 106 (by omega), g3]; exact e5
    simp only [f5]
    rw [if_pos (by rw [x_le (by omega) (by omega)]; omega)]
    refine ok_s ⟨_, rfl, ?_⟩
    simp only [f5]
    have hfr : FrX μ ν := g2.trans ⟨fun k a b => k2 k (by omega), fun j _ _ => by rw [k2 106 (by omega)]⟩
    have hFν := hF ν hfr
    unfold okS at hFν
    generalize ddF (nI pv) nc set (fun c => x.1 (24 + c)) nc = W at k1 hFν
    refine ok_l (fun m q => ∃ i, i + m = nc ∧ q = (bI (alB (ckB t W) i = true), nI i)) nc (by omega) ⟨0, by omega, rfl⟩ ?_
    rintro m q ⟨i, hi, rfl⟩
    by_cases hm : m = 0
    · have : i = nc := by omega
      subst this
      simp only []
      rw [if_pos (by rw [x_le (by omega) (by omega)]; omega)]
      exact ok_s (Or.inl ⟨_, rfl, hFν⟩)
    · simp only []
      rw [if_neg (by rw [x_le (by omega) (by omega)]; omega)]
      have hbody : (((if bI (alB (ckB t W) i = true) = 0 then some (Sum.inr ()) else (ald Zc ν 119 (24 + nI i)).bind fun x56 => (m_X9_in Zc ((x56 : Int32).toInt64) ((-nI t : Int32).toInt64) ((nI t : Int32).toInt64) ν).bind fun r57 => (if r57 = 0 then some (Sum.inr ()) else some (Sum.inl 1))) : Option ((Int32) ⊕ (Unit)))).bind (jn (fun (_ : Unit) => some 0)) = some (bI (alB (ckB t W) (i + 1) = true)) := by
        rw [alB_s]
        by_cases ha : alB (ckB t W) i = true
        · rw [bI_t ha, if_neg (by decide), x_la, al_119 (by omega), ob_s, k1 i (by omega), q_in, Int32.toInt_toInt64, Int32.toInt_toInt64, Int32.toInt_toInt64, ti_neg (by rw [ti_n (by omega)]; omega), ti_n (by omega), ob_s, ha]
          unfold ckB
          by_cases hc : -(t : Int) ≤ (W i).toInt ∧ (W i).toInt ≤ t
          · rw [bI_t hc, if_neg (by decide), ob_s, bI_t (by simpa using hc)]
            rfl
          · rw [bI_f hc, if_pos rfl, ob_s, bI_f (by simpa using hc)]
            rfl
        · rw [bI_f ha, if_pos rfl, ob_s, bI_f (by simp [ha])]
          rfl
      rw [hbody, ob_s, ob_s, n1]
      exact ok_s (Or.inr ⟨_, m - 1, rfl, by omega, i + 1, by omega, rfl⟩)
theorem op_spots {ν : MT} (h : Inv ν) (a0 a1 : Int32) : OkI Inv (m_X8_spots Zc 127 0 a0 a1 ν) (fun μ => m_X9_spots Zc 106 a0 a1 μ) := by
  obtain ⟨p, d, nc, ns, na, nb, h⟩ := h
  obtain ⟨c1, c2, c3, ⟨hp, hd, hpd, e11, e12⟩, c5, c6, c7, c8, c9, c10, c11, c12, c13⟩ := id h
  obtain ⟨hnc, hns, hna, hnb⟩ := pl_bd c5
  obtain ⟨x, x1, x2, x3⟩ := la_ex c9
  have e0 := c5.1.1
  have hN := two_le hnc
  have gi1 : ∀ μ : MT, m_X9_in Zc a0.toInt64 1 20 μ = some (bI (1 ≤ a0.toInt ∧ a0.toInt ≤ 20)) := fun μ => by
    rw [q_in, Int32.toInt_toInt64, show (1 : Int64).toInt = 1 from rfl, show (20 : Int64).toInt = 20 from rfl]
  have gi2 : ∀ μ : MT, m_X9_in Zc a1.toInt64 0 40 μ = some (bI (0 ≤ a1.toInt ∧ a1.toInt ≤ 40)) := fun μ => by
    rw [q_in, Int32.toInt_toInt64, show (0 : Int64).toInt = 0 from rfl, show (40 : Int64).toInt = 40 from rfl]
  have t1 : (a0 < 1) ↔ a0.toInt < 1 := by rw [fa_lt]; rfl
  have t20 : (20 < a0) ↔ 20 < a0.toInt := by rw [fa_lt]; rfl
  have t0 : (a1 < 0) ↔ a1.toInt < 0 := by rw [fa_lt]; rfl
  have t40 : (a1 ≤ 40) ↔ a1.toInt ≤ 40 := by rw [fa_le]; rfl
  by_cases ha : (1 ≤ a0.toInt ∧ a0.toInt ≤ 20) ∧ (0 ≤ a1.toInt ∧ a1.toInt ≤ 40)
  case neg =>
    refine okI_of (a := -1000001) (P := fun μ => μ = ν) ?_ ?_
    · unfold m_X8_spots
      simp only [t1, t20, t0, t40]
      by_cases q1 : a0.toInt < 1
      · rw [if_pos q1]; exact ok_s ⟨rfl, rfl⟩
      · rw [if_neg q1]
        by_cases q2 : 20 < a0.toInt
        · rw [if_pos q2]; exact ok_s ⟨rfl, rfl⟩
        · rw [if_neg q2]
          by_cases q3 : a1.toInt < 0
          · rw [if_pos q3]; exact ok_s ⟨rfl, rfl⟩
          · rw [if_neg q3, if_neg (by omega)]; exact ok_s ⟨rfl, rfl⟩
    · rintro μ rfl
      unfold m_X9_spots
      rw [ob_s, gi1, ob_s]
      by_cases q1 : 1 ≤ a0.toInt ∧ a0.toInt ≤ 20
      · rw [bI_t q1, if_neg (by decide), gi2, ob_s, bI_f (fun q => ha ⟨q1, q⟩), if_pos rfl]
        exact ok_s ⟨rfl, p, d, nc, ns, na, nb, c_x h (FrX.refl μ).w0⟩
      · rw [bI_f q1, if_pos rfl]
        exact ok_s ⟨rfl, p, d, nc, ns, na, nb, c_x h (FrX.refl μ).w0⟩
  obtain ⟨ha0, ha1⟩ := ha
  by_cases hz : nc = 0
  · refine okI_of (a := -1000002) (P := fun μ => μ = ν) ?_ ?_
    · unfold m_X8_spots
      simp only [t1, t20, t0, t40]
      rw [if_neg (by omega), if_neg (by omega), if_neg (by omega), if_pos (by omega), e11, mrd_p hp, ob_s, q_none e0 (by omega), ob_s, bI_t hz, if_neg (by decide)]
      exact ok_s ⟨rfl, rfl⟩
    · rintro μ rfl
      have m5 : u2 μ 106 0 0 106 5 = nI nc := c6.1
      unfold m_X9_spots
      rw [ob_s, gi1, ob_s, bI_t ha0, if_neg (by decide), gi2, ob_s, bI_t ha1, if_neg (by decide), m5, if_pos (by rw [hz]; rfl)]
      exact ok_s ⟨rfl, p, d, nc, ns, na, nb, c_x h (FrX.refl μ).w0⟩
  · have hz' : ¬ nI nc = 0 := by rw [x_eql (by omega) (by omega)]; exact hz
    obtain ⟨pv, hpv, rfl⟩ := nI_ex (n := 21) (a := a0) (by omega) (by omega)
    obtain ⟨t, ht, rfl⟩ := nI_ex (n := 41) (a := a1) (by omega) (by omega)
    have hpv1 : 1 ≤ pv := by rw [ti_n (by omega)] at ha0; omega
    refine okI_of2 (Q := SpR (nI pv) t nc (fun c => ν 23 c)) (P := fun μ => ∀ k, k ≠ 18 → μ k = ν k) SpR_u (p_spots hp e11 e0 hz hnc hpv1 (by omega) (by omega) x1 x2) ?_
    rintro μ f
    have hcore : Core μ p d nc ns na nb := by
      refine c_gen h ?_ ?_ ?_ ?_ (Or.inl ⟨?_, ?_⟩) (Or.inl ⟨?_, ?_, ?_, ?_, ?_⟩) (Or.inl ⟨?_, ?_⟩) (Or.inl ⟨?_, ?_⟩)
      · rw [f 0 (by omega), f 106 (by omega)]; exact c2.1
      · intro j _; rw [f 0 (by omega)]
      · intro j _; rw [f 106 (by omega)]
      · intro k hk; exact f k (by omega)
      · exact f 17 (by omega)
      · exact f 118 (by omega)
      · rw [f 0 (by omega)]
      · rw [f 106 (by omega)]
      · rw [f 106 (by omega)]
      · exact f 122 (by omega)
      · intro k a b; exact f k (by omega)
      · intro j _ _; rw [f 33 (by omega)]
      · exact f 36 (by omega)
      · rw [f 87 (by omega)]
      · exact f 88 (by omega)
    have m5 : μ 106 5 = nI nc := by rw [f 106 (by omega)]; exact c6.1
    have m5' : u2 μ 106 0 0 106 5 = nI nc := m5
    have hst : StIs μ x := by
      unfold StIs
      rw [f 106 (by omega), f 122 (by omega), f 117 (by omega)]
      exact x3
    have hRc : ∀ set, okS (nI pv) t nc (fun c => x.1 (24 + c)) set = okS (nI pv) t nc (fun c => ν 23 c) set := fun set => okS_c (fun c hc => ((x1.2.2.2 c hc).2.1).symm)
    unfold m_X9_spots
    simp only [zA]
    rw [ob_s, gi1, ob_s, bI_t ha0, if_neg (by decide), gi2, ob_s, bI_t ha1, if_neg (by decide), m5', if_neg hz']
    refine ok_for (fun sz ξ => FrX μ ξ ∧ ∀ b, b < 2 ^ nc → okS (nI pv) t nc (fun c => ν 23 c) b = true → sz ≤ pcN b nc) 0 4 (by omega) (by omega) rfl ⟨(FrX.refl μ).w0, fun b _ _ => by omega⟩ ?_ ?_
    · rintro sz ξ _ hsz ⟨k1, k2⟩
      simp only []
      rw [if_neg (by rw [x_lle (by omega) (by omega)]; omega)]
      refine ok_for (fun b ω => FrX μ ω ∧ ∀ b', b' < b → okS (nI pv) t nc (fun c => ν 23 c) b' = true → sz + 1 ≤ pcN b' nc) 0 (2 ^ nc) (Nat.zero_le _) (by omega) rfl ⟨k1, fun b hb => by omega⟩ ?_ ?_
      · rintro b ω _ hb ⟨l1, l2⟩
        have o5 : ω 106 5 = nI nc := by rw [l1.2 5 (by omega) (by omega)]; exact m5
        have hpc := pcN_le b nc
        simp only [o5, one_sh hnc]
        rw [if_neg (by rw [x_le (by omega) (by omega)]; omega)]
        refine r_pop hnc ?_
        by_cases hq : pcN b nc = sz
        · rw [if_pos (by rw [hq])]
          refine ok_b (R1 := fun q => (okS (nI pv) t nc (fun c => ν 23 c) b = true ∧ ∃ ω', FrX μ ω' ∧ q = Sum.inl (Sum.inr (Sum.inl (Sum.inr (Sum.inl (nI b, ω')))))) ∨ (¬ okS (nI pv) t nc (fun c => ν 23 c) b = true ∧ ∃ ω', FrX μ ω' ∧ q = Sum.inr ω')) ?_ ?_
          · refine r_try (st_fr hst l1) o5 hnc (by omega) (F := fun y ν36 => if y = 0 then some (Sum.inr ν36) else some (Sum.inl (Sum.inr (Sum.inl (Sum.inr (Sum.inl (nI b, ν36))))))) ?_
            intro ω' w1
            rw [hRc]
            by_cases ho : okS (nI pv) t nc (fun c => ν 23 c) b = true
            · simp only [bI_t ho, one0, if_false]
              exact ok_s (Or.inl ⟨ho, ω', l1.trans w1, rfl⟩)
            · simp only [bI_f ho, if_true]
              exact ok_s (Or.inr ⟨ho, ω', l1.trans w1, rfl⟩)
          · rintro q (⟨ho, ω', w1, rfl⟩ | ⟨ho, ω', w1, rfl⟩)
            · refine ok_s (Or.inr ⟨_, rfl, ok_s (Or.inr ⟨_, rfl, ok_s ⟨Or.inr ⟨b, hb, rfl, ho, by omega, fun b' hb' ho' => ?_, fun b' hb' ho' => ?_⟩, p, d, nc, ns, na, nb, c_x hcore w1⟩⟩)⟩)
              · have := k2 b' hb' ho'
                omega
              · have := l2 b' hb' ho'
                omega
            · simp only [jn, ob_s, n1]
              refine ok_s (Or.inl ⟨_, rfl, w1, fun b' hb' ho' => ?_⟩)
              by_cases hbb : b' = b
              · rw [hbb] at ho'; exact absurd ho' ho
              · exact l2 b' (by omega) ho'
        · rw [if_neg (by rw [x_eq (by omega) (by omega)]; exact hq)]
          simp only [ob_s, jn, n1]
          refine ok_s (Or.inl ⟨_, rfl, l1, fun b' hb' ho' => ?_⟩)
          by_cases hbb : b' = b
          · have := k2 b hb (by rw [← hbb]; exact ho')
            rw [hbb]
            omega
          · exact l2 b' (by omega) ho'
      · rintro ω ⟨l1, l2⟩
        have o5 : ω 106 5 = nI nc := by rw [l1.2 5 (by omega) (by omega)]; exact m5
        simp only [o5, one_sh hnc]
        rw [if_pos (by rw [x_le (by omega) (by omega)]; omega)]
        refine ok_s ⟨_, rfl, ?_⟩
        simp only [jn, ob_s, n1]
        exact ok_s (Or.inl ⟨_, rfl, l1, l2⟩)
    · rintro ξ ⟨k1, k2⟩
      simp only []
      rw [if_pos (by decide)]
      exact ok_s ⟨_, rfl, ok_s ⟨Or.inl ⟨rfl, k2⟩, p, d, nc, ns, na, nb, c_x hcore k1⟩⟩
