theorem r_mins {μ : MT} {nc : Nat} (e : μ 106 5 = nI nc) (hc : nc ≤ 12) (n : Nat) (hn : n ≤ 30) {x : RS} (h : NowIs μ x) {F : MT → Option MT} (hF : F = fun ν => some ν) :
    Ok ((loop (σ := Int32 × MT) (τ := MT) (fun (y11, ν12) => ((if nI n ≤ y11 then some (Sum.inr ν12) else (m_X9_minute Zc 106 ν12).bind fun ν18 => (some (y11 + 1)).bind fun x19 => some (Sum.inl (x19, ν18))) : Option ((Int32 × MT) ⊕ (MT)))) LN (0, μ)).bind F) (fun ν => NowIs ν (minsA nc n x) ∧ FrR μ ν) := by
  subst hF
  refine ok_for (fun i ν => ∃ y, NowIs ν y ∧ FrR μ ν ∧ minsA nc (n - i) y = minsA nc n x) 0 n (by omega) (by omega) rfl ⟨x, h, FrR.refl μ, rfl⟩ ?_ ?_
  · rintro i ν _ hi ⟨y, a1, a2, a3⟩
    simp (disch := omega) only [x_le, show ¬ n ≤ i by omega, if_false]
    refine ok_b (r_minute a1 (by rw [a2.2 5 (by omega)]; exact e) hc) ?_
    rintro ν2 ⟨b1, b2⟩
    simp only [ob_s, n1]
    refine ok_s (Or.inl ⟨_, rfl, minA nc y, b1, a2.trans b2, ?_⟩)
    rw [← a3, show n - i = (n - (i + 1)) + 1 by omega]
    rfl
  · rintro ν ⟨y, a1, a2, a3⟩
    simp (disch := omega) only [x_le, Nat.le_refl, if_true]
    refine ok_s ⟨_, rfl, ok_s ⟨?_, a2⟩⟩
    rw [Nat.sub_self] at a3
    rw [← a3]
    exact a1
theorem r_doAct {μ : MT} {x : RS} {nc a m : Nat} (h : NowIs μ x) (e : μ 106 5 = nI nc) (hc : nc ≤ 12) (ha : a < 40) (hA : ActOK nc (μ 110) a) (hb : Bd nc m x) (hm : m < 1000) : Ok (m_X9_doAct Zc 106 (nI a) μ) (fun ν => NowIs ν (acA nc (μ 110) a x) ∧ FrR μ ν) := by
  obtain ⟨k, c, q, hk, e1, e2, h7, h8, h9⟩ := hA
  unfold m_X9_doAct acA
  have hcl : c < 2147483648 := by by_cases k = 7 <;> omega
  simp (disch := omega) only [zA, zD, zE, ob_s, x_lt, x_ltl, x_llt, x_le, x_lel, x_lle, x_eq, x_eql, x_eqm, x_al, x_la, x_a, x_ml, x_lm, x_m, x_cl, if_true, if_false, jn, x_d4, x_d2, bz_b, bz_0, bz_1, and_self, not_true_eq_false, not_false_eq_true, true_and, and_true, e1, e2]
  by_cases k7 : k = 7
  · subst k7
    have := h7 rfl
    rw [if_pos rfl, if_pos rfl]
    exact r_mins e hc c (by omega) h rfl
  · have hcn := h8 k7
    simp only [show ¬ k + 1 = 8 by omega, if_false]
    by_cases k8 : k = 8
    · subst k8
      simp only [if_true, Nat.reduceAdd]
      obtain ⟨g1, g2, g3, g4⟩ := h
      refine ok_s ⟨⟨g1, g2, ?_, g4⟩, (FrR.refl μ).w (by omega)⟩
      intro k hk
      have := g3 k hk
      have e0 : vp_nar .boolean 1 = 1 := rfl
      simp only [u2_r, upd, e0]
      grind
    · simp only [show ¬ k + 1 = 9 by omega, if_false]
      by_cases k9 : k = 9
      · subst k9
        simp only [if_true, Nat.reduceAdd]
        refine ok_b (r_free h hc hcn) (fun ν hν => ok_s hν)
      · simp only [show ¬ k + 1 = 10 by omega, if_false]
        obtain ⟨q1, q2, q3⟩ := h9 (by omega)
        obtain ⟨_, ⟨g, b1, b2⟩, _⟩ := hb.2 c hcn
        rw [q3]
        refine ok_b (r_step h e hc hcn (by omega) (by omega) b1 (by omega)) (fun ν hν => ok_s hν)
/-- the acts of one seam, in the reference's way: all acts are looked at -/
theorem r_seam {μ : MT} {x : RS} {nc na k m : Nat} {wo : Int32} (h : NowIs μ x) (e5 : μ 106 5 = nI nc) (e7 : μ 106 7 = nI na) (hc : nc ≤ 12) (hna : na ≤ 40) (hk : k < 6) (hA : ∀ a, a < na → ActOK nc (μ 110) a) (hb : Bd nc m x) (hm : m + na < 1000) {γ : Type} {F : MT → Option γ} {R : γ → Prop}
    (hF : ∀ ν, NowIs ν (if μ 124 k = wo then x else seA nc na (μ 110) (μ 124 k) x) → FrR μ ν → Ok (F ν) R) :
    Ok ((loop (σ := Int32 × MT) (τ := MT) (fun (y25, ν26) => ((if (ν26 106 7) ≤ y25 then some (Sum.inr ν26) else (ald Zc ν26 110 ((4 * y25) + 3)).bind fun x34 => (ald Zc ν26 124 (nI k)).bind fun x36 => (((if x34 = x36 then (ald Zc ν26 124 (nI k)).bind fun x42 => (if x42 = wo then some ν26 else (m_X9_doAct Zc 106 y25 ν26).bind fun ν43 => some ν43) else some ν26) : Option (MT))).bind (fun ν37 => (some (y25 + 1)).bind fun x40 => some (Sum.inl (x40, ν37)))) : Option ((Int32 × MT) ⊕ (MT)))) LN (0, μ)).bind F) R := by
  refine ok_for (fun i ν => FrR μ ν ∧ Bd nc (m + i) (if μ 124 k = wo then x else (List.range i).foldl (fun x a => if μ 110 (4 * a + 3) = μ 124 k then acA nc (μ 110) a x else x) x) ∧ NowIs ν (if μ 124 k = wo then x else (List.range i).foldl (fun x a => if μ 110 (4 * a + 3) = μ 124 k then acA nc (μ 110) a x else x) x)) 0 na (by omega) (by omega) rfl ⟨FrR.refl μ, ?_, ?_⟩ ?_ ?_
  · simpa using hb
  · simpa using h
  · rintro i ν _ hi ⟨f, b, g⟩
    have f110 : ν 110 = μ 110 := f.1 110 (by omega) (by omega) (by omega) (by omega)
    have f124 : ν 124 = μ 124 := f.1 124 (by omega) (by omega) (by omega) (by omega)
    simp (disch := omega) only [f.2, e7, zA, zD, zE, ob_s, x_lt, x_ltl, x_llt, x_le, x_lel, x_lle, x_eq, x_eql, x_eqm, x_al, x_la, x_a, x_ml, x_lm, x_m, x_cl, if_true, if_false, jn, x_d4, x_d2, bz_b, bz_0, bz_1, and_self, not_true_eq_false, not_false_eq_true, true_and, and_true, show ¬ na ≤ i by omega, f110, f124]
    by_cases hw : μ 124 k = wo
    · simp only [hw, if_true] at g b ⊢
      have hif : (if μ 110 (4 * i + 3) = wo then some ν else some ν) = some ν := by split <;> rfl
      rw [hif, ob_s]
      exact ok_s (Or.inl ⟨_, rfl, f, bd_mono b (by omega), g⟩)
    · simp only [hw, if_false] at g b ⊢
      rw [List.range_succ, List.foldl_append]
      simp only [List.foldl_cons, List.foldl_nil]
      by_cases hs : μ 110 (4 * i + 3) = μ 124 k
      · simp only [hs, if_true]
        have := r_doAct (μ := ν) (a := i) g (by rw [f.2 5 (by omega)]; exact e5) hc (by omega) (by rw [f110]; exact hA i hi) b (by omega)
        obtain ⟨ν2, t1, t2, t3⟩ := this
        rw [t1]
        simp only [ob_s]
        rw [f110] at t2
        exact ok_s (Or.inl ⟨_, rfl, f.trans t3, bd_ac (m := m + i) b hc (hA i hi) (by omega), t2⟩)
      · simp only [hs, if_false, ob_s]
        exact ok_s (Or.inl ⟨_, rfl, f, bd_mono b (by omega), g⟩)
  · rintro ν ⟨f, b, g⟩
    simp (disch := omega) only [f.2, e7, x_le, Nat.le_refl, if_true]
    exact ok_s ⟨_, rfl, hF ν g f⟩
theorem r_go {μ : MT} {nc ns na : Nat} {wo : Int32} (e5 : μ 106 5 = nI nc) (e6 : μ 106 6 = nI ns) (e7 : μ 106 7 = nI na) (hc : nc ≤ 12) (hns : ns ≤ 6) (hna : na ≤ 40) (hA : ∀ a, a < na → ActOK nc (μ 110) a) (hB : ∀ c, c < 12 → -40 ≤ (μ 123 c).toInt ∧ (μ 123 c).toInt ≤ 40) : Ok (m_X9_go Zc 106 wo μ) (fun ν => NowIs ν (goA nc ns na (μ 110) (μ 123) (μ 124) wo) ∧ FrR μ ν) := by
  unfold m_X9_go
  simp only [zA]
  refine ok_for (fun i ν => FrR μ ν ∧ (∀ k, k < i → ν 119 k = (bgA (μ 123)).1 k) ∧ (∀ c, c < 12 → c < i → ν 120 c = 0) ∧ (∀ c, c < 12 → c < i → ν 121 c = 0)) 0 48 (by omega) (by omega) rfl ⟨FrR.refl μ, fun k hk => by omega, fun c _ hk => by omega, fun c _ hk => by omega⟩ ?_ ?_
  · rintro i ν _ hi ⟨f, g1, g2, g3⟩
    have f123 : ν 123 = μ 123 := f.1 123 (by omega) (by omega) (by omega) (by omega)
    have hr : irm (nI i) 12 = some (nI (i % 12)) := by
      unfold irm
      rw [if_neg (by decide)]
      congr 1
      exact pk_rem (a := i) (d := 12) (by omega) (by omega) (by omega)
    have hz : ((m_X9_in Zc (nI i).toInt64 24 35 ν).bind fun r45 => (if r45 = 0 then some 0 else (ald Zc ν 123 (nI i - 24)).bind fun x58 => some x58)) = some ((bgA (μ 123)).1 i) := by
      rw [q_in, Int32.toInt_toInt64, ti_n (by omega), show (24 : Int64).toInt = 24 from rfl, show (35 : Int64).toInt = 35 from rfl, ob_s]
      unfold bgA
      by_cases h24 : 24 ≤ i ∧ i < 36
      · rw [bI_t (by omega), if_neg (by decide), x_sl (by omega), al_123 (by omega), ob_s, f123]
        simp [h24]
      · rw [bI_f (by omega), if_pos rfl]
        simp [h24]
    simp (disch := omega) only [x_lle, show ¬ 48 ≤ i by omega, if_false]
    have hz2 : ∀ G : Int32 → Option ((Int32 × MT) ⊕ MT), ((m_X9_in Zc (nI i).toInt64 24 35 ν).bind fun r45 => ((if r45 = 0 then some 0 else (ald Zc ν 123 (nI i - 24)).bind fun x58 => some x58 : Option Int32)).bind G) = G ((bgA (μ 123)).1 i) := fun G => by
      rw [← Option.bind_assoc, hz, ob_s]
    rw [hz2, hr]
    simp (disch := omega) only [zA, zD, zE, ob_s, x_lt, x_ltl, x_llt, x_le, x_lel, x_lle, x_eq, x_eql, x_eqm, x_al, x_la, x_a, x_ml, x_lm, x_m, x_cl, if_true, if_false, jn, x_d4, x_d2, bz_b, bz_0, bz_1, and_self, not_true_eq_false, not_false_eq_true, true_and, and_true]
    have e0 : vp_nar .boolean 0 = 0 := rfl
    refine ok_s (Or.inl ⟨_, rfl, ((f.w (by omega)).w (by omega)).w (by omega), ?_, ?_, ?_⟩)
    · intro k hk
      have := g1 k
      simp only [u2_r]
      grind
    · intro c hc hk
      have := g2 c hc
      simp only [u2_r]
      by_cases hci : c = i % 12
      · simp [hci]
      · have : ν 120 c = 0 := this (by omega)
        simp [hci, this]
    · intro c hc hk
      have := g3 c hc
      simp only [u2_r, e0]
      by_cases hci : c = i % 12
      · simp [hci]
      · have : ν 121 c = 0 := this (by omega)
        simp [hci, this]
  · rintro ν0 ⟨f0, g1, g2, g3⟩
    simp (disch := omega) only [x_lle, Nat.le_refl, if_true]
    refine ok_s ⟨_, rfl, ?_⟩
    simp only [ob_s]
    have hn0 : NowIs (u2 ν0 106 35 0) (bgA (μ 123)) := ⟨fun k hk => g1 k hk, fun c hc => g2 c hc (by omega), fun c hc => g3 c hc (by omega), by simp [u2_r, bgA]⟩
    have hf0 : FrR μ (u2 ν0 106 35 0) := f0.w35
    generalize u2 ν0 106 35 0 = ν1 at hn0 hf0
    refine ok_for (fun i ν => FrR μ ν ∧ NowIs ν (sesA nc na (μ 110) wo (μ 124) i (bgA (μ 123)))) 0 ns (by omega) (by omega) rfl ⟨hf0, hn0⟩ ?_ ?_
    · rintro i ν _ hi ⟨f, g⟩
      have f110 : ν 110 = μ 110 := f.1 110 (by omega) (by omega) (by omega) (by omega)
      have f124 : ν 124 = μ 124 := f.1 124 (by omega) (by omega) (by omega) (by omega)
      simp (disch := omega) only [f.2 6, e6, x_le, show ¬ ns ≤ i by omega, if_false]
      refine r_seam (nc := nc) (na := na) (wo := wo) (m := 0 + 40 * i) g (by rw [f.2 5 (by omega)]; exact e5) (by rw [f.2 7 (by omega)]; exact e7) hc hna (by omega) (by rw [f110]; exact hA) (bd_ses hc hna hA i 0 _ (bd_bg hc hB) (by omega)) (by omega) ?_
      intro ν2 t1 t2
      simp only [ob_s, n1]
      refine ok_s (Or.inl ⟨_, rfl, f.trans t2, ?_⟩)
      unfold sesA
      rw [List.range_succ, List.foldl_append]
      rw [f110, f124] at t1
      exact t1
    · rintro ν2 ⟨f2, g⟩
      simp (disch := omega) only [f2.2 6, e6, x_le, Nat.le_refl, if_true]
      refine ok_s ⟨_, rfl, ?_⟩
      refine ok_for (fun i ν => FrR μ ν ∧ NowIs ν ((List.range i).foldl (fun x c => frA c x) (sesA nc na (μ 110) wo (μ 124) ns (bgA (μ 123))))) 0 nc (by omega) (by omega) rfl ⟨f2, g⟩ ?_ ?_
      · rintro i ν _ hi ⟨f, g⟩
        simp (disch := omega) only [f.2 5, e5, x_le, show ¬ nc ≤ i by omega, if_false]
        refine ok_b (r_free g hc hi) ?_
        rintro ν3 ⟨t1, t2⟩
        simp only [ob_s, n1]
        refine ok_s (Or.inl ⟨_, rfl, f.trans t2, ?_⟩)
        rw [List.range_succ, List.foldl_append]
        exact t1
      · rintro ν ⟨f, g⟩
        simp (disch := omega) only [f.2 5, e5, x_le, Nat.le_refl, if_true]
        exact ok_s ⟨_, rfl, ok_s ⟨g, f⟩⟩
