/-! ===== best, kept ===== -/
theorem p_look {μ : MT} {p nc ns na nb : Nat} {w : Nat → Nat} (hp : isPl p) (hc4 : 4 ≤ nc) (hpl : PlIs μ p nc ns na nb) (hw : NdA ns nb (μ 111) (μ 112) w) (hw2 : ∀ s, s < ns → μ (p + 6) s = nI (w s)) (hB : ∀ c, c < 12 → μ 16 c = μ 117 c ∧ -40 ≤ (μ 117 c).toInt ∧ (μ 117 c).toInt ≤ 40) (hse : ISe nc ns na nb (μ 110) (μ 111) (μ 112) (μ 117) (μ 33 4) (μ 33 5) (μ 33 6) (μ 36)) :
    Ok (m_X5_look Zc 33 p 16 μ) (fun ν => ν 33 4 = 1 ∧ SeI ns (ν 33 5) (ν 33 6) (ν 36) (bestA nc ns na nb (μ 110) (μ 111) (μ 112) (μ 117)) ∧ ∀ k, k ≠ 33 → k ≠ 35 → k ≠ 36 → k < 38 ∨ 86 < k → ν k = μ k) := by
  obtain ⟨hnc, hns, hna, hnb⟩ := pl_bd hpl
  have hpl2 := isPl_le hp
  unfold m_X5_look
  rcases hse with h0 | ⟨h1, h2⟩
  · rw [if_pos h0]
    simp only [ob_s, zA]
    have h34 : ard Zc 34 0 = some 38 := ard_34 (s := 0) (by omega)
    rw [h34, ob_s]
    have g : ∀ k, k ≠ 33 → u2 (u2 μ 33 4 1) 33 5 0 k = μ k := fun k hk => by rw [u2_w, if_neg hk, u2_w, if_neg hk]
    have g4 : u2 (u2 μ 33 4 1) 33 5 0 33 4 = 1 := by simp [u2_r]
    have g5 : u2 (u2 μ 33 4 1) 33 5 0 33 5 = 0 := by simp [u2_r]
    generalize u2 (u2 μ 33 4 1) 33 5 0 = μ1 at g g4 g5 ⊢
    rw [g p (by omega), hpl.1.1]
    have hb38 : isPn 38 := isPn_d (d := 0) (by omega)
    refine ok_b (p_begin (nc := nc) hb38 (k := 16) (by simp only [zA]) (by omega) hnc) ?_
    rintro μ2 ⟨k1, k2⟩
    rw [g 16 (by omega), bgA_c (B' := μ 117) (fun c hc => (hB c hc).1)] at k1
    have fp : PlIs μ2 p nc ns na nb := by
      refine pl_fr hb38 hp k2 ?_
      unfold PlIs
      rw [g p (by omega), g (p + 1) (by omega), g (p + 2) (by omega), g (p + 3) (by omega), g (p + 4) (by omega), g (p + 5) (by omega), g (p + 6) (by omega), g 110 (by omega), g 111 (by omega), g 112 (by omega)]
      exact hpl
    have e110 : μ2 110 = μ 110 := by rw [k2 110 (by omega), g 110 (by omega)]
    have e33 : μ2 33 = μ1 33 := k2 33 (by omega)
    have ht := p_tryFrom (p := p) (nc := nc) (ns := ns) (na := na) (nb := nb) (A := μ 110) (B := μ 117) (w := w) hp hc4 hns (fun c hc => (hB c hc).2) (fun s hs => (hw.2 s hs).1) ns 8 0 [] none μ2 (by omega) (by omega) rfl (fun q hq => by simp at hq) fp e110 (fun s hs => by rw [k2 (p + 6) (by omega), g (p + 6) (by omega)]; exact hw2 s hs) k1 (bd_bg hnc (fun c hc => (hB c hc).2)) (fun k hk => by omega) (by
      rw [e33]; exact g5)
    refine ok_b ht ?_
    rintro ν ⟨m1, m2, m3⟩
    refine ok_s ⟨?_, ?_, fun k a b c e => ?_⟩
    · rw [m2.2 4 (by omega) (by omega), e33]; exact g4
    · rw [best_pv hw hns]; exact m1
    · rw [m2.1 k a b c (by omega), k2 k (by omega), g k a]
  · rw [if_neg (by rw [h1]; decide)]
    refine ok_s ⟨h1, ?_, fun _ _ _ _ _ => rfl⟩
    unfold SeI
    cases hq : bestA nc ns na nb (μ 110) (μ 111) (μ 112) (μ 117) with
    | none => rw [hq] at h2; exact h2
    | some q => rw [hq] at h2; exact h2
theorem mx_nn {nc : Nat} {N : Nat → Int32} : ∀ n, 0 ≤ (mxA nc N n).toInt
  | 0 => by
    show (0 : Int) ≤ (0 : Int32).toInt
    decide
  | n + 1 => by
    rw [mxA]
    have := mx_nn (nc := nc) (N := N) n
    split
    · rename_i h
      rw [fa_lt] at h
      omega
    · exact this
theorem off_nn {nc : Nat} {N : Nat → Int32} (h4 : 4 ≤ nc) (h12 : nc ≤ 12) : 0 ≤ (offA nc N).toInt := by
  unfold offA
  rw [ti_div (by rw [ti_n (by omega)]; omega)]
  exact Int.tdiv_nonneg (mx_nn _) (by rw [ti_n (by omega)]; omega)
theorem off_nN {nc : Nat} {N : Nat → Int32} (h4 : 4 ≤ nc) (h12 : nc ≤ 12) : ¬ offA nc N = -1000000 := fun hq => by
  have := off_nn (N := N) h4 h12
  rw [hq] at this
  exact absurd this (by decide)
/-- the reference's finds so far -/
def RbI (ns : Nat) (le : Int32) (bo : Nat → Int32) (acc : Option (Int32 × List Nat)) : Prop :=
  match acc with
  | none => le = -1000000
  | some q => le = q.1 ∧ ¬ q.1 = -1000000 ∧ ∀ k, k < ns → bo k = orA q.2 k
def ansB (ns : Nat) (a : Int32) (acc : Option (Int32 × List Nat)) : Int32 :=
  match acc with
  | none => -1000000
  | some q => if a = -1 then q.1 else if a.toInt < ns then orA q.2 a.toInt.toNat else -1000000
theorem r_bcopy {μ : MT} {γ : Type} {F : MT → Option γ} {R : γ → Prop} (hF : Ok (F (u1 μ 125 (fun c => if c < 6 then μ 124 c else μ 125 c))) R) :
    Ok ((loop (σ := Int32 × MT) (τ := MT) (fun (y30, ν31) => ((if 6 ≤ y30 then some (Sum.inr ν31) else (ald Zc ν31 124 y30).bind fun x39 => (ast Zc ν31 125 y30 x39).bind fun ν40 => (some (y30 + 1)).bind fun x41 => some (Sum.inl (x41, ν40))) : Option ((Int32 × MT) ⊕ (MT)))) LN (0, μ)).bind F) R := by
  refine ok_for (fun i ν => ν = u1 μ 125 (fun c => if c < i then μ 124 c else μ 125 c)) 0 6 (by omega) (by omega) rfl ?_ ?_ ?_
  · funext k j
    simp only [u1_r]
    by_cases h : k = 125 <;> simp [h]
  · rintro i ν _ hi rfl
    simp (disch := omega) only [zA, zD, zE, ob_s, x_lt, x_ltl, x_llt, x_le, x_lel, x_lle, x_eq, x_eql, x_eqm, x_al, x_la, x_a, x_ml, x_lm, x_m, x_cl, if_true, if_false, jn, x_d4, x_d2, bz_b, bz_0, bz_1, and_self, not_true_eq_false, not_false_eq_true, true_and, and_true, show ¬ 6 ≤ i by omega]
    refine ok_s (Or.inl ⟨_, rfl, ?_⟩)
    funext k j
    simp only [u1_r, u2_r]
    by_cases h : k = 125
    · subst h
      by_cases hj : j = i
      · subst hj; simp
      · have : (j < i + 1) = (j < i) := by apply propext; omega
        simp [hj, this]
    · simp [h]
  · rintro ν rfl
    simp (disch := omega) only [zA, zD, zE, ob_s, x_lt, x_ltl, x_llt, x_le, x_lel, x_lle, x_eq, x_eql, x_eqm, x_al, x_la, x_a, x_ml, x_lm, x_m, x_cl, if_true, if_false, jn, x_d4, x_d2, bz_b, bz_0, bz_1, and_self, not_true_eq_false, not_false_eq_true, true_and, and_true, Nat.le_refl]
    exact ok_s ⟨_, rfl, hF⟩
theorem op_best {ν : MT} (h : Inv ν) (a0 : Int32) : OkI Inv (m_X8_best Zc 127 0 a0 ν) (fun μ => m_X9_best Zc 106 a0 μ) := by
  obtain ⟨p, d, nc, ns, na, nb, h⟩ := h
  obtain ⟨c1, c2, c3, ⟨hp, hd, hpd, e11, e12⟩, c5, c6, c7, c8, c9, c10, c11, c12, c13⟩ := id h
  obtain ⟨hnc, hns, hna, hnb⟩ := pl_bd c5
  have hpl2 := isPl_le hp
  have e0 := c5.1.1
  have e1 := c5.1.2.1
  by_cases ha : -1 ≤ a0
  case neg =>
    refine okI_of (a := -1000001) (P := fun μ => μ = ν) ?_ ?_
    · unfold m_X8_best
      rw [if_neg ha]
      exact ok_s ⟨rfl, rfl⟩
    · rintro μ rfl
      unfold m_X9_best
      rw [ob_s, if_neg ha]
      exact ok_s ⟨rfl, p, d, nc, ns, na, nb, c_x h (FrX.refl μ).w0⟩
  by_cases hz : nc = 0
  · refine okI_of (a := -1000002) (P := fun μ => μ = ν) ?_ ?_
    · unfold m_X8_best
      rw [if_pos ha, e11, mrd_p hp, ob_s, q_none e0 (by omega), ob_s, bI_t hz, if_neg (by decide)]
      exact ok_s ⟨rfl, rfl⟩
    · rintro μ rfl
      have m5 : u2 μ 106 0 0 106 5 = nI nc := c6.1
      unfold m_X9_best
      rw [ob_s, if_pos ha, m5, if_pos (by rw [hz]; rfl)]
      exact ok_s ⟨rfl, p, d, nc, ns, na, nb, c_x h (FrX.refl μ).w0⟩
  have hz' : ¬ nI nc = 0 := by rw [x_eql (by omega) (by omega)]; exact hz
  have hc4 : 4 ≤ nc := by have := c5.2.1; omega
  obtain ⟨w, hw, hw2⟩ := nd_ex c5
  have hlo : -1 ≤ a0.toInt := by rw [fa_le] at ha; exact ha
  have hane : ∀ q : Nat, ¬ a0 = -1 → 0 ≤ a0.toInt := fun _ hq => by
    have : ¬ a0.toInt = -1 := fun hh => hq (by rw [fa_eq]; exact hh)
    omega
  refine okI_of (a := ansB ns a0 (bestA nc ns na nb (ν 110) (ν 111) (ν 112) (ν 117))) (P := fun μ => μ 33 4 = 1 ∧ SeI ns (μ 33 5) (μ 33 6) (μ 36) (bestA nc ns na nb (ν 110) (ν 111) (ν 112) (ν 117)) ∧ ∀ k, k ≠ 33 → k ≠ 35 → k ≠ 36 → k < 38 ∨ 86 < k → μ k = ν k) ?_ ?_
  · unfold m_X8_best
    rw [if_pos ha, e11, mrd_p hp, ob_s, q_none e0 (by omega), ob_s, bI_f hz, if_pos rfl, ob_s]
    simp only [zA]
    refine ok_b (p_look hp hc4 c5 hw hw2 c7 c10) ?_
    rintro μ ⟨g1, g2, g3⟩
    have hP := And.intro g1 (And.intro g2 g3)
    generalize bestA nc ns na nb (ν 110) (ν 111) (ν 112) (ν 117) = acc at g2 hP ⊢
    cases acc with
    | none =>
      have g5 : μ 33 5 = 0 := g2
      rw [if_pos g5]
      exact ok_s ⟨rfl, hP⟩
    | some q =>
      obtain ⟨g5, g6, g7⟩ : μ 33 5 = 1 ∧ μ 33 6 = q.1 ∧ ∀ k, k < ns → μ 36 k = orA q.2 k := g2
      rw [if_neg (by rw [g5]; decide)]
      unfold ansB
      by_cases hm : a0 = -1
      · rw [if_pos hm]
        exact ok_s ⟨by simp only [if_pos hm]; exact g6, hP⟩
      · have h0 := hane 0 hm
        rw [if_neg hm, g3 0 (by omega) (by omega) (by omega) (by omega), e11, mrd_p hp, ob_s, q_hasSeam (show μ p 1 = nI ns by rw [g3 p (by omega) (by omega) (by omega) (by omega)]; exact e1) (by omega), ob_s]
        simp only [if_neg hm]
        by_cases hs : a0.toInt < ns
        · rw [bI_t ⟨h0, hs⟩, if_neg (by decide)]
          obtain ⟨s, hs1, rfl⟩ := nI_ex (n := ns) h0 hs
          rw [al_36 (by omega), ob_s]
          refine ok_s ⟨?_, hP⟩
          rw [if_pos hs, g7 s hs1, ti_n (by omega)]
          rfl
        · rw [bI_f (fun hq => hs hq.2), if_pos rfl]
          exact ok_s ⟨by simp only [if_neg hs], hP⟩
  · rintro μ ⟨f1, f2, f⟩
    have fk : ∀ k, k < 33 ∨ 86 < k → μ k = ν k := fun k hk => f k (by omega) (by omega) (by omega) (by omega)
    have hcore : Core μ p d nc ns na nb := by
      refine c_gen h ?_ ?_ ?_ ?_ (Or.inl ⟨?_, ?_⟩) (Or.inl ⟨?_, ?_, ?_, ?_, ?_⟩) (Or.inr (Or.inr ⟨f1, ?_⟩)) (Or.inl ⟨?_, ?_⟩)
      · rw [fk 0 (by omega), fk 106 (by omega)]; exact c2.1
      · intro j _; rw [fk 0 (by omega)]
      · intro j _; rw [fk 106 (by omega)]
      · intro k hk; exact fk k (by omega)
      · exact fk 17 (by omega)
      · exact fk 118 (by omega)
      · rw [fk 0 (by omega)]
      · rw [fk 106 (by omega)]
      · rw [fk 106 (by omega)]
      · exact fk 122 (by omega)
      · intro k a b; exact fk k (by omega)
      · rw [fk 110 (by omega), fk 111 (by omega), fk 112 (by omega), fk 117 (by omega)]
        unfold SeI at f2
        cases hq : bestA nc ns na nb (ν 110) (ν 111) (ν 112) (ν 117) with
        | none => rw [hq] at f2; exact f2
        | some q => rw [hq] at f2; exact f2
      · rw [fk 87 (by omega)]
      · exact fk 88 (by omega)
    have m106 : μ 106 = ν 106 := fk 106 (by omega)
    have m5 : u2 μ 106 0 0 106 5 = nI nc := by rw [u2_r, if_neg (by omega), m106]; exact c6.1
    have hch := pl_chain ns (by omega)
    have hhd := pl_head ns (by omega)
    have hln := pl_len ns (by omega)
    have hmem : ∀ l, l ∈ pmA ns ns [] → ∀ k, k < ns → l.getD k 0 < 1000 := fun l hl k hk => by
      obtain ⟨a1, a2, _⟩ := pl_facts hns hl
      have := getD_lt a2 (k := k) (by omega)
      omega
    unfold bestA
    generalize pmA ns ns [] = PL at hch hhd hln hmem ⊢
    unfold m_X9_best
    rw [ob_s, if_pos ha, m5, if_neg hz', r_layN, ob_s, r_layO, ob_s]
    simp only [zA]
    have fx0 : FrX μ (u1 (u2 μ 106 0 0) 124 (fun c => if c < 6 then nI c else u2 μ 106 0 0 124 c)) := (FrX.refl μ).w0.w1 (by omega)
    have o0 : OrI (u1 (u2 μ 106 0 0) 124 (fun c => if c < 6 then nI c else u2 μ 106 0 0 124 c)) ns (fun j => (List.range ns).getD j 0) := fun k hk => by
      rw [u1_r, if_pos rfl, if_pos (by omega)]
      simp [List.getD, hk]
    generalize u1 (u2 μ 106 0 0) 124 (fun c => if c < 6 then nI c else u2 μ 106 0 0 124 c) = μ0 at fx0 o0 ⊢
    have fx : FrX μ (u1 μ0 123 (fun c => if c < 12 then μ0 117 c else μ0 123 c)) := fx0.w1 (by omega)
    have o1 : OrI (u1 μ0 123 (fun c => if c < 12 then μ0 117 c else μ0 123 c)) ns (fun j => (List.range ns).getD j 0) := fun k hk => by
      rw [u1_w, if_neg (by omega)]; exact o0 k hk
    have o123 : ∀ c, c < 12 → u1 μ0 123 (fun c => if c < 12 then μ0 117 c else μ0 123 c) 123 c = ν 117 c := fun c hc => by
      rw [u1_r, if_pos rfl, if_pos hc, fx0.1 117 (by omega) (by omega), fk 117 (by omega)]
    generalize u1 μ0 123 (fun c => if c < 12 then μ0 117 c else μ0 123 c) = μ1 at fx o1 o123 ⊢
    obtain ⟨r0, hr0⟩ : ∃ r0, PL = List.range ns :: r0 := by
      cases PL with
      | nil => simp at hhd
      | cons a b => simp at hhd; exact ⟨b, by rw [hhd]⟩
    refine ok_l (fun m s => FrX μ s.2.2 ∧ (∀ c, c < 12 → s.2.2 123 c = ν 117 c) ∧ ((s.2.1 = 0 ∧ RbI ns s.1 (s.2.2 125) (PL.foldl (bsA nc ns na nb (ν 110) (ν 111) (ν 112) (ν 117)) none)) ∨ (s.2.1 = 1 ∧ ∃ pre l r, PL = pre ++ l :: r ∧ m = r.length + 1 ∧ RbI ns s.1 (s.2.2 125) (pre.foldl (bsA nc ns na nb (ν 110) (ν 111) (ν 112) (ν 117)) none) ∧ OrI s.2.2 ns (fun j => l.getD j 0)))) (r0.length + 1) (by rw [hr0] at hln; simp at hln; omega) ⟨fx, o123, Or.inr ⟨rfl, [], List.range ns, r0, by rw [hr0]; rfl, rfl, show RbI ns (-1000000) (μ1 125) none from rfl, o1⟩⟩ ?_
    rintro m ⟨y4, y5, ξ⟩ ⟨g1, g123, g2⟩
    simp only at g1 g2 g123 ⊢
    rcases g2 with ⟨k1, k2⟩ | ⟨k1, pre, l, r, k2, k3, k4, k5⟩
    · subst k1
      rw [if_pos rfl]
      refine ok_s (Or.inl ⟨_, rfl, ?_⟩)
      have hinv : Inv ξ := ⟨p, d, nc, ns, na, nb, c_x hcore g1⟩
      generalize PL.foldl (bsA nc ns na nb (ν 110) (ν 111) (ν 112) (ν 117)) none = acc at k2 ⊢
      have x6 : ξ 106 6 = nI ns := by rw [g1.2 6 (by omega) (by omega), m106]; exact c6.2.1
      simp only [x6]
      cases acc with
      | none =>
        have g5 : y4 = -1000000 := k2
        by_cases hm : a0 = -1
        · rw [if_pos hm]
          exact ok_s ⟨g5, hinv⟩
        · rw [if_neg hm, if_pos g5, ob_s]
          exact ok_s ⟨rfl, hinv⟩
      | some q =>
        obtain ⟨g5, g6, g7⟩ : y4 = q.1 ∧ ¬ q.1 = -1000000 ∧ ∀ k, k < ns → ξ 125 k = orA q.2 k := k2
        unfold ansB
        by_cases hm : a0 = -1
        · rw [if_pos hm]
          exact ok_s ⟨by simp only [if_pos hm]; exact g5, hinv⟩
        · have h0 := hane 0 hm
          rw [if_neg hm, if_neg (by rw [g5]; exact g6)]
          simp only [if_neg hm]
          by_cases hs : a0.toInt < ns
          · rw [if_pos (show a0 < nI ns by rw [fa_lt, ti_n (by omega)]; exact hs)]
            obtain ⟨s, hs1, rfl⟩ := nI_ex (n := ns) h0 hs
            rw [al_125 (by omega), ob_s, ob_s]
            refine ok_s ⟨?_, hinv⟩
            rw [if_pos hs, g7 s hs1, ti_n (by omega)]
            rfl
          · rw [if_neg (show ¬ a0 < nI ns by rw [fa_lt, ti_n (by omega)]; exact hs), ob_s]
            exact ok_s ⟨by simp only [if_neg hs], hinv⟩
    · subst k1
      have x5 : ξ 106 5 = nI nc := by rw [g1.2 5 (by omega) (by omega), m106]; exact c6.1
      have x6 : ξ 106 6 = nI ns := by rw [g1.2 6 (by omega) (by omega), m106]; exact c6.2.1
      have x7 : ξ 106 7 = nI na := by rw [g1.2 7 (by omega) (by omega), m106]; exact c6.2.2.1
      have x8 : ξ 106 8 = nI nb := by rw [g1.2 8 (by omega) (by omega), m106]; exact c6.2.2.2
      have x110 : ξ 110 = ν 110 := by rw [g1.1 110 (by omega) (by omega), fk 110 (by omega)]
      have x111 : ξ 111 = ν 111 := by rw [g1.1 111 (by omega) (by omega), fk 111 (by omega)]
      have x112 : ξ 112 = ν 112 := by rw [g1.1 112 (by omega) (by omega), fk 112 (by omega)]
      rw [if_neg (by decide), r_fits x6 x8 hns hnb, ob_s, x111, x112, ftA_c (O' := orA l) k5]
      have hl : l ∈ PL := by rw [k2]; simp
      have hlm := hmem l hl
      have hsn : (pre ++ [l]).foldl (bsA nc ns na nb (ν 110) (ν 111) (ν 112) (ν 117)) none = bsA nc ns na nb (ν 110) (ν 111) (ν 112) (ν 117) (pre.foldl (bsA nc ns na nb (ν 110) (ν 111) (ν 112) (ν 117)) none) l := by
        rw [List.foldl_append]; rfl
      have hchk := chk_suf (pre := pre) (by rw [← k2]; exact hch)
      refine ok_b (R1 := fun q => FrX μ q.2 ∧ (∀ c, c < 12 → q.2 123 c = ν 117 c) ∧ RbI ns q.1 (q.2 125) ((pre ++ [l]).foldl (bsA nc ns na nb (ν 110) (ν 111) (ν 112) (ν 117)) none) ∧ OrI q.2 ns (fun j => l.getD j 0)) ?_ ?_
      · rw [hsn]
        generalize pre.foldl (bsA nc ns na nb (ν 110) (ν 111) (ν 112) (ν 117)) none = acc at k4 ⊢
        unfold bsA
        by_cases hft : ftA ns nb (ν 111) (ν 112) (orA l) = true
        · rw [bI_t hft, if_neg (by decide), if_pos hft]
          have hgo := r_go (μ := ξ) (wo := -1000000) x5 x6 x7 hnc hns hna (by rw [x110]; exact pl_act c5) (fun c hc => by rw [g123 c hc]; exact (c7 c hc).2)
          have hX : goA nc ns na (ξ 110) (ξ 123) (ξ 124) (-1000000) = goA nc ns na (ν 110) (ν 117) (orA l) (-1) := by
            rw [x110]
            refine goA_c g123 (fun k hk => k5 k hk) (fun k hk => ?_)
            have := hlm k hk
            rw [k5 k hk]
            exact ⟨fun q => absurd q (mNn (by omega)), fun q => absurd q (m1n (by omega))⟩
          rw [hX] at hgo
          refine ok_b hgo ?_
          rintro ξ2 ⟨n1', n2⟩
          rw [r_off (by rw [n2.2 5 (by omega)]; exact x5) hc4 hnc, ob_s, offA_c (N' := (goA nc ns na (ν 110) (ν 117) (orA l) (-1)).1) (fun c hc => n1'.1 _ (by omega))]
          have hnN := off_nN (N := (goA nc ns na (ν 110) (ν 117) (orA l) (-1)).1) hc4 hnc
          generalize offA nc (goA nc ns na (ν 110) (ν 117) (orA l) (-1)).1 = off at hnN ⊢
          have fx2 : FrX μ ξ2 := g1.trans (FrX.of n2)
          have z123 : ξ2 123 = ξ 123 := n2.1 123 (by omega) (by omega) (by omega) (by omega)
          have z124 : ξ2 124 = ξ 124 := n2.1 124 (by omega) (by omega) (by omega) (by omega)
          have z125 : ξ2 125 = ξ 125 := n2.1 125 (by omega) (by omega) (by omega) (by omega)
          have htake : Ok ((loop (σ := Int32 × MT) (τ := MT) (fun (y30, ν31) => ((if 6 ≤ y30 then some (Sum.inr ν31) else (ald Zc ν31 124 y30).bind fun x39 => (ast Zc ν31 125 y30 x39).bind fun ν40 => (some (y30 + 1)).bind fun x41 => some (Sum.inl (x41, ν40))) : Option ((Int32 × MT) ⊕ (MT)))) LN (0, ξ2)).bind (fun ν32 => some (off, ν32))) (fun q => FrX μ q.2 ∧ (∀ c, c < 12 → q.2 123 c = ν 117 c) ∧ RbI ns q.1 (q.2 125) (some (off, l)) ∧ OrI q.2 ns (fun j => l.getD j 0)) := by
            refine r_bcopy (ok_s ⟨fx2.w1 (by omega), fun c hc => ?_, ⟨rfl, hnN, fun k hk => ?_⟩, fun k hk => ?_⟩)
            · simp only []
              rw [u1_w, if_neg (by omega), z123]; exact g123 c hc
            · simp only []
              rw [u1_r, if_pos rfl, if_pos (by omega), z124]; exact k5 k hk
            · simp only []
              rw [u1_w, if_neg (by omega), z124]; exact k5 k hk
          cases acc with
          | none =>
            have g5 : y4 = -1000000 := k4
            rw [if_pos g5, ob_s]
            exact htake
          | some q =>
            obtain ⟨g5, g6, g7⟩ : y4 = q.1 ∧ ¬ q.1 = -1000000 ∧ ∀ k, k < ns → ξ 125 k = orA q.2 k := k4
            subst g5
            rw [if_neg g6]
            by_cases hlt : off < q.1
            · rw [if_neg (fun hq => (nle.mpr hlt) hq), ob_s]
              simp only [if_pos hlt]
              exact htake
            · have hle : q.1 ≤ off := Classical.byContradiction fun hq => hlt (nle.mp hq)
              rw [if_pos hle, ob_s]
              simp only [if_neg hlt]
              refine ok_s ⟨fx2, fun c hc => ?_, ?_, fun k hk => ?_⟩
              · show ξ2 123 c = _
                rw [z123]; exact g123 c hc
              · show RbI ns q.1 (ξ2 125) (some q)
                rw [z125]; exact ⟨rfl, g6, g7⟩
              · show ξ2 124 k = _
                rw [z124]; exact k5 k hk
        · rw [bI_f hft, if_pos rfl, if_neg hft]
          exact ok_s ⟨g1, g123, k4, k5⟩
      · rintro ⟨le, ξ2⟩ ⟨j1, j2, j3, j4⟩
        simp only at j1 j2 j3 j4 ⊢
        have x62 : ξ2 106 6 = nI ns := by rw [j1.2 6 (by omega) (by omega), m106]; exact c6.2.1
        have hnx := r_next x62 j4 hlm hns
        rw [hchk] at hnx
        refine ok_b hnx ?_
        rintro ⟨v, ξ3⟩ ⟨n1', n2⟩
        simp only at n1' n2 ⊢
        have fx3 : FrX μ ξ3 := j1.trans ⟨fun k a b => n1' k (by omega), fun j _ _ => by rw [n1' 106 (by omega)]⟩
        have q123 : ∀ c, c < 12 → ξ3 123 c = ν 117 c := fun c hc => by rw [n1' 123 (by omega)]; exact j2 c hc
        have q125 : ξ3 125 = ξ2 125 := n1' 125 (by omega)
        rcases n2 with ⟨q1, q2⟩ | ⟨l', q1, q2, q3⟩
        · subst q2
          cases r with
          | nil => exact ok_s (Or.inr ⟨_, 0, rfl, by omega, fx3, q123, Or.inl ⟨rfl, by show RbI ns le (ξ3 125) _; rw [q125, k2]; exact j3⟩⟩)
          | cons a b => simp at q1
        · subst q2
          cases r with
          | nil => simp at q1
          | cons a b =>
            simp at q1
            subst q1
            exact ok_s (Or.inr ⟨_, b.length + 1, rfl, by simp at k3; omega, fx3, q123, Or.inr ⟨rfl, pre ++ [l], a, b, by rw [k2]; simp, rfl, by show RbI ns le (ξ3 125) _; rw [q125]; exact j3, q3⟩⟩)
