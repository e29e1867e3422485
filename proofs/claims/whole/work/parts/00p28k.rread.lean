/-! ===== the reference reads a whole plan ===== -/
theorem r_seamL {μ : MT} {T : Nat → Nat} {N nc : Nat} {k : PT} (h : TrI μ T N) (hk : RkI μ k) (hok : TkOK T N k) (h27 : μ 106 27 = 0) (hc : RPl μ nc [] [] []) (hnc : nc ≤ 12) {γ : Type} {G : MT → Option γ} {R : γ → Prop}
    (hG : ∀ ν, FrQ μ ν → RRs T N ν (pSeams T N nc 7 ([], []) k) (fun r ν => RkI ν r.2 ∧ RPl ν nc r.1.1 r.1.2 []) → Ok (G ν) R) :
    Ok ((loop (σ := MT) (τ := MT) (fun ν19 => ((m_X9_word Zc 106 ν19).bind fun r88 => (if (lg_cmp r88 1936023917) = 0 then (m_X9_readSeam Zc 106 ν19).bind fun ν89 => some (Sum.inl ν89) else some (Sum.inr ν19)) : Option ((MT) ⊕ (MT)))) LN μ).bind G) R := by
  obtain ⟨-, -, -, -, -, -, -, -, -, -, -, c11, -⟩ := cw_n
  have hg0 : GdA nc [] := fun a ha => by simp at ha
  have hs0 : SgA [] [] := ⟨fun s hs => by simp at hs, Nat.le_refl _, fun a h1 h2 => by simp at h2⟩
  generalize htg : pSeams T N nc 7 ([], []) k = tgt at hG
  refine ok_l (fun m ν => FrQ μ ν ∧ ((ν 106 27 = 0 ∧ ∃ LE k', pSeams T N nc m LE k' = tgt ∧ 7 ≤ LE.2.length + m ∧ LE.2.length ≤ 6 ∧ LE.1.length ≤ 40 ∧ RkI ν k' ∧ TkOK T N k' ∧ RPl ν nc LE.1 LE.2 [] ∧ GdA nc LE.1 ∧ SgA LE.1 LE.2 ∧ eE LE.2 LE.2.length = LE.1.length) ∨ (m = 0 ∧ ∃ e : Nat × Nat, tgt = .inl e ∧ FsI ν T N e.1 e.2))) 7 (by omega) ⟨FrQ.refl μ, Or.inl ⟨h27, ([], []), k, htg, by simp, by simp, by simp, hk, hok, hc, hg0, hs0, rfl⟩⟩ ?_
  rintro m ν8 ⟨f8, hh⟩
  rcases hh with ⟨a0, LE, k', a1, a2, a3, a4, a6, a7, a8, a9, a10, a11⟩ | ⟨rfl, e, b1, b2⟩
  · obtain ⟨n, rfl⟩ : ∃ n, m = n + 1 := ⟨m - 1, by omega⟩
    rw [pSeams] at a1
    have h8 := f8.tr h
    rw [r_word h8 a6 a7, if_pos a0, ob_s]
    have hwc := wr_c a7 (show 11 < 13 by omega) c11
    by_cases hw : wsB T k' 11 = true
    · rw [if_pos (hwc.mpr hw)]
      rw [if_pos hw] at a1
      refine ok_b (r_rSeam h8 a6 a7 a0 a8 a4 a3 hnc a9 a10) ?_
      rintro ν34 ⟨f34, q34⟩
      cases hsm : pSeam T N nc LE.1 LE.2 k' with
      | inl e =>
        rw [hsm] at q34 a1
        simp only [] at a1
        exact ok_s (Or.inr ⟨_, 0, rfl, by omega, f8.trans f34, Or.inr ⟨rfl, e, a1.symm, q34⟩⟩)
      | inr w =>
        rw [hsm] at q34 a1
        simp only [] at a1
        obtain ⟨t1, t2, t3, t4, t5, t6, t7⟩ := pSeam_r a7 a4 a9 a10 a11 hsm
        exact ok_s (Or.inr ⟨_, n, rfl, by omega, f8.trans f34, Or.inl ⟨q34.1, w.1, w.2, a1, by omega, by omega, t1, q34.2.1, t4, q34.2.2, t5, t6, t7⟩⟩)
    · rw [if_neg (fun hq => hw (hwc.mp hq))]
      rw [if_neg hw] at a1
      refine ok_s (Or.inl ⟨_, rfl, hG ν8 f8 ?_⟩)
      rw [← a1]
      exact ⟨a0, a6, a8⟩
  · rw [r_word_f b2, ob_s, if_neg (z_c (by decide))]
    exact ok_s (Or.inl ⟨_, rfl, hG ν8 f8 (by rw [b1]; exact b2)⟩)
theorem r_seamF {μ : MT} {T : Nat → Nat} {N c pl : Nat} (hf : FsI μ T N c pl) {γ : Type} {G : MT → Option γ} {R : γ → Prop} (hG : Ok (G μ) R) :
    Ok ((loop (σ := MT) (τ := MT) (fun ν19 => ((m_X9_word Zc 106 ν19).bind fun r88 => (if (lg_cmp r88 1936023917) = 0 then (m_X9_readSeam Zc 106 ν19).bind fun ν89 => some (Sum.inl ν89) else some (Sum.inr ν19)) : Option ((MT) ⊕ (MT)))) LN μ).bind G) R := by
  refine ok_l (fun m s => s = μ) 0 (by omega) rfl ?_
  rintro m s rfl
  rw [r_word_f hf, ob_s, if_neg (z_c (by decide))]
  exact ok_s (Or.inl ⟨_, rfl, hG⟩)
def pEnd (o : (Nat × Nat) ⊕ (List (Nat × Nat) × PT)) : (Nat × Nat) ⊕ List (Nat × Nat) := match o with
  | .inl e => .inl e
  | .inr w => if w.2.2.2 = 0 then .inr w.1 else .inl (1, w.2.1)
theorem r_befL {μ : MT} {T : Nat → Nat} {N nc : Nat} {L : List AC} {E : List Nat} {k : PT} (h : TrI μ T N) (hk : RkI μ k) (hok : TkOK T N k) (h27 : μ 106 27 = 0) (hc : RPl μ nc L E []) (hE : E.length ≤ 6) {γ : Type} {G : MT → Option γ} {R : γ → Prop}
    (hG : ∀ ν, FrQ μ ν → RRs T N ν (pEnd (pBefs T N E.length 11 [] k)) (fun B ν => RPl ν nc L E B) → Ok (G ν) R) :
    Ok ((loop (σ := MT) (τ := MT) (fun ν25 => ((if (ν25 106 27) = 0 then (if (ν25 106 24) = 1 then some (Sum.inr ν25) else (m_X9_word Zc 106 ν25).bind fun r85 => (if (lg_cmp r85 108187649798757) = 0 then (m_X9_readBefore Zc 106 ν25).bind fun ν86 => some (Sum.inl ν86) else (m_X9_bad Zc 106 1 ν25).bind fun ν87 => some (Sum.inl ν87))) else some (Sum.inr ν25)) : Option ((MT) ⊕ (MT)))) LN μ).bind G) R := by
  obtain ⟨-, -, -, -, -, -, -, -, -, -, -, -, c12⟩ := cw_n
  have hb0 : BfA E.length [] := fun a ha => by simp at ha
  generalize htg : pEnd (pBefs T N E.length 11 [] k) = tgt at hG
  refine ok_l (fun m ν => FrQ μ ν ∧ ((ν 106 27 = 0 ∧ ∃ B k', pEnd (pBefs T N E.length m B k') = tgt ∧ 11 ≤ B.length + m ∧ B.length ≤ 10 ∧ RkI ν k' ∧ TkOK T N k' ∧ RPl ν nc L E B ∧ BfA E.length B) ∨ (m = 0 ∧ ∃ e : Nat × Nat, tgt = .inl e ∧ FsI ν T N e.1 e.2))) 11 (by omega) ⟨FrQ.refl μ, Or.inl ⟨h27, [], k, htg, by simp, by simp, hk, hok, hc, hb0⟩⟩ ?_
  rintro m ν8 ⟨f8, hh⟩
  rcases hh with ⟨a0, B, k', a1, a2, a3, a6, a7, a8, a9⟩ | ⟨rfl, e, b1, b2⟩
  · obtain ⟨n, rfl⟩ : ∃ n, m = n + 1 := ⟨m - 1, by omega⟩
    rw [pBefs] at a1
    have h8 := f8.tr h
    have htc := (tc_1 a7.2.2.1).2.2.2
    have hwc := wr_c a7 (show 12 < 13 by omega) c12
    rw [if_pos a0, a6.2.1]
    by_cases hs0 : k'.2.2 = 0
    · rw [if_pos (htc.mpr hs0)]
      have hw : ¬ wsB T k' 12 = true := fun hq => by
        unfold wsB at hq
        simp only [Bool.and_eq_true, decide_eq_true_eq] at hq
        omega
      rw [if_neg hw] at a1
      refine ok_s (Or.inl ⟨_, rfl, hG ν8 f8 ?_⟩)
      rw [← a1]
      unfold pEnd
      simp only [if_pos hs0]
      exact ⟨a0, a8⟩
    · rw [if_neg (fun hq => hs0 (htc.mp hq)), r_word h8 a6 a7, if_pos a0, ob_s]
      by_cases hw : wsB T k' 12 = true
      · rw [if_pos (hwc.mpr hw)]
        rw [if_pos hw] at a1
        refine ok_b (r_rBef h8 a6 a7 a0 a8 hw hE a3) ?_
        rintro ν34 ⟨f34, q34⟩
        cases hsm : pBef T N E.length B k' with
        | inl e =>
          rw [hsm] at q34 a1
          exact ok_s (Or.inr ⟨_, 0, rfl, by omega, f8.trans f34, Or.inr ⟨rfl, e, a1.symm, q34⟩⟩)
        | inr w =>
          rw [hsm] at q34 a1
          simp only [] at a1
          obtain ⟨t1, t2, t3, t4⟩ := pBef_r a7 a9 hsm
          exact ok_s (Or.inr ⟨_, n, rfl, by omega, f8.trans f34, Or.inl ⟨q34.1, w.1, w.2, a1, by omega, by omega, q34.2.1, t3, q34.2.2, t4⟩⟩)
      · rw [if_neg (fun hq => hw (hwc.mp hq))]
        rw [if_neg hw] at a1
        refine ok_b (r_bad (c := 1) h8 a6 a7 a0 (by omega)) ?_
        rintro ν9 ⟨g1, g2, g3⟩
        refine ok_s (Or.inr ⟨_, 0, rfl, by omega, f8.trans (FrQ.of g2), Or.inr ⟨rfl, (1, k'.1), ?_, g1⟩⟩)
        rw [← a1]
        unfold pEnd
        simp only [if_neg hs0]
  · rw [if_neg b2.ne.1]
    exact ok_s (Or.inl ⟨_, rfl, hG ν8 f8 (by rw [b1]; exact b2)⟩)
theorem r_befF {μ : MT} {T : Nat → Nat} {N c pl : Nat} (hf : FsI μ T N c pl) {γ : Type} {G : MT → Option γ} {R : γ → Prop} (hG : Ok (G μ) R) :
    Ok ((loop (σ := MT) (τ := MT) (fun ν25 => ((if (ν25 106 27) = 0 then (if (ν25 106 24) = 1 then some (Sum.inr ν25) else (m_X9_word Zc 106 ν25).bind fun r85 => (if (lg_cmp r85 108187649798757) = 0 then (m_X9_readBefore Zc 106 ν25).bind fun ν86 => some (Sum.inl ν86) else (m_X9_bad Zc 106 1 ν25).bind fun ν87 => some (Sum.inl ν87))) else some (Sum.inr ν25)) : Option ((MT) ⊕ (MT)))) LN μ).bind G) R := by
  refine ok_l (fun m s => s = μ) 0 (by omega) rfl ?_
  rintro m s rfl
  rw [if_neg hf.ne.1]
  exact ok_s (Or.inl ⟨_, rfl, hG⟩)
/-- the plan as the reference keeps it -/
def RPn (ν : MT) (nc : Nat) (L : List AC) (E : List Nat) (B : List (Nat × Nat)) : Prop :=
  (ν 106 5 = nI nc ∧ ν 106 6 = nI E.length ∧ ν 106 7 = nI L.length ∧ ν 106 8 = nI B.length ∧ ν 106 31 = 0) ∧
  (∀ a, a < L.length → ν 110 (4 * a) = nI ((L.getD a aZ).1 + 1) ∧ ν 110 (4 * a + 1) = nI (L.getD a aZ).2.1 ∧ ν 110 (4 * a + 2) = (if (L.getD a aZ).1 < 7 then nI (L.getD a aZ).2.2.1 else -1000000) ∧ ν 110 (4 * a + 3) = nI (L.getD a aZ).2.2.2) ∧
  (∀ b, b < B.length → ν 111 b = nI (B.getD b (0, 0)).1 ∧ ν 112 b = nI (B.getD b (0, 0)).2) ∧ (∀ c, c < 12 → ν 117 c = 0) ∧ (∀ k, k < 6 → ν 118 k = nI k)
def FrN (μ ν : MT) : Prop := (∀ q, q < 106 ∨ (106 < q ∧ q < 110) ∨ q = 116 ∨ 118 < q → ν q = μ q) ∧ (∀ j, (0 < j ∧ j < 5) ∨ (8 < j ∧ j < 12) ∨ (15 < j ∧ j < 20) ∨ (28 < j ∧ j < 31) ∨ 31 < j → ν 106 j = μ 106 j) ∧ ν 106 20 = 0
theorem r_keep {μ : MT} {nc : Nat} {L : List AC} {E : List Nat} {B : List (Nat × Nat)} (hc : RPl μ nc L E B) (hl : L.length ≤ 40) (hB : B.length ≤ 10) (h27 : μ 106 27 = 0) :
    Ok (if (μ 106 27) ≤ 0 then (some (u2 μ 106 5 (μ 106 12))).bind fun ν31 => (some (u2 ν31 106 6 (ν31 106 13))).bind fun ν32 => (some (u2 ν32 106 7 (ν32 106 14))).bind fun ν33 => (some (u2 ν33 106 8 (ν33 106 15))).bind fun ν34 => (loop (σ := Int32 × MT) (τ := MT) (fun (y35, ν36) => ((if 160 ≤ y35 then some (Sum.inr ν36) else (ald Zc ν36 113 y35).bind fun x81 => (ast Zc ν36 110 y35 x81).bind fun ν82 => (some (y35 + 1)).bind fun x83 => some (Sum.inl (x83, ν82))) : Option ((Int32 × MT) ⊕ (MT)))) LN (0, ν34)).bind (fun ν37 => (loop (σ := Int32 × MT) (τ := MT) (fun (y42, ν43) => ((if 10 ≤ y42 then some (Sum.inr ν43) else (ald Zc ν43 114 y42).bind fun x72 => (ast Zc ν43 111 y42 x72).bind fun ν73 => (ald Zc ν73 115 y42).bind fun x76 => (ast Zc ν73 112 y42 x76).bind fun ν77 => (some (y42 + 1)).bind fun x78 => some (Sum.inl (x78, ν77))) : Option ((Int32 × MT) ⊕ (MT)))) LN (0, ν37)).bind (fun ν44 => (loop (σ := Int32 × MT) (τ := MT) (fun (y49, ν50) => ((if 12 ≤ y49 then some (Sum.inr ν50) else (ast Zc ν50 117 y49 0).bind fun ν68 => (some (y49 + 1)).bind fun x69 => some (Sum.inl (x69, ν68))) : Option ((Int32 × MT) ⊕ (MT)))) LN (0, ν44)).bind (fun ν51 => (some (u2 ν51 106 31 0)).bind fun ν56 => (loop (σ := Int32 × MT) (τ := MT) (fun (y57, ν58) => ((if 6 ≤ y57 then some (Sum.inr ν58) else (ast Zc ν58 118 y57 y57).bind fun ν65 => (some (y57 + 1)).bind fun x66 => some (Sum.inl (x66, ν65))) : Option ((Int32 × MT) ⊕ (MT)))) LN (0, ν56)).bind (fun ν59 => some (ν59 106 7, ν59))))) else (some (u2 μ 106 21 (μ 106 27))).bind fun ν84 => some ((-1000100) - (ν84 106 28), ν84))
      (fun q => q.1 = nI L.length ∧ RPn q.2 nc L E B ∧ (∀ k, k ≠ 106 → k ≠ 110 → k ≠ 111 → k ≠ 112 → k ≠ 117 → k ≠ 118 → q.2 k = μ k) ∧ (∀ j, (j < 5 ∨ 8 < j) → j ≠ 31 → q.2 106 j = μ 106 j)) := by
  obtain ⟨⟨c0, c1, c2, c3⟩, c4, c5⟩ := hc
  rw [if_pos (by rw [h27]; decide)]
  simp only [ob_s]
  have k5 : u2 (u2 (u2 (u2 μ 106 5 (μ 106 12)) 106 6 (u2 μ 106 5 (μ 106 12) 106 13)) 106 7 (u2 (u2 μ 106 5 (μ 106 12)) 106 6 (u2 μ 106 5 (μ 106 12) 106 13) 106 14)) 106 8 (u2 (u2 (u2 μ 106 5 (μ 106 12)) 106 6 (u2 μ 106 5 (μ 106 12) 106 13)) 106 7 (u2 (u2 μ 106 5 (μ 106 12)) 106 6 (u2 μ 106 5 (μ 106 12) 106 13) 106 14) 106 15) = u2 (u2 (u2 (u2 μ 106 5 (nI nc)) 106 6 (nI E.length)) 106 7 (nI L.length)) 106 8 (nI B.length) := by
    have e1 : u2 μ 106 5 (μ 106 12) 106 13 = nI E.length := by rw [u2_r, if_neg (by omega)]; exact c1
    have e2 : u2 (u2 μ 106 5 (μ 106 12)) 106 6 (nI E.length) 106 14 = nI L.length := by rw [u2_r, if_neg (by omega), u2_r, if_neg (by omega)]; exact c2
    have e3 : u2 (u2 (u2 μ 106 5 (μ 106 12)) 106 6 (nI E.length)) 106 7 (nI L.length) 106 15 = nI B.length := by rw [u2_r, if_neg (by omega), u2_r, if_neg (by omega), u2_r, if_neg (by omega)]; exact c3
    rw [e1, e2, e3, c0]
  rw [k5]
  have g5 : u2 (u2 (u2 (u2 μ 106 5 (nI nc)) 106 6 (nI E.length)) 106 7 (nI L.length)) 106 8 (nI B.length) 106 5 = nI nc := by simp [u2_r]
  have g6 : u2 (u2 (u2 (u2 μ 106 5 (nI nc)) 106 6 (nI E.length)) 106 7 (nI L.length)) 106 8 (nI B.length) 106 6 = nI E.length := by simp [u2_r]
  have g7 : u2 (u2 (u2 (u2 μ 106 5 (nI nc)) 106 6 (nI E.length)) 106 7 (nI L.length)) 106 8 (nI B.length) 106 7 = nI L.length := by simp [u2_r]
  have g8 : u2 (u2 (u2 (u2 μ 106 5 (nI nc)) 106 6 (nI E.length)) 106 7 (nI L.length)) 106 8 (nI B.length) 106 8 = nI B.length := by simp [u2_r]
  have gj : ∀ j, (j < 5 ∨ 8 < j) → u2 (u2 (u2 (u2 μ 106 5 (nI nc)) 106 6 (nI E.length)) 106 7 (nI L.length)) 106 8 (nI B.length) 106 j = μ 106 j := fun j hj => by
    rw [u2_r, if_neg (by omega), u2_r, if_neg (by omega), u2_r, if_neg (by omega), u2_r, if_neg (by omega)]
  have gk : ∀ k, k ≠ 106 → u2 (u2 (u2 (u2 μ 106 5 (nI nc)) 106 6 (nI E.length)) 106 7 (nI L.length)) 106 8 (nI B.length) k = μ k := fun k hk => by
    rw [u2_w, if_neg hk, u2_w, if_neg hk, u2_w, if_neg hk, u2_w, if_neg hk]
  generalize u2 (u2 (u2 (u2 μ 106 5 (nI nc)) 106 6 (nI E.length)) 106 7 (nI L.length)) 106 8 (nI B.length) = ω at g5 g6 g7 g8 gj gk ⊢
  refine ok_for (fun i ν => (∀ k, k ≠ 110 → ν k = ω k) ∧ ∀ j, j < i → ν 110 j = μ 113 j) 0 160 (by omega) (by omega) rfl ⟨fun _ _ => rfl, fun j hj => by omega⟩ ?_ ?_
  · rintro i ν _ hi ⟨f1, f2⟩
    simp only []
    rw [if_neg (by rw [x_lle (by omega) (by omega)]; omega), al_113 (by omega), ob_s, as_110 (by omega), ob_s, n1, f1 113 (by omega), gk 113 (by omega)]
    refine ok_s (Or.inl ⟨_, rfl, fun k hk => by rw [u2_w, if_neg hk]; exact f1 k hk, fun j hj => ?_⟩)
    rw [u2_r]
    by_cases hji : j = i
    · rw [if_pos ⟨rfl, hji⟩, hji]
    · rw [if_neg (by omega)]; exact f2 j (by omega)
  rintro ν1 ⟨f1, f2⟩
  simp only []
  rw [if_pos (by decide)]
  refine ok_s ⟨_, rfl, ?_⟩
  refine ok_for (fun i ν => (∀ k, k ≠ 111 → k ≠ 112 → ν k = ν1 k) ∧ ∀ j, j < i → ν 111 j = μ 114 j ∧ ν 112 j = μ 115 j) 0 10 (by omega) (by omega) rfl ⟨fun _ _ _ => rfl, fun j hj => by omega⟩ ?_ ?_
  · rintro i ν _ hi ⟨h1, h2⟩
    simp only []
    rw [if_neg (by rw [x_lle (by omega) (by omega)]; omega), al_114 (by omega), ob_s, as_111 (by omega), ob_s, al_115 (by omega), ob_s, as_112 (by omega), ob_s, n1, show u2 ν 111 i (ν 114 i) 115 = ν 115 by rw [u2_w, if_neg (by omega)], h1 114 (by omega) (by omega), h1 115 (by omega) (by omega), f1 114 (by omega), f1 115 (by omega), gk 114 (by omega), gk 115 (by omega)]
    refine ok_s (Or.inl ⟨_, rfl, fun k a b => by rw [u2_w, if_neg b, u2_w, if_neg a]; exact h1 k a b, fun j hj => ?_⟩)
    by_cases hji : j = i
    · subst hji
      constructor
      · rw [u2_r, if_neg (by omega), u2_r, if_pos ⟨rfl, rfl⟩]
      · rw [u2_r, if_pos ⟨rfl, rfl⟩]
    · obtain ⟨d1, d2⟩ := h2 j (by omega)
      constructor
      · rw [u2_r, if_neg (by omega), u2_r, if_neg (by omega)]; exact d1
      · rw [u2_r, if_neg (by omega), u2_r, if_neg (by omega)]; exact d2
  rintro ν2 ⟨h1, h2⟩
  simp only []
  rw [if_pos (by decide)]
  refine ok_s ⟨_, rfl, ?_⟩
  refine ok_for (fun i ν => (∀ k, k ≠ 117 → ν k = ν2 k) ∧ ∀ j, j < i → ν 117 j = 0) 0 12 (by omega) (by omega) rfl ⟨fun _ _ => rfl, fun j hj => by omega⟩ ?_ ?_
  · rintro i ν _ hi ⟨p1, p2⟩
    simp only []
    rw [if_neg (by rw [x_lle (by omega) (by omega)]; omega), as_117 (by omega), ob_s, n1]
    refine ok_s (Or.inl ⟨_, rfl, fun k hk => by rw [u2_w, if_neg hk]; exact p1 k hk, fun j hj => ?_⟩)
    rw [u2_r]
    by_cases hji : j = i
    · rw [if_pos ⟨rfl, hji⟩]
    · rw [if_neg (by omega)]; exact p2 j (by omega)
  rintro ν3 ⟨p1, p2⟩
  simp only []
  rw [if_pos (by decide)]
  refine ok_s ⟨_, rfl, ?_⟩
  have s1 : ∀ k, k ≠ 106 → u2 ν3 106 31 0 k = ν3 k := fun k hk => by rw [u2_w, if_neg hk]
  have s2 : ∀ j, j ≠ 31 → u2 ν3 106 31 0 106 j = ν3 106 j := fun j hj => by rw [u2_r, if_neg (by omega)]
  have s3 : u2 ν3 106 31 0 106 31 = 0 := by rw [u2_r, if_pos ⟨rfl, rfl⟩]
  generalize u2 ν3 106 31 0 = ν4 at s1 s2 s3 ⊢
  refine ok_for (fun i ν => (∀ k, k ≠ 118 → ν k = ν4 k) ∧ ∀ j, j < i → ν 118 j = nI j) 0 6 (by omega) (by omega) rfl ⟨fun _ _ => rfl, fun j hj => by omega⟩ ?_ ?_
  · rintro i ν _ hi ⟨t1, t2⟩
    simp only []
    rw [if_neg (by rw [x_lle (by omega) (by omega)]; omega), as_118 (by omega), ob_s, n1]
    refine ok_s (Or.inl ⟨_, rfl, fun k hk => by rw [u2_w, if_neg hk]; exact t1 k hk, fun j hj => ?_⟩)
    rw [u2_r]
    by_cases hji : j = i
    · rw [if_pos ⟨rfl, hji⟩, hji]
    · rw [if_neg (by omega)]; exact t2 j (by omega)
  rintro ν5 ⟨t1, t2⟩
  simp only []
  rw [if_pos (by decide)]
  refine ok_s ⟨_, rfl, ?_⟩
  have j6 : ∀ j, j ≠ 31 → ν5 106 j = ω 106 j := fun j hj => by rw [t1 106 (by omega), s2 j hj, p1 106 (by omega), h1 106 (by omega) (by omega), f1 106 (by omega)]
  have jk : ∀ k, k ≠ 106 → k ≠ 110 → k ≠ 111 → k ≠ 112 → k ≠ 117 → k ≠ 118 → ν5 k = μ k := fun k a b c d e f => by rw [t1 k f, s1 k a, p1 k e, h1 k c d, f1 k b, gk k a]
  have j110 : ∀ j, j < 160 → ν5 110 j = μ 113 j := fun j hj => by rw [t1 110 (by omega), s1 110 (by omega), p1 110 (by omega), h1 110 (by omega) (by omega)]; exact f2 j hj
  refine ok_s ⟨?_, ⟨⟨?_, ?_, ?_, ?_, ?_⟩, fun a ha => ?_, fun b hb => ?_, fun c hc => ?_, t2⟩, jk, fun j a b => ?_⟩
  · show ν5 106 7 = _
    rw [j6 7 (by omega)]; exact g7
  · show ν5 106 5 = _
    rw [j6 5 (by omega)]; exact g5
  · show ν5 106 6 = _
    rw [j6 6 (by omega)]; exact g6
  · show ν5 106 7 = _
    rw [j6 7 (by omega)]; exact g7
  · show ν5 106 8 = _
    rw [j6 8 (by omega)]; exact g8
  · show ν5 106 31 = _
    rw [t1 106 (by omega)]; exact s3
  · dsimp only
    rw [j110 (4 * a) (by omega), j110 (4 * a + 1) (by omega), j110 (4 * a + 2) (by omega), j110 (4 * a + 3) (by omega)]
    exact c4 a ha
  · have e1 : ν5 111 b = ν2 111 b := by rw [t1 111 (by omega), s1 111 (by omega), p1 111 (by omega)]
    have e2 : ν5 112 b = ν2 112 b := by rw [t1 112 (by omega), s1 112 (by omega), p1 112 (by omega)]
    obtain ⟨d1, d2⟩ := h2 b (by omega)
    show ν5 111 b = _ ∧ ν5 112 b = _
    rw [e1, e2, d1, d2]
    exact c5 b hb
  · show ν5 117 c = 0
    rw [t1 117 (by omega), s1 117 (by omega)]; exact p2 c hc
  · show ν5 106 j = _
    rw [j6 j b]; exact gj j a
