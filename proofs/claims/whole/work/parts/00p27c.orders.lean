/-! ===== how many orders fit ===== -/
def pkN (b : Nat) : Nat := ((List.range 6).filter (fun i => b.testBit i)).length
theorem pk_s : ∀ b, b < 64 → ∀ s, s < 6 → b.testBit s = false → pkN (b ||| 2 ^ s) = pkN b + 1 ∧ b < b ||| 2 ^ s := by decide +kernel
theorem pkN_lt : ∀ ns, ns < 7 → ∀ b, b < 2 ^ ns - 1 → pkN b < ns := by decide +kernel
theorem pk_all : ∀ ns, ns < 7 → pkN (2 ^ ns - 1) = ns ∧ 1 ≤ 2 ^ ns ∧ 2 ^ ns ≤ 64 := by decide +kernel
theorem or_n {b s : Nat} (hs : s < 31) : nI b ||| (1 <<< (nI s &&& 31)) = nI (b ||| 2 ^ s) := by
  apply b_ext
  intro i hi
  rw [b_set _ (by omega) hi, bt_n hi, bt_n hi, Nat.testBit_or, Nat.testBit_two_pow]
  congr 1
  by_cases h : s = i
  · simp [h]
  · have h2 : ¬ i = s := fun hq => h hq.symm
    simp [h, h2]
theorem p_mayF {μ : MT} {p ns s b : Nat} {w : Nat → Nat} (hp : isPl p) (e1 : μ p 1 = nI ns) (hns : ns ≤ 6) (hs : s < ns) (hw : μ (p + 6) s = nI (w s)) (hw2 : w s < 64) : m_X3_mayFollow Zc p (nI s) (nI b) μ = some (bI (mfB w s b = true)) := by
  unfold m_X3_mayFollow
  rw [q_hasSeam e1 (by omega), ob_s, bI_t (by rw [ti_n (by omega)]; omega), if_neg (by decide), zq_9 hp, al_p5 hp (by omega) (by omega) (by omega), ob_s, hw]
  have hb := bitC (nI b) (c := s) (by omega)
  have hz : (nI (w s) &&& (nI b ^^^ (-1)) = 0) ↔ ((List.range 6).all (fun f => !((w s).testBit f) || b.testBit f) = true) := by
    simp only [List.all_eq_true, List.mem_range, Bool.or_eq_true, Bool.not_eq_true']
    constructor
    · intro h f hf
      have h2 : bt (nI (w s) &&& (nI b ^^^ (-1))) f = false := by rw [h]; exact b_0 f
      rw [b_and, b_xor, b_m1 f (by omega), bt_n (by omega), bt_n (by omega)] at h2
      cases h3 : (w s).testBit f
      · left; rfl
      · right
        rw [h3] at h2
        simpa using h2
    · intro h
      apply b_ext
      intro i hi
      rw [b_and, b_xor, b_m1 i hi, b_0, bt_n hi, bt_n hi]
      by_cases h6 : i < 6
      · rcases h i h6 with h1 | h1
        · rw [h1]; rfl
        · rw [h1]; simp
      · rw [Nat.testBit_lt_two_pow (Nat.lt_of_lt_of_le hw2 (show 2 ^ 6 ≤ 2 ^ i from Nat.pow_le_pow_right (by decide) (by omega)))]
        rfl
  unfold mfB
  cases h1 : b.testBit s
  · rw [if_pos (hb.2.mpr (by rw [bt_n (by omega)]; exact h1))]
    by_cases h2 : nI (w s) &&& (nI b ^^^ (-1)) = 0
    · rw [if_pos h2, bI_t]
      rw [hz.mp h2]; rfl
    · rw [if_neg h2, bI_f]
      intro hq
      exact h2 (hz.mpr (by simpa using hq))
  · rw [if_neg (fun hq => by have := hb.2.mp hq; rw [bt_n (by omega), h1] at this; exact absurd this (by decide)), bI_f]
    simp
theorem sumN_0 : ∀ n, sumN (fun _ => 0) n = 0
  | 0 => rfl
  | n + 1 => by rw [sumN, sumN_0 n]
theorem p_hmf {μ : MT} {p ns : Nat} {w : Nat → Nat} (hp : isPl p) (e1 : μ p 1 = nI ns) (hns : ns ≤ 6) (hw : ∀ s, s < ns → μ (p + 6) s = nI (w s) ∧ w s < 64) : Ok (m_X5_howManyFit Zc 33 p μ) (fun q => q.1 = nI (dnA ns w ns 0) ∧ ∀ k, k ≠ 37 → q.2 k = μ k) := by
  have hpl := isPl_le hp
  obtain ⟨pa, pb, pc⟩ := pk_all ns (by omega)
  unfold m_X5_howManyFit
  rw [e1, one_sh (by omega), x_sl (by omega), ob_s]
  simp only [zA]
  rw [q_fill (n := 64) (by simp only [zA]) (by omega), ob_s]
  have h0 : ∀ X : MT, ast Zc X 37 0 1 = some (u2 X 37 0 1) := fun X => as_37 (i := 0) (by omega)
  rw [h0, ob_s]
  have g1 : ∀ k, k ≠ 37 → u2 (u1 μ 37 (fun j => if j < 64 then 0 else μ 37 j)) 37 0 1 k = μ k := fun k hk => by rw [u2_w, if_neg hk, u1_w, if_neg hk]
  have g2 : ∀ c, c < 64 → u2 (u1 μ 37 (fun j => if j < 64 then 0 else μ 37 j)) 37 0 1 37 c = nI (if c = 0 then 1 else 0) := fun c hc => by
    rw [u2_r]
    by_cases h : c = 0
    · rw [if_pos ⟨rfl, h⟩, if_pos h]; rfl
    · rw [if_neg (by omega), if_neg h, u1_r, if_pos rfl, if_pos hc]; rfl
  generalize u2 (u1 μ 37 (fun j => if j < 64 then 0 else μ 37 j)) 37 0 1 = μ1 at g1 g2 ⊢
  have hdP : ∃ dP : Nat → Nat, ∀ c, dP c = dnA ns w (ns - pkN c) c := ⟨_, fun _ => rfl⟩
  obtain ⟨dP, hdP⟩ := hdP
  have dP0 : dP 0 = dnA ns w ns 0 := by rw [hdP, show pkN 0 = 0 from rfl, Nat.sub_zero]
  have dPa : dP (2 ^ ns - 1) = 1 := by rw [hdP, pa, Nat.sub_self]; rfl
  have dPs : ∀ b, b < 2 ^ ns - 1 → dP b = sumN (fun s => if mfB w s b = true then dP (b ||| 2 ^ s) else 0) ns := fun b hb => by
    have hk := pkN_lt ns (by omega) b hb
    rw [hdP, show ns - pkN b = (ns - pkN b - 1) + 1 by omega, dnA]
    refine sumN_c (fun s hs => ?_)
    by_cases hm : mfB w s b = true
    · rw [if_pos hm, if_pos hm, hdP]
      have ht : b.testBit s = false := by
        unfold mfB at hm
        simp only [Bool.and_eq_true, Bool.not_eq_true'] at hm
        exact hm.1
      rw [(pk_s b (by omega) s (by omega) ht).1, show ns - pkN b - 1 = ns - (pkN b + 1) by omega]
    · rw [if_neg hm, if_neg hm]
  rw [← dP0]
  generalize dP 0 = tot at dP0 ⊢
  refine ok_for (fun B ν => (∀ k, k ≠ 37 → ν k = μ k) ∧ ∃ W : Nat → Nat, (∀ c, c < 64 → ν 37 c = nI (W c)) ∧ sumN (fun c => if B ≤ c then W c * dP c else 0) (2 ^ ns) = tot) 0 (2 ^ ns - 1) (Nat.zero_le _) (by omega) rfl ⟨g1, fun c => if c = 0 then 1 else 0, g2, ?_⟩ ?_ ?_
  · have := sumN_u (f := fun c => if 0 ≤ c then (if c = 0 then 1 else 0) * dP c else 0) (g := fun _ => 0) (c := 0) (n := 2 ^ ns) (by omega) (fun i hi => by simp [hi])
    rw [sumN_0] at this
    simp at this
    simp
    rw [this, hdP 0, dP0]
    rfl
  · rintro B ν _ hB ⟨f, W, hW, hS⟩
    simp only []
    rw [if_neg (by rw [x_le (by omega) (by omega)]; omega)]
    refine ok_for (fun t ω => (∀ k, k ≠ 37 → ω k = μ k) ∧ ∃ W : Nat → Nat, (∀ c, c < 64 → ω 37 c = nI (W c)) ∧ sumN (fun c => if B < c then W c * dP c else 0) (2 ^ ns) + W B * dP B = tot + W B * sumN (fun s => if mfB w s B = true then dP (B ||| 2 ^ s) else 0) t) 0 ns (by omega) (by omega) rfl ⟨f, W, hW, ?_⟩ ?_ ?_
    · have := sumN_u (f := fun c => if B ≤ c then W c * dP c else 0) (g := fun c => if B < c then W c * dP c else 0) (c := B) (n := 2 ^ ns) (by omega) (fun i hi => by
        by_cases h1 : B ≤ i
        · rw [if_pos h1, if_pos (by omega)]
        · rw [if_neg h1, if_neg (by omega)])
      simp only [Nat.lt_irrefl, if_false, Nat.le_refl, if_true] at this
      rw [sumN]
      omega
    · rintro t ω _ ht ⟨f2, W, hW, hS⟩
      have o1 : ω p 1 = nI ns := by rw [f2 p (by omega)]; exact e1
      simp only [o1]
      rw [if_neg (by rw [x_le (by omega) (by omega)]; omega), p_mayF (w := w) hp o1 hns ht (by rw [f2 (p + 6) (by omega)]; exact (hw t ht).1) (hw t ht).2, ob_s]
      rw [sumN]
      by_cases hm : mfB w t B = true
      · rw [bI_t hm, if_neg (by decide), if_pos hm]
        have htb : B.testBit t = false := by
          unfold mfB at hm
          simp only [Bool.and_eq_true, Bool.not_eq_true'] at hm
          exact hm.1
        have hlt := (pk_s B (by omega) t (by omega) htb).2
        have hc2 : B ||| 2 ^ t < 2 ^ ns := Nat.or_lt_two_pow (by omega) (Nat.pow_lt_pow_right (by decide) ht)
        rw [or_n (by omega)]
        generalize B ||| 2 ^ t = C at hlt hc2 ⊢
        rw [al_37 (by omega), ob_s, al_37 (by omega), ob_s, as_37 (by omega), ob_s, ob_s, n1, ob_s, hW C (by omega), hW B (by omega), x_a]
        refine ok_s (Or.inl ⟨_, rfl, fun k hk => by rw [u2_w, if_neg hk]; exact f2 k hk, fun c => if c = C then W C + W B else W c, fun c hc => ?_, ?_⟩)
        · rw [u2_r]
          simp only []
          by_cases h : c = C
          · rw [if_pos ⟨trivial, h⟩, if_pos h]
          · rw [if_neg (by omega), if_neg h]; exact hW c hc
        · have := sumN_u (f := fun c => if B < c then (if c = C then W C + W B else W c) * dP c else 0) (g := fun c => if B < c then W c * dP c else 0) (c := C) (n := 2 ^ ns) hc2 (fun i hi => by simp only [if_neg hi])
          simp only [if_pos hlt, if_true, Nat.add_mul] at this
          simp only [if_neg (show ¬ B = C by omega), Nat.mul_add]
          omega
      · rw [bI_f hm, if_pos rfl, if_neg hm]
        simp only [ob_s, n1]
        exact ok_s (Or.inl ⟨_, rfl, f2, W, hW, hS⟩)
    · rintro ω ⟨f2, W, hW, hS⟩
      have o1 : ω p 1 = nI ns := by rw [f2 p (by omega)]; exact e1
      simp only [o1]
      rw [if_pos (by rw [x_le (by omega) (by omega)]; omega)]
      refine ok_s ⟨_, rfl, ?_⟩
      rw [ob_s, n1]
      refine ok_s (Or.inl ⟨_, rfl, f2, W, hW, ?_⟩)
      rw [← dPs B hB] at hS
      rw [sumN_c (g := fun c => if B < c then W c * dP c else 0) (fun i hi => by
        by_cases h1 : B < i
        · rw [if_pos h1, if_pos (by omega)]
        · rw [if_neg h1, if_neg (by omega)])]
      omega
  · rintro ν ⟨f, W, hW, hS⟩
    simp only []
    rw [if_pos (by rw [x_le (by omega) (by omega)]; omega)]
    refine ok_s ⟨_, rfl, ?_⟩
    rw [al_37 (by omega), ob_s]
    refine ok_s ⟨?_, f⟩
    simp only []
    rw [hW _ (by omega)]
    have hS' : sumN (fun c => if 2 ^ ns - 1 ≤ c then W c * dP c else 0) (2 ^ ns - 1 + 1) = tot := by
      rw [show 2 ^ ns - 1 + 1 = 2 ^ ns by omega]; exact hS
    rw [sumN, sumN_c (g := fun _ => 0) (fun i hi => if_neg (by omega)), sumN_0, if_pos (Nat.le_refl _), dPa] at hS'
    rw [← hS', Nat.mul_one, Nat.zero_add]
theorem psA_c {O O' : Nat → Int32} {v : Int32} : ∀ {n : Nat}, (∀ k, k < n → O k = O' k) → psA O v n = psA O' v n
  | 0, _ => rfl
  | n + 1, h => by rw [psA, psA, h n (by omega), psA_c (fun k hk => h k (by omega))]
theorem ftA_c {ns nb : Nat} {AH BH O O' : Nat → Int32} (h : ∀ k, k < ns → O k = O' k) : ftA ns nb AH BH O = ftA ns nb AH BH O' := by
  unfold ftA
  congr 1
  funext b
  rw [psA_c h, psA_c h]
theorem op_orders {ν : MT} (h : Inv ν) : OkI Inv (m_X8_orders Zc 127 0 ν) (fun μ => m_X9_orders Zc 106 μ) := by
  obtain ⟨p, d, nc, ns, na, nb, h⟩ := h
  obtain ⟨c1, c2, c3, ⟨hp, hd, hpd, e11, e12⟩, c5, c6, c7, c8, c9, c10, c11, c12, c13⟩ := id h
  obtain ⟨hnc, hns, hna, hnb⟩ := pl_bd c5
  have e0 := c5.1.1
  have e1 := c5.1.2.1
  by_cases hz : nc = 0
  · refine okI_of (a := -1000002) (P := fun μ => μ = ν) ?_ ?_
    · unfold m_X8_orders
      rw [e11, mrd_p hp, ob_s, q_none e0 (by omega), ob_s, bI_t hz, if_neg (by decide)]
      exact ok_s ⟨rfl, rfl⟩
    · rintro μ rfl
      have m5 : u2 μ 106 0 0 106 5 = nI nc := c6.1
      unfold m_X9_orders
      rw [ob_s, m5, if_pos (by rw [hz]; rfl)]
      exact ok_s ⟨rfl, p, d, nc, ns, na, nb, c_x h (FrX.refl μ).w0⟩
  have hz' : ¬ nI nc = 0 := by rw [x_eql (by omega) (by omega)]; exact hz
  obtain ⟨w, hw, hw2⟩ := nd_ex c5
  refine okI_of (a := nI (dnA ns w ns 0)) (P := fun μ => ∀ k, k ≠ 37 → μ k = ν k) ?_ ?_
  · unfold m_X8_orders
    rw [e11, mrd_p hp, ob_s, q_none e0 (by omega), ob_s, bI_f hz, if_pos rfl, ob_s]
    simp only [zA]
    refine ok_b (p_hmf (w := w) hp e1 hns (fun s hs => ⟨hw2 s hs, (hw.2 s hs).1⟩)) ?_
    rintro ⟨r, μ1⟩ ⟨g1, g2⟩
    exact ok_s ⟨g1, g2⟩
  · rintro μ f
    have hcore : Core μ p d nc ns na nb := by
      refine c_gen h ?_ ?_ ?_ ?_ (Or.inl ⟨?_, ?_⟩) (Or.inl ⟨?_, ?_, ?_, ?_, ?_⟩) (Or.inl ⟨?_, ?_⟩) (Or.inl ⟨?_, ?_⟩)
      · rw [f 0 (by omega), f 106 (by omega)]; exact c2.1
      · intro j _; rw [f 0 (by omega)]
      · intro j _; rw [f 106 (by omega)]
      · intro k hk; exact f k (by omega)
      · exact f 17 (by omega)
      · exact f 118 (by omega)
      · rw [f 0 (by omega)]
      · rw [f 106 (by omega)]
      · rw [f 106 (by omega)]
      · exact f 122 (by omega)
      · intro k a b; exact f k (by omega)
      · intro j _ _; rw [f 33 (by omega)]
      · exact f 36 (by omega)
      · rw [f 87 (by omega)]
      · exact f 88 (by omega)
    have hcnt : dnA ns w ns 0 = ((pmA ns ns []).filter (fun l => ftA ns nb (ν 111) (ν 112) (orA l))).length := by
      rw [pl_fit hw hns, pv_len]; rfl
    rw [hcnt]
    have m106 : μ 106 = ν 106 := f 106 (by omega)
    have m5 : u2 μ 106 0 0 106 5 = nI nc := by rw [u2_r, if_neg (by omega), m106]; exact c6.1
    have hch := pl_chain ns (by omega)
    have hhd := pl_head ns (by omega)
    have hln := pl_len ns (by omega)
    have hmem : ∀ l, l ∈ pmA ns ns [] → ∀ k, k < ns → l.getD k 0 < 1000 := fun l hl k hk => by
      obtain ⟨a1, a2, _⟩ := pl_facts hns hl
      have := getD_lt a2 (k := k) (by omega)
      omega
    generalize pmA ns ns [] = PL at hch hhd hln hmem ⊢
    unfold m_X9_orders
    rw [ob_s, m5, if_neg hz', r_layN, ob_s]
    have fx : FrX μ (u1 (u2 μ 106 0 0) 124 (fun c => if c < 6 then nI c else u2 μ 106 0 0 124 c)) := (FrX.refl μ).w0.w1 (by omega)
    have o0 : OrI (u1 (u2 μ 106 0 0) 124 (fun c => if c < 6 then nI c else u2 μ 106 0 0 124 c)) ns (fun j => (List.range ns).getD j 0) := fun k hk => by
      rw [u1_r, if_pos rfl, if_pos (by omega)]
      simp [List.getD, hk]
    generalize u1 (u2 μ 106 0 0) 124 (fun c => if c < 6 then nI c else u2 μ 106 0 0 124 c) = μ1 at fx o0 ⊢
    obtain ⟨r0, hr0⟩ : ∃ r0, PL = List.range ns :: r0 := by
      cases PL with
      | nil => simp at hhd
      | cons a b => simp at hhd; exact ⟨b, by rw [hhd]⟩
    refine ok_l (fun m s => FrX μ s.2.2 ∧ ((s.2.1 = 0 ∧ s.1 = nI (PL.filter (fun l => ftA ns nb (ν 111) (ν 112) (orA l))).length) ∨ (s.2.1 = 1 ∧ ∃ pre l r, PL = pre ++ l :: r ∧ m = r.length + 1 ∧ s.1 = nI (pre.filter (fun l => ftA ns nb (ν 111) (ν 112) (orA l))).length ∧ OrI s.2.2 ns (fun j => l.getD j 0)))) (r0.length + 1) (by rw [hr0] at hln; simp at hln; omega) ⟨fx, Or.inr ⟨rfl, [], _, r0, by rw [hr0]; rfl, rfl, rfl, o0⟩⟩ ?_
    rintro m ⟨y3, y4, ξ⟩ ⟨g1, g2⟩
    simp only at g1 g2 ⊢
    rcases g2 with ⟨k1, k2⟩ | ⟨k1, pre, l, r, k2, k3, k4, k5⟩
    · subst k1
      rw [if_pos rfl]
      exact ok_s (Or.inl ⟨_, rfl, ok_s ⟨k2, p, d, nc, ns, na, nb, c_x hcore g1⟩⟩)
    · subst k1
      have x6 : ξ 106 6 = nI ns := by rw [g1.2 6 (by omega) (by omega), m106]; exact c6.2.1
      have x8 : ξ 106 8 = nI nb := by rw [g1.2 8 (by omega) (by omega), m106]; exact c6.2.2.2
      have x111 : ξ 111 = ν 111 := by rw [g1.1 111 (by omega) (by omega), f 111 (by omega)]
      have x112 : ξ 112 = ν 112 := by rw [g1.1 112 (by omega) (by omega), f 112 (by omega)]
      rw [if_neg (by decide), r_fits x6 x8 hns hnb, ob_s, x111, x112, ftA_c (O' := orA l) k5]
      have hl : l ∈ PL := by rw [k2]; simp
      have hnx := r_next x6 k5 (hmem l hl) hns
      rw [chk_suf (pre := pre) (by rw [← k2]; exact hch)] at hnx
      have hcn : (if bI (ftA ns nb (ν 111) (ν 112) (orA l) = true) = 0 then some (0 : Int32) else some 1) = some (if ftA ns nb (ν 111) (ν 112) (orA l) = true then 1 else 0) := by
        by_cases hq : ftA ns nb (ν 111) (ν 112) (orA l) = true
        · rw [bI_t hq, if_neg (by decide), if_pos hq]
        · rw [bI_f hq, if_pos rfl, if_neg hq]
      have hcs : y3 + (if ftA ns nb (ν 111) (ν 112) (orA l) = true then 1 else 0) = nI ((pre ++ [l]).filter (fun l => ftA ns nb (ν 111) (ν 112) (orA l))).length := by
        rw [k4]
        by_cases hq : ftA ns nb (ν 111) (ν 112) (orA l) = true
        · rw [if_pos hq, n1]; simp [hq]
        · rw [if_neg hq, Int32.add_zero]; simp [hq]
      rw [hcn, ob_s, hcs, ob_s]
      refine ok_b hnx ?_
      rintro ⟨v, ξ2⟩ ⟨n1', n2⟩
      simp only at n1' n2
      have fx2 : FrX μ ξ2 := g1.trans ⟨fun k a b => n1' k (by omega), fun j _ _ => by show ξ2 106 j = _; rw [n1' 106 (by omega)]⟩
      rcases n2 with ⟨q1, q2⟩ | ⟨l', q1, q2, q3⟩
      · subst q2
        cases r with
        | nil => exact ok_s (Or.inr ⟨_, 0, rfl, by omega, fx2, Or.inl ⟨rfl, by rw [k2]⟩⟩)
        | cons a b => simp at q1
      · subst q2
        cases r with
        | nil => simp at q1
        | cons a b =>
          simp at q1
          subst q1
          exact ok_s (Or.inr ⟨_, b.length + 1, rfl, by simp at k3; omega, fx2, Or.inr ⟨rfl, pre ++ [l], a, b, by rw [k2]; simp, rfl, rfl, q3⟩⟩)
