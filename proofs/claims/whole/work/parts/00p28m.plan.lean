/-! ===== plan, kept ===== -/
theorem pPlan_r {T : Nat → Nat} {N : Nat} {r : Nat × (List AC × List Nat) × List (Nat × Nat)} (h : pPlan T N = .inr r) : (4 ≤ r.1 ∧ r.1 ≤ 12) ∧ r.2.1.1.length ≤ 40 ∧ r.2.1.2.length ≤ 6 ∧ r.2.2.length ≤ 10 ∧ GdA r.1 r.2.1.1 ∧ SgA r.2.1.1 r.2.1.2 ∧ eE r.2.1.2 r.2.1.2.length = r.2.1.1.length ∧ BfA r.2.1.2.length r.2.2 := by
  unfold pPlan at h
  have hok0 : TkOK T N (tkA T N 0) := tk_ok (by omega)
  cases h1 : pPan T N (tkA T N 0) with
  | inl e => rw [h1] at h; cases h
  | inr w =>
    rw [h1] at h
    dsimp only at h
    have hww : (4 ≤ w.1 ∧ w.1 ≤ 12) ∧ TkOK T N w.2 := by
      unfold pPan at h1
      by_cases hw : wsB T (tkA T N 0) 10 = true
      · rw [if_pos hw] at h1
        cases h2 : pNum T N (rgB 4 13) (tkA T N (tkA T N 0).2.1) with
        | inl e => rw [h2] at h1; cases h1
        | inr v =>
          rw [h2] at h1
          dsimp only at h1
          obtain ⟨a1, a2, a3, a4⟩ := pNum_r h2
          rw [rg_i] at a1
          cases h3 : pSgn T N v.2 with
          | inl e => rw [h3] at h1; cases h1
          | inr u =>
            rw [h3] at h1
            have h4 := Sum.inr.inj h1
            rw [← h4]
            refine ⟨by dsimp only; omega, ?_⟩
            dsimp only
            rw [(pSgn_r h3).2]
            refine tk_ok ?_
            rw [a3]
            exact (tk_ok (tk_ok hok0.2.1).2.1).2.1
      · rw [if_neg hw] at h1; cases h1
    cases h2 : pSeams T N w.1 7 ([], []) w.2 with
    | inl e => rw [h2] at h; cases h
    | inr v =>
      rw [h2] at h
      dsimp only at h
      obtain ⟨t1, t2, t3, t4, t5, t6⟩ := pSeams_r 7 ([], []) w.2 v hww.2 (by simp) (by simp) (fun a ha => by simp at ha) ⟨fun s hs => by simp at hs, Nat.le_refl _, fun a h1 h2 => by simp at h2⟩ rfl h2
      cases h3 : pBefs T N v.1.2.length 11 [] v.2 with
      | inl e => rw [h3] at h; cases h
      | inr u =>
        rw [h3] at h
        dsimp only at h
        obtain ⟨b1, b2, b3⟩ := pBefs_r 11 [] v.2 u t3 (by simp) (fun a ha => by simp at ha) h3
        by_cases h0 : u.2.2.2 = 0
        · rw [if_pos h0] at h
          have h4 := Sum.inr.inj h
          rw [← h4]
          exact ⟨hww.1, t1, t2, b1, t4, t5, t6, b3⟩
        · rw [if_neg h0] at h; cases h
theorem nd_bit {s f : Nat} : ∀ (B : List (Nat × Nat)) (m : Nat), (B.foldl (fun m q => if q.2 = s then m ||| 2 ^ q.1 else m) m).testBit f = (m.testBit f || B.any (fun q => decide (q.2 = s) && decide (q.1 = f)))
  | [], m => by simp
  | x :: B, m => by
    rw [List.foldl_cons, nd_bit B, List.any_cons]
    by_cases h1 : x.2 = s
    · rw [if_pos h1, Nat.testBit_or, Nat.testBit_two_pow]
      simp [h1, Bool.or_assoc]
    · rw [if_neg h1]
      simp [h1]
theorem nd_iff {B : List (Nat × Nat)} {s f : Nat} : (ndL B s).testBit f = true ↔ ∃ b, b < B.length ∧ (B.getD b (0, 0)).1 = f ∧ (B.getD b (0, 0)).2 = s := by
  unfold ndL
  rw [nd_bit]
  simp only [Nat.zero_testBit, Bool.false_or, List.any_eq_true, Bool.and_eq_true, decide_eq_true_eq]
  constructor
  · rintro ⟨x, hx, h1, h2⟩
    obtain ⟨i, hi, hii⟩ := List.getElem_of_mem hx
    refine ⟨i, hi, ?_, ?_⟩
    · simp [List.getD, hi, hii, h2]
    · simp [List.getD, hi, hii, h1]
  · rintro ⟨b, hb, h1, h2⟩
    refine ⟨B.getD b (0, 0), ?_, h2, h1⟩
    simp [List.getD, hb]
theorem nd_lt {s : Nat} : ∀ (B : List (Nat × Nat)) (m : Nat), m < 64 → (∀ q ∈ B, q.1 < 6) → (B.foldl (fun m q => if q.2 = s then m ||| 2 ^ q.1 else m) m) < 64
  | [], m, h, _ => h
  | x :: B, m, h, hB => by
    rw [List.foldl_cons]
    refine nd_lt B _ ?_ (fun q hq => hB q (List.mem_cons_of_mem _ hq))
    have := hB x List.mem_cons_self
    by_cases h1 : x.2 = s
    · rw [if_pos h1]
      exact Nat.or_lt_two_pow (n := 6) h (Nat.pow_lt_pow_right (by decide) this)
    · rw [if_neg h1]; exact h
theorem p_begP {μ : MT} {p nc : Nat} (hp : isPl p) (e11 : μ 0 11 = nI p) (e0 : μ p 0 = nI nc) (hnc : nc ≤ 12) (h1000 : μ 1000 = μf 1000) : Ok (m_X8_beginPlan Zc 127 0 μ) (fun ν => PIs ν 19 nc (bgA (fun _ => 0)) ∧ (∀ c, c < 12 → ν 16 c = 0) ∧ (∀ k, k < 6 → ν 17 k = nI k) ∧ ν 0 13 = 0 ∧ ν 33 4 = 0 ∧ ν 87 2 = 0 ∧ (∀ q, q ≠ 0 → q ≠ 16 → q ≠ 17 → q ≠ 33 → q ≠ 87 → q < 19 ∨ 25 < q → ν q = μ q) ∧ (∀ j, j ≠ 13 → ν 0 j = μ 0 j)) := by
  have hpl := isPl_le hp
  unfold m_X8_beginPlan m_X5_forget m_X1_forget
  simp only [zA]
  rw [ob_s, q_fill (n := 12) (by simp only [zA]) (by omega), ob_s]
  have g0 : ∀ j, j ≠ 13 → u1 (u2 μ 0 13 0) 16 (fun j => if j < 12 then 0 else u2 μ 0 13 0 16 j) 0 j = μ 0 j := fun j hj => by rw [u1_r, if_neg (by omega), u2_r, if_neg (by omega)]
  have g13 : u1 (u2 μ 0 13 0) 16 (fun j => if j < 12 then 0 else u2 μ 0 13 0 16 j) 0 13 = 0 := by simp [u1_r, u2_r]
  have g16 : ∀ c, c < 12 → u1 (u2 μ 0 13 0) 16 (fun j => if j < 12 then 0 else u2 μ 0 13 0 16 j) 16 c = 0 := fun c hc => by rw [u1_r, if_pos rfl, if_pos hc]
  have gk : ∀ k, k ≠ 0 → k ≠ 16 → u1 (u2 μ 0 13 0) 16 (fun j => if j < 12 then 0 else u2 μ 0 13 0 16 j) k = μ k := fun k a b => by rw [u1_w, if_neg b, u2_w, if_neg a]
  generalize u1 (u2 μ 0 13 0) 16 (fun j => if j < 12 then 0 else u2 μ 0 13 0 16 j) = ν3 at g0 g13 g16 gk ⊢
  rw [acp0 (m := 6) (v := 6) (n := 6) (n1 := 6) (by simp only [zA]) (by simp only [zA]) (by omega) (by omega) (by omega) rfl, ob_s]
  have k17 : ∀ k, k < 6 → u1 ν3 17 (fun j => if j < 6 then ν3 1000 j else ν3 17 j) 17 k = nI k := fun k hk => by rw [u1_r, if_pos rfl, if_pos hk, gk 1000 (by omega) (by omega), h1000, t1000 k hk]
  have kk : ∀ k, k ≠ 17 → u1 ν3 17 (fun j => if j < 6 then ν3 1000 j else ν3 17 j) k = ν3 k := fun k hk => by rw [u1_w, if_neg hk]
  generalize u1 ν3 17 (fun j => if j < 6 then ν3 1000 j else ν3 17 j) = ν5 at k17 kk ⊢
  rw [kk 0 (by omega), g0 11 (by omega), e11, mrd_p hp, ob_s, kk p (by omega), gk p (by omega) (by omega), e0]
  refine ok_b (p_begin (nc := nc) pn19 (k := 16) (by simp only [zA]) (by omega) hnc) ?_
  rintro ν10 ⟨h1, h2⟩
  rw [kk 16 (by omega), bgA_c (B' := fun _ => 0) (fun c hc => g16 c hc)] at h1
  simp only [ob_s]
  refine ok_s ⟨?_, fun c hc => ?_, fun k hk => ?_, ?_, ?_, ?_, fun q a b c d e f => ?_, fun j hj => ?_⟩
  · unfold PIs at h1 ⊢
    simp only [u2_w]
    simpa using h1
  · rw [u2_r, if_neg (by omega), u2_r, if_neg (by omega), h2 16 (by omega), kk 16 (by omega)]; exact g16 c hc
  · rw [u2_r, if_neg (by omega), u2_r, if_neg (by omega), h2 17 (by omega)]; exact k17 k hk
  · rw [u2_r, if_neg (by omega), u2_r, if_neg (by omega), h2 0 (by omega), kk 0 (by omega)]; exact g13
  · rw [u2_r, if_neg (by omega), u2_r, if_pos ⟨rfl, rfl⟩]
  · rw [u2_r, if_pos ⟨rfl, rfl⟩]
  · rw [u2_w, if_neg e, u2_w, if_neg d, h2 q (by omega), kk q c, gk q a b]
  · rw [u2_r, if_neg (by omega), u2_r, if_neg (by omega), h2 0 (by omega), kk 0 (by omega), g0 j hj]
theorem ipl_of {ν : MT} {d nc : Nat} {L : List AC} {E : List Nat} {B : List (Nat × Nat)} (hc : CPl ν d nc L E B) (hr : RPn ν nc L E B) (hnc : 4 ≤ nc ∧ nc ≤ 12) (hl : L.length ≤ 40) (hE : E.length ≤ 6) (hB : B.length ≤ 10) (hg : GdA nc L) (hs : SgA L E) (he : eE E E.length = L.length) (hb : BfA E.length B) : PlIs ν d nc E.length L.length B.length := by
  obtain ⟨⟨c0, c1, c2, c3⟩, c4, c5, c6⟩ := hc
  obtain ⟨-, r4, r5, -, -⟩ := hr
  have he0 : eE E 0 = 0 := rfl
  have hseg : ∀ a, a < L.length → ∃ s, s < E.length ∧ eE E s ≤ a ∧ a < eE E (s + 1) := fun a ha => seg_ex he0 E.length a (by rw [he]; exact ha)
  refine ⟨⟨c0, c1, c2, c3⟩, Or.inr ⟨hnc.1, hnc.2, hE, hl, hB⟩, fun a ha => ?_, ⟨eE E, he0, he, fun s hsl => ?_, fun a s hsl h1 h2 => ?_⟩, fun b hbl => ?_, fun s hsl => ?_⟩
  · obtain ⟨s, s1, s2, s3⟩ := hseg a ha
    have hsm := (hs.1 s s1).2.2 a s2 s3
    obtain ⟨g1, g2, g3, g4⟩ := hg a ha
    obtain ⟨d1, d2, d3, d4⟩ := c4 a ha
    obtain ⟨f1, f2, f3, f4⟩ := r4 a ha
    rw [hsm] at d4 f4
    refine ⟨(L.getD a aZ).1, (L.getD a aZ).2.1, s, (L.getD a aZ).2.2.1, g1, s1, d1, f1, d2, f2, d4, f4, g2, g3, fun h7 => ⟨(g4 h7).1, (g4 h7).2, d3, ?_⟩, fun h7 => ?_⟩
    · rw [f3, if_pos h7]
    · rw [f3, if_neg (by omega)]
  · obtain ⟨t1, t2, t3⟩ := hs.1 s hsl
    refine ⟨t1, t2, ?_⟩
    rw [c5 s hsl]
    unfold eE
    rw [if_neg (by omega), show s + 1 - 1 = s by omega]
  · have h3 : a < L.length := by
      have := (hs.1 s hsl).2.1
      omega
    rw [(r4 a h3).2.2.2, (hs.1 s hsl).2.2 a h1 h2]
  · obtain ⟨x1, x2, x3⟩ := hb b hbl
    exact ⟨_, _, x1, x2, x3, (r5 b hbl).1, (r5 b hbl).2⟩
  · refine ⟨ndL B s, ?_, c6 s (by omega), fun f hf => ?_⟩
    · refine nd_lt B 0 (by omega) (fun q hq => ?_)
      obtain ⟨i, hi, hii⟩ := List.getElem_of_mem hq
      have := (hb i hi).1
      rw [show B.getD i (0, 0) = q by simp [List.getD, hi, hii]] at this
      omega
    · rw [nd_iff]
      constructor
      · rintro ⟨b, b1, b2, b3⟩
        refine ⟨b, b1, ?_, ?_⟩
        · rw [(r5 b b1).1, b2]
        · rw [(r5 b b1).2, b3]
      · rintro ⟨b, b1, b2, b3⟩
        obtain ⟨x1, x2, x3⟩ := hb b b1
        rw [(r5 b b1).1] at b2
        rw [(r5 b b1).2] at b3
        exact ⟨b, b1, (nI_inj (by omega) (by omega)).mp b2, (nI_inj (by omega) (by omega)).mp b3⟩
theorem op_plan {ν : MT} (h : Inv ν) : OkI Inv (m_X8_plan Zc 127 0 ν) (fun μ => m_X9_plan Zc 106 μ) := by
  obtain ⟨p, d, nc, ns, na, nb, h⟩ := h
  obtain ⟨c1, c2, ⟨N, hN, t1, t2, t3⟩, ⟨hp, hd, hpd, e11, e12⟩, c5, c6, c7, c8, c9, c10, c11, c12, c13⟩ := id h
  have hpl := isPl_le hp
  have hdl := isPl_le hd
  have hpd7 : p + 6 < d ∨ d + 6 < p := by unfold isPl at hp hd; omega
  have hT : ∀ j, j < N → (ν 116 j).toNatClampNeg < 256 ∧ ν 116 j = nI (ν 116 j).toNatClampNeg ∧ ν 14 j = sbA (ν 116 j).toNatClampNeg := fun j hj => by
    obtain ⟨v, v1, v2, v3⟩ := t3 j hj
    rw [v2, x_cl (by omega)]
    exact ⟨v1, rfl, v3⟩
  generalize hTd : (fun j => (ν 116 j).toNatClampNeg) = T
  have hT' : ∀ j, j < N → T j < 256 ∧ ν 116 j = nI (T j) ∧ ν 14 j = sbA (T j) := fun j hj => by subst hTd; exact hT j hj
  have htx : TxI ν T N := ⟨hN, t1, fun j hj => ⟨(hT' j hj).1, (hT' j hj).2.2⟩⟩
  cases hpp : pPlan T N with
  | inl e =>
    refine okI_of (a := -1000100 - nI e.2) (P := fun μ => (∀ q, q ≠ 0 → q ≠ 13 → q ≠ 15 → q < d ∨ d + 6 < q → μ q = ν q) ∧ (∀ j, j ≠ 14 → μ 0 j = ν 0 j) ∧ μ 0 14 = nI e.1 ∧ μ 13 1 = 0) ?_ ?_
    · unfold m_X8_plan m_X7_tokenPlace m_X7_empty
      rw [e12, mrd_p hd, ob_s]
      simp only [zA]
      refine ok_b (p_read hd htx) ?_
      rintro ⟨r4, ν5⟩ ⟨f5, q5⟩
      rw [hpp] at q5
      have hne := crs_ne q5
      obtain ⟨q1, q2, q3, q4, -, -⟩ := q5
      dsimp only at f5 q1 q4 ⊢
      simp only [ob_s]
      rw [if_neg hne, q4, q1]
      refine ok_s ⟨rfl, fun q a b c g => ?_, fun j hj => ?_, ?_, ?_⟩
      · dsimp only
        rw [u2_w, if_neg a, u2_w, if_neg b]; exact f5.1 q b c g
      · dsimp only
        rw [u2_r, if_neg (by omega), u2_r, if_neg (by omega), f5.1 0 (by omega) (by omega) (by omega)]
      · dsimp only
        rw [u2_r, if_pos ⟨rfl, rfl⟩]
      · dsimp only
        rw [u2_r, if_neg (by omega), u2_r, if_pos ⟨rfl, rfl⟩]
    · rintro μ ⟨f1, f2, f3, f4⟩
      have m106 : μ 106 = ν 106 := f1 106 (by omega) (by omega) (by omega) (by omega)
      have m116 : μ 116 = ν 116 := f1 116 (by omega) (by omega) (by omega) (by omega)
      refine ok_m (r_plan (T := T) (N := N) hN (by rw [m106]; exact t2) (fun j hj => by rw [m116]; exact ⟨(hT' j hj).1, (hT' j hj).2.1⟩)) ?_
      rintro ⟨a, ω⟩ ⟨⟨n1', n2, n3⟩, q⟩
      rw [hpp] at q
      obtain ⟨q1, q2, q3, q4⟩ := q
      dsimp only at n1' n2 n3 q1 q2 q3 q4 ⊢
      refine ⟨q1, p, d, nc, ns, na, nb, ?_⟩
      have w0 : ω 0 = μ 0 := n1' 0 (by omega)
      have wk : ∀ k, k ≠ 0 → k ≠ 13 → k ≠ 15 → (k < d ∨ d + 6 < k) → k < 106 ∨ (106 < k ∧ k < 110) ∨ k = 116 ∨ 118 < k → ω k = ν k := fun k a b c g i => by rw [n1' k i, f1 k a b c g]
      have w6 : ∀ j, (0 < j ∧ j < 5) ∨ (8 < j ∧ j < 12) ∨ (15 < j ∧ j < 20) ∨ (28 < j ∧ j < 31) ∨ 31 < j → ω 106 j = ν 106 j := fun j hj => by rw [n2 j hj, m106]
      have w6b : ∀ j, (5 ≤ j ∧ j ≤ 8) ∨ j = 31 → ω 106 j = ν 106 j := fun j hj => by rw [q3 j hj, m106]
      have wkb : ∀ k, (110 ≤ k ∧ k ≤ 112) ∨ k = 117 ∨ k = 118 → ω k = ν k := fun k hk => by rw [q4 k hk, f1 k (by omega) (by omega) (by omega) (by omega)]
      have w00 : ∀ j, j ≠ 14 → ω 0 j = ν 0 j := fun j hj => by rw [w0, f2 j hj]
      refine c_mk h (Or.inl ⟨?_, ?_, ?_, ?_, ?_, ?_⟩) ?_ (Or.inr ?_) (Or.inr ⟨0, by omega, ?_, n3, fun j hj => by omega⟩) ⟨?_, ?_⟩ ?_ ⟨?_, ?_, ?_⟩ ⟨?_, ?_, ?_, ?_⟩ (Or.inl ⟨?_, ?_⟩) (Or.inl ⟨?_, ?_⟩) (Or.inl ⟨?_, ?_, ?_, ?_, ?_, ?_, ?_, ?_, ?_, ?_, ?_, ?_⟩) (Or.inl ⟨?_, ?_, ?_, ?_, ?_⟩) (Or.inl ⟨?_, ?_⟩) (Or.inl ⟨?_, ?_, ?_, ?_⟩) ⟨?_, ?_, ?_, ?_⟩
      case refine_7 => rw [w00 15 (by omega), w6 1 (by omega)]; exact c2.1
      case refine_8 => rw [w0, f3, q2]
      case refine_9 => rw [n1' 13 (by omega), f4]; rfl
      case refine_12 => exact fun i hi => wk _ (by omega) (by omega) (by omega) (by omega) (by omega)
      all_goals first
        | exact wk _ (by omega) (by omega) (by omega) (by omega) (by omega)
        | exact wkb _ (by omega)
        | exact w00 _ (by omega)
        | exact w6 _ (by omega)
        | exact w6b _ (by omega)
        | exact fun s hs => wk _ (by omega) (by omega) (by omega) (by omega) (by omega)
        | exact congrFun (wk _ (by omega) (by omega) (by omega) (by omega) (by omega)) _
  | inr r =>
    obtain ⟨v1, v2, v3, v4, v5, v6, v7, v8⟩ := pPlan_r hpp
    refine okI_of (a := nI r.2.1.1.length) (P := fun μ => CPl μ d r.1 r.2.1.1 r.2.1.2 r.2.2 ∧ PIs μ 19 r.1 (bgA (fun _ => 0)) ∧ (∀ c, c < 12 → μ 16 c = 0) ∧ (∀ k, k < 6 → μ 17 k = nI k) ∧ (μ 0 11 = nI d ∧ μ 0 12 = nI p ∧ μ 0 13 = 0 ∧ μ 0 14 = ν 0 14 ∧ μ 0 15 = ν 0 15) ∧ μ 33 4 = 0 ∧ μ 87 2 = 0 ∧ μ 13 1 = 0 ∧ (∀ q, q ≠ 0 → q ≠ 13 → q ≠ 15 → q ≠ 16 → q ≠ 17 → q ≠ 33 → q ≠ 87 → q < 19 ∨ 25 < q → q < d ∨ d + 6 < q → μ q = ν q)) ?_ ?_
    · unfold m_X8_plan m_X7_tokenPlace m_X7_empty
      rw [e12, mrd_p hd, ob_s]
      simp only [zA]
      refine ok_b (p_read hd htx) ?_
      rintro ⟨r4, ν5⟩ ⟨f5, q5⟩
      rw [hpp] at q5
      obtain ⟨q1, q2⟩ := q5
      dsimp only at f5 q1 q2 ⊢
      simp only [ob_s]
      subst q1
      have z0 : u2 ν5 13 1 0 0 = ν 0 := by rw [u2_w, if_neg (by omega), f5.1 0 (by omega) (by omega) (by omega)]
      rw [if_pos rfl, z0, e11, e12, mrd_p hp, ob_s, mrd_p hd, ob_s]
      have y11 : u2 (u2 (u2 ν5 13 1 0) 0 11 (Int32.ofNat d)) 0 12 (Int32.ofNat p) 0 11 = nI d := by simp [u2_r]; rfl
      have y12 : u2 (u2 (u2 ν5 13 1 0) 0 11 (Int32.ofNat d)) 0 12 (Int32.ofNat p) 0 12 = nI p := by simp [u2_r]; rfl
      have y0 : ∀ j, j ≠ 11 → j ≠ 12 → u2 (u2 (u2 ν5 13 1 0) 0 11 (Int32.ofNat d)) 0 12 (Int32.ofNat p) 0 j = ν 0 j := fun j a b => by rw [u2_r, if_neg (by omega), u2_r, if_neg (by omega), z0]
      have y13 : u2 (u2 (u2 ν5 13 1 0) 0 11 (Int32.ofNat d)) 0 12 (Int32.ofNat p) 13 1 = 0 := by simp [u2_r]
      have yk : ∀ k, k ≠ 0 → k ≠ 13 → u2 (u2 (u2 ν5 13 1 0) 0 11 (Int32.ofNat d)) 0 12 (Int32.ofNat p) k = ν5 k := fun k a b => by rw [u2_w, if_neg a, u2_w, if_neg a, u2_w, if_neg b]
      generalize u2 (u2 (u2 ν5 13 1 0) 0 11 (Int32.ofNat d)) 0 12 (Int32.ofNat p) = ν15 at y11 y12 y0 y13 yk ⊢
      have hc15 : CPl ν15 d r.1 r.2.1.1 r.2.1.2 r.2.2 := by
        unfold CPl
        rw [yk d (by omega) (by omega), yk (d + 1) (by omega) (by omega), yk (d + 2) (by omega) (by omega), yk (d + 3) (by omega) (by omega), yk (d + 4) (by omega) (by omega), yk (d + 5) (by omega) (by omega), yk (d + 6) (by omega) (by omega)]
        exact q2
      refine ok_b (p_begP hd y11 hc15.1.1 (by omega) (by rw [yk 1000 (by omega) (by omega), f5.1 1000 (by omega) (by omega) (by omega)]; exact c13.1)) ?_
      rintro ν16 ⟨b1, b2, b3, b4, b5, b6, b7, b8⟩
      have hc16 : CPl ν16 d r.1 r.2.1.1 r.2.1.2 r.2.2 := by
        have hbk : ∀ i, i ≤ 6 → ν16 (d + i) = ν15 (d + i) := fun i hi => b7 _ (by omega) (by omega) (by omega) (by omega) (by omega) (by omega)
        have hb0 := hbk 0 (by omega)
        rw [Nat.add_zero] at hb0
        unfold CPl
        rw [hb0, hbk 1 (by omega), hbk 2 (by omega), hbk 3 (by omega), hbk 4 (by omega), hbk 5 (by omega), hbk 6 (by omega)]
        exact hc15
      rw [b8 11 (by omega), y11, mrd_p hd, ob_s]
      refine ok_s ⟨hc16.1.2.2.1, hc16, b1, b2, b3, ⟨?_, ?_, b4, ?_, ?_⟩, b5, b6, ?_, fun q a b c g i j k l m => ?_⟩
      · dsimp only
        rw [b8 11 (by omega)]; exact y11
      · dsimp only
        rw [b8 12 (by omega)]; exact y12
      · dsimp only
        rw [b8 14 (by omega), y0 14 (by omega) (by omega)]
      · dsimp only
        rw [b8 15 (by omega), y0 15 (by omega) (by omega)]
      · dsimp only
        rw [b7 13 (by omega) (by omega) (by omega) (by omega) (by omega) (by omega)]; exact y13
      · dsimp only
        rw [b7 q a g i j k l, yk q a b, f5.1 q b c m]
    · rintro μ ⟨f1, f2, f3, f4, ⟨f11, f12, f13, f14, f15⟩, f33, f87, f131, fk⟩
      have m106 : μ 106 = ν 106 := fk 106 (by omega) (by omega) (by omega) (by omega) (by omega) (by omega) (by omega) (by omega) (by omega)
      have m116 : μ 116 = ν 116 := fk 116 (by omega) (by omega) (by omega) (by omega) (by omega) (by omega) (by omega) (by omega) (by omega)
      refine ok_m (r_plan (T := T) (N := N) hN (by rw [m106]; exact t2) (fun j hj => by rw [m116]; exact ⟨(hT' j hj).1, (hT' j hj).2.1⟩)) ?_
      rintro ⟨a, ω⟩ ⟨⟨n1', n2, n3⟩, q⟩
      rw [hpp] at q
      obtain ⟨q1, q2, q3⟩ := q
      dsimp only at n1' n2 n3 q1 q2 q3 ⊢
      refine ⟨q1, d, p, r.1, r.2.1.2.length, r.2.1.1.length, r.2.2.length, ?_⟩
      have wlo : ∀ k, k < 106 → ω k = μ k := fun k hk => n1' k (by omega)
      have wk : ∀ k, k ≠ 0 → k ≠ 13 → k ≠ 15 → k ≠ 16 → k ≠ 17 → k ≠ 33 → k ≠ 87 → k < 19 ∨ 25 < k → (k < d ∨ d + 6 < k) → k < 106 ∨ (106 < k ∧ k < 110) ∨ k = 116 ∨ 118 < k → ω k = ν k := fun k a b c g i j l m n o => by rw [n1' k o, fk k a b c g i j l m n]
      have w6 : ∀ j, (0 < j ∧ j < 5) ∨ (8 < j ∧ j < 12) ∨ (15 < j ∧ j < 20) ∨ (28 < j ∧ j < 31) ∨ 31 < j → ω 106 j = ν 106 j := fun j hj => by rw [n2 j hj, m106]
      have hcw : CPl ω d r.1 r.2.1.1 r.2.1.2 r.2.2 := by
        unfold CPl
        rw [wlo d (by omega), wlo (d + 1) (by omega), wlo (d + 2) (by omega), wlo (d + 3) (by omega), wlo (d + 4) (by omega), wlo (d + 5) (by omega), wlo (d + 6) (by omega)]
        exact f1
      have hz : (0 : Int32).toInt = 0 := rfl
      obtain ⟨⟨z5, z6, z7, z8, z31⟩, z110, z111, z117, z118⟩ := id q2
      refine ⟨⟨fun s hs => ?_, fun s j hs hj => ?_⟩, ⟨?_, ?_⟩, ⟨0, by omega, ?_, n3, fun j hj => by omega⟩, ⟨hd, hp, fun hq => hpd hq.symm, ?_, ?_⟩, ipl_of hcw q2 v1 v2 v3 v4 v5 v6 v7 v8, ⟨z5, z6, z7, z8⟩, fun c hc => ?_, fun k hk => ⟨k, hk, ?_, z118 k (by omega)⟩, ⟨bgA (ω 117), ?_, ?_, Or.inr ⟨?_, z31, rfl⟩⟩, Or.inl ?_, Or.inl ?_, ?_, ⟨?_, ?_, ?_, ?_⟩⟩
      · rw [wk 2 (by omega) (by omega) (by omega) (by omega) (by omega) (by omega) (by omega) (by omega) (by omega) (by omega), wk 3 (by omega) (by omega) (by omega) (by omega) (by omega) (by omega) (by omega) (by omega) (by omega) (by omega), wk 107 (by omega) (by omega) (by omega) (by omega) (by omega) (by omega) (by omega) (by omega) (by omega) (by omega), wk 108 (by omega) (by omega) (by omega) (by omega) (by omega) (by omega) (by omega) (by omega) (by omega) (by omega)]
        exact c1.1 s hs
      · have := c1.2 s j hs hj
        dsimp only at this ⊢
        rw [wk (5 + s) (by omega) (by omega) (by omega) (by omega) (by omega) (by omega) (by omega) (by omega) (by omega) (by omega), wk 109 (by omega) (by omega) (by omega) (by omega) (by omega) (by omega) (by omega) (by omega) (by omega) (by omega)]
        exact this
      · rw [wlo 0 (by omega), f15, w6 1 (by omega)]; exact c2.1
      · rw [wlo 0 (by omega), f14, q3, m106]; exact c2.2
      · rw [wlo 13 (by omega), f131]; rfl
      · rw [wlo 0 (by omega)]; exact f11
      · rw [wlo 0 (by omega)]; exact f12
      · rw [wlo 16 (by omega), f3 c hc, z117 c hc, hz]
        exact ⟨rfl, by omega, by omega⟩
      · rw [wlo 17 (by omega)]; exact f4 k (by omega)
      · rw [wlo 19 (by omega), wlo 20 (by omega), wlo 21 (by omega), wlo 22 (by omega), wlo 23 (by omega), wlo 24 (by omega), wlo 25 (by omega), bgA_c (B' := fun _ => 0) (fun c hc => z117 c hc)]
        exact f2
      · exact bd_mono (bd_bg v1.2 (fun c hc => by rw [z117 c hc, hz]; omega)) (by omega)
      · rw [wlo 0 (by omega)]; exact f13
      · rw [wlo 33 (by omega)]; exact f33
      · rw [wlo 87 (by omega)]; exact f87
      · rw [wk 90 (by omega) (by omega) (by omega) (by omega) (by omega) (by omega) (by omega) (by omega) (by omega) (by omega), wk 91 (by omega) (by omega) (by omega) (by omega) (by omega) (by omega) (by omega) (by omega) (by omega) (by omega), w6 42 (by omega), wk 126 (by omega) (by omega) (by omega) (by omega) (by omega) (by omega) (by omega) (by omega) (by omega) (by omega)]
        exact c12
      · rw [wk 1000 (by omega) (by omega) (by omega) (by omega) (by omega) (by omega) (by omega) (by omega) (by omega) (by omega)]; exact c13.1
      · rw [wk 1001 (by omega) (by omega) (by omega) (by omega) (by omega) (by omega) (by omega) (by omega) (by omega) (by omega)]; exact c13.2.1
      · rw [wk 1002 (by omega) (by omega) (by omega) (by omega) (by omega) (by omega) (by omega) (by omega) (by omega) (by omega)]; exact c13.2.2.1
      · rw [wk 1003 (by omega) (by omega) (by omega) (by omega) (by omega) (by omega) (by omega) (by omega) (by omega) (by omega)]; exact c13.2.2.2
