/-! ===== the nearest order: the program's search ===== -/
theorem p_become {μ : MT} {b b2 nc : Nat} {x : RS} (hb : isPn b) (hb2 : isPn b2) (hbb : b2 + 6 < b ∨ b + 6 < b2) (h : PIs μ b2 nc x) (hc : nc ≤ 12) : Ok (m_X2_becomeAs Zc b b2 μ) (fun ν => PIs ν b nc x ∧ FrP b μ ν) := by
  obtain ⟨l1, l2, l3, l4, l5, l6⟩ := zpl hb
  obtain ⟨k1, k2, k3, k4, k5, k6⟩ := zpl hb2
  unfold m_X2_becomeAs
  rw [zp_0 hb, zp_1 hb, zp_2 hb, zp_3 hb, zp_4 hb, zp_5 hb, zp_0 hb2, zp_1 hb2, zp_2 hb2, zp_3 hb2, zp_4 hb2, zp_5 hb2]
  simp only [ob_s]
  rw [acp0 (m := 12) (v := 12) k1 l1 (by omega) (by omega) (by omega) rfl, ob_s, acp0 (m := 12) (v := 12) k2 l2 (by omega) (by omega) (by omega) rfl, ob_s, acp0 (m := 12) (v := 12) k3 l3 (by omega) (by omega) (by omega) rfl, ob_s, acp0 (m := 12) (v := 12) k4 l4 (by omega) (by omega) (by omega) rfl, ob_s, acp0 (m := 12) (v := 12) k5 l5 (by omega) (by omega) (by omega) rfl, ob_s, acp0 (m := 12) (v := 12) k6 l6 (by omega) (by omega) (by omega) rfl, ob_s]
  have n0 : ¬ b2 = b := by omega
  have n1 : ∀ j, j ≤ 6 → ¬ b2 + j = b := fun j hj => by omega
  have n2 : ∀ i j, i ≤ 6 → j ≤ 6 → ¬ b2 + i = b + j := fun i j hi hj => by omega
  have n3 : ∀ j, j ≤ 6 → ¬ b2 = b + j := fun j hj => by omega
  have m1 := n1 1 (by omega)
  have m2 := n1 2 (by omega)
  have m3 := n1 3 (by omega)
  have m4 := n1 4 (by omega)
  have m5 := n1 5 (by omega)
  have m6 := n1 6 (by omega)
  obtain ⟨h7, h8, ⟨w, hw, hwl, hh⟩, h9⟩ := h
  refine ok_s ⟨⟨?_, ?_, ⟨w, hw, hwl, fun c hcc => ?_⟩, fun c hcc => ?_⟩, ((((((((((FrP.refl b μ).w (by omega)).w (by omega)).w (by omega)).w (by omega)).w1 (by omega)).w1 (by omega)).w1 (by omega)).w1 (by omega)).w1 (by omega)).w1 (by omega)⟩
  · simp [u1_r, u2_r, h7, n0]
  · simp [u1_r, u2_r, h8, n0]
  · have hcl : c < 12 := by omega
    obtain ⟨hv, t, a1, a2, a3, a4, a5⟩ := hh c hcc
    refine ⟨hv, t, ?_, a2, ?_, a4, a5⟩
    · simp [u1_r, u2_r, hcl, m1, a1]
    · simp [u1_r, u2_r, hcl, m2, n2 2 1 (by omega) (by omega), a3]
  · have hcl : c < 12 := by omega
    obtain ⟨a1, a2, a3, a4, a5, a6⟩ := h9 c hcc
    refine ⟨?_, ?_, ?_, ?_, ?_, a6⟩
    · simp [u1_r, u2_r, hcl, m3, n2 3 1 (by omega) (by omega), n2 3 2 (by omega) (by omega), a1]
    · simp [u1_r, u2_r, hcl, m4, n2 4 1 (by omega) (by omega), n2 4 2 (by omega) (by omega), n2 4 3 (by omega) (by omega), a2]
    · simp [u1_r, u2_r, hcl, m5, n2 5 1 (by omega) (by omega), n2 5 2 (by omega) (by omega), n2 5 3 (by omega) (by omega), n2 5 4 (by omega) (by omega), a3]
    · simp [u1_r, u2_r, hcl, n0, m6, n2 6 1 (by omega) (by omega), n2 6 2 (by omega) (by omega), n2 6 3 (by omega) (by omega), n2 6 4 (by omega) (by omega), n2 6 5 (by omega) (by omega), a4]
    · simp [u1_r, u2_r, hcl, n0, a5]
/-- one fitting order more -/
def offL (nc ns na : Nat) (A B : Nat → Int32) (l : List Nat) : Int32 := offA nc (goA nc ns na A B (orA l) (-1)).1
def bs1 (f : List Nat → Int32) (acc : Option (Int32 × List Nat)) (l : List Nat) : Option (Int32 × List Nat) :=
  match acc with
  | none => some (f l, l)
  | some q => if f l < q.1 then some (f l, l) else some q
theorem best_pv {nc ns na nb : Nat} {A AH BH B : Nat → Int32} {w : Nat → Nat} (hw : NdA ns nb AH BH w) (hns : ns ≤ 6) : bestA nc ns na nb A AH BH B = (pvA ns w ns []).foldl (bs1 (offL nc ns na A B)) none := by
  unfold bestA
  rw [← pl_fit hw hns, List.foldl_filter]
  rfl
def SeI (ns : Nat) (fi lo : Int32) (nr : Nat → Int32) (acc : Option (Int32 × List Nat)) : Prop :=
  match acc with
  | none => fi = 0
  | some q => fi = 1 ∧ lo = q.1 ∧ ∀ k, k < ns → nr k = orA q.2 k
def selA (nc na : Nat) (A B : Nat → Int32) (l : List Nat) : RS := l.foldl (fun x s => seA nc na A (nI s) x) (bgA B)
theorem fold_take {α : Type} {f : α → Nat → α} {x : α} {l : List Nat} : ∀ n, n ≤ l.length → (List.range n).foldl (fun x k => f x (l.getD k 0)) x = (l.take n).foldl f x
  | 0, _ => by simp
  | n + 1, h => by
    rw [List.range_succ, List.foldl_append, fold_take n (by omega), List.take_succ, List.foldl_append]
    have : l[n]?.toList = [l.getD n 0] := by
      have hn : n < l.length := by omega
      simp [List.getD, hn]
    rw [this]
    rfl
theorem sel_go {nc ns na : Nat} {A B : Nat → Int32} {l : List Nat} (hl : l.length = ns) (hb : ∀ q ∈ l, q < 100) : goA nc ns na A B (orA l) (-1) = frsA nc (selA nc na A B l) := by
  unfold goA sesA selA
  have := fold_cg (f := fun x k => if orA l k = -1 then x else seA nc na A (orA l k) x) (g := fun x k => seA nc na A (nI (l.getD k 0)) x) ns (bgA B) (fun a y ha => by
    have := getD_lt hb (k := a) (by omega)
    rw [if_neg (show ¬ orA l a = -1 from m1n (by omega))]
    rfl)
  rw [this, fold_take (f := fun x s => seA nc na A (nI s) x) ns (by omega), ← hl, List.take_length]
/-- rows that the search leaves: those below the panel of its depth, and above the panels -/
def FrS (m : Nat) (μ ν : MT) : Prop := (∀ k, k ≠ 33 → k ≠ 35 → k ≠ 36 → k < m ∨ 86 < k → ν k = μ k) ∧ (∀ j, j ≠ 5 → j ≠ 6 → ν 33 j = μ 33 j)
theorem FrS.refl (m : Nat) (μ : MT) : FrS m μ μ := ⟨fun _ _ _ _ _ => rfl, fun _ _ _ => rfl⟩
theorem FrS.trans {m : Nat} {μ ν ω : MT} (h : FrS m μ ν) (h2 : FrS m ν ω) : FrS m μ ω := ⟨fun k a b c d => (h2.1 k a b c d).trans (h.1 k a b c d), fun j a b => (h2.2 j a b).trans (h.2 j a b)⟩
theorem FrS.mono {m m' : Nat} {μ ν : MT} (h : FrS m μ ν) (hm : m' ≤ m) : FrS m' μ ν := ⟨fun k a b c d => h.1 k a b c (by omega), h.2⟩
theorem pl_frS {μ ν : MT} {m p nc ns na nb : Nat} (hp : isPl p) (f : FrS m μ ν) (h : PlIs μ p nc ns na nb) : PlIs ν p nc ns na nb := by
  have hpl2 := isPl_le hp
  have g : ∀ k, 86 < k → ν k = μ k := fun k hk => f.1 k (by omega) (by omega) (by omega) (by omega)
  unfold PlIs
  rw [g p (by omega), g (p + 1) (by omega), g (p + 2) (by omega), g (p + 3) (by omega), g (p + 4) (by omega), g (p + 5) (by omega), g (p + 6) (by omega), g 110 (by omega), g 111 (by omega), g 112 (by omega)]
  exact h
theorem p_weigh {μ : MT} {nc ns na dp : Nat} {A B : Nat → Int32} {l : List Nat} {acc : Option (Int32 × List Nat)} (hdp : dp = ns) (hc4 : 4 ≤ nc) (hnc : nc ≤ 12) (hns : ns ≤ 6) (hl : l.length = ns) (hlb : ∀ q ∈ l, q < ns) (hx : PIs μ (38 + 7 * dp) nc (selA nc na A B l)) (ht : ∀ k, k < ns → μ 35 k = nI (l.getD k 0)) (hs : SeI ns (μ 33 5) (μ 33 6) (μ 36) acc) :
    Ok (m_X5_weigh Zc 33 (38 + 7 * dp) (nI dp) μ) (fun ν => SeI ns (ν 33 5) (ν 33 6) (ν 36) (bs1 (offL nc ns na A B) acc l) ∧ FrS (38 + 7 * dp) μ ν ∧ ν 35 = μ 35) := by
  subst hdp
  have hb := isPn_d (d := dp) (by omega)
  unfold m_X5_weigh
  refine ok_b (p_freeAll hb hx hnc) ?_
  rintro ν1 ⟨g1, g2⟩
  have hoff : offA nc (frsA nc (selA nc na A B l)).1 = offL nc dp na A B l := by
    unfold offL
    rw [sel_go hl (fun q hq => by have := hlb q hq; omega)]
  rw [p_off hb g1.1 (fun c hc => (g1.2.2.2 c hc).2.1) hc4 hnc, ob_s, hoff]
  have e33 : ν1 33 = μ 33 := g2 33 (by omega)
  have e35 : ν1 35 = μ 35 := g2 35 (by omega)
  have e36 : ν1 36 = μ 36 := g2 36 (by omega)
  have fS : FrS (38 + 7 * dp) μ ν1 := ⟨fun k a b c d => g2 k (by omega), fun j _ _ => by rw [e33]⟩
  simp only [zA]
  have htake : Ok ((acp Zc (u2 (u2 ν1 33 5 1) 33 6 (offL nc dp na A B l)) 35 0 36 0 (nI dp)).bind fun ν10 => some ν10) (fun ν => SeI dp (ν 33 5) (ν 33 6) (ν 36) (some (offL nc dp na A B l, l)) ∧ FrS (38 + 7 * dp) μ ν ∧ ν 35 = μ 35) := by
    rw [acp0 (n := 6) (n1 := 6) (m := dp) (by simp only [zA]) (by simp only [zA]) (by omega) (by omega) (by omega) rfl, ob_s]
    refine ok_s ⟨⟨?_, ?_, fun k hk => ?_⟩, ⟨fun k a b c d => ?_, fun j a b => ?_⟩, ?_⟩
    · simp [u1_r, u2_r]
    · simp [u1_r, u2_r]
    · rw [u1_r, if_pos rfl, if_pos hk, u2_r, if_neg (by omega), u2_r, if_neg (by omega), e35, ht k hk]
      rfl
    · rw [u1_w, if_neg c, u2_w, if_neg a, u2_w, if_neg a]
      exact fS.1 k a b c d
    · rw [u1_r, if_neg (by omega), u2_r, if_neg (by omega), u2_r, if_neg (by omega), e33]
    · rw [u1_w, if_neg (by omega), u2_w, if_neg (by omega), u2_w, if_neg (by omega), e35]
  rw [e33]
  cases acc with
  | none =>
    have h0 : μ 33 5 = 0 := hs
    rw [if_pos h0, ob_s]
    exact htake
  | some q =>
    obtain ⟨h1, h2, h3⟩ : μ 33 5 = 1 ∧ μ 33 6 = q.1 ∧ ∀ k, k < dp → μ 36 k = orA q.2 k := hs
    rw [h1, if_neg (by decide), h2]
    unfold bs1
    by_cases hlt : offL nc dp na A B l < q.1
    · rw [if_neg (fun hq => (nle.mpr hlt) hq), ob_s]
      simp only [if_pos hlt]
      exact htake
    · have hle : q.1 ≤ offL nc dp na A B l := Classical.byContradiction fun hq => hlt (nle.mp hq)
      rw [if_pos hle, ob_s]
      simp only [if_neg hlt]
      refine ok_s ⟨?_, fS, e35⟩
      rw [e33, e36]
      exact ⟨h1, h2, h3⟩
theorem p_tryFrom {p nc ns na nb : Nat} {A B : Nat → Int32} {w : Nat → Nat} (hp : isPl p) (hc4 : 4 ≤ nc) (hns : ns ≤ 6) (hB : ∀ c, c < 12 → -40 ≤ (B c).toInt ∧ (B c).toInt ≤ 40) (hw : ∀ s, s < ns → w s < 64) :
    ∀ (n F dp : Nat) (l : List Nat) (acc : Option (Int32 × List Nat)) (μ : MT), dp + n = ns → n < F → l.length = dp → (∀ q ∈ l, q < ns) → PlIs μ p nc ns na nb → μ 110 = A → (∀ s, s < ns → μ (p + 6) s = nI (w s)) → PIs μ (38 + 7 * dp) nc (selA nc na A B l) → Bd nc (40 * dp) (selA nc na A B l) → (∀ k, k < dp → μ 35 k = nI (l.getD k 0)) → SeI ns (μ 33 5) (μ 33 6) (μ 36) acc →
    Ok (m_X5_tryFrom Zc F 33 p (nI dp) (nI (blL l)) μ) (fun ν => SeI ns (ν 33 5) (ν 33 6) (ν 36) ((pvA ns w n l).foldl (bs1 (offL nc ns na A B)) acc) ∧ FrS (38 + 7 * dp) μ ν ∧ ∀ k, k < dp → ν 35 k = μ 35 k) := by
  intro n
  induction n with
  | zero =>
    intro F dp l acc μ h1 h2 h3 h4 h5 h6 h7 h8 h9 h10 h11
    obtain ⟨F', rfl⟩ : ∃ F', F = F' + 1 := ⟨F - 1, by omega⟩
    obtain ⟨hnc, -, hna, hnb⟩ := pl_bd h5
    have e1 := h5.1.2.1
    rw [m_X5_tryFrom, e1, if_pos (by rw [x_le (by omega) (by omega)]; omega), ob_s]
    simp only [jn, zA]
    rw [ard_34 (by omega), ob_s]
    refine ok_b (p_weigh (by omega) hc4 hnc hns (by omega) h4 h8 (fun k hk => h10 k (by omega)) h11) ?_
    rintro ν ⟨g1, g2, g3⟩
    exact ok_s ⟨g1, g2, fun k hk => by rw [g3]⟩
  | succ n ih =>
    intro F dp l acc μ h1 h2 h3 h4 h5 h6 h7 h8 h9 h10 h11
    obtain ⟨F', rfl⟩ : ∃ F', F = F' + 1 := ⟨F - 1, by omega⟩
    obtain ⟨hnc, -, hna, hnb⟩ := pl_bd h5
    have hpl2 := isPl_le hp
    have e1 := h5.1.2.1
    have hb0 := isPn_d (d := dp) (by omega)
    have hb1 := isPn_d (d := dp + 1) (by omega)
    rw [m_X5_tryFrom, e1, if_neg (by rw [x_le (by omega) (by omega)]; omega), if_pos (by rw [x_ltl (by omega) (by omega)]; omega)]
    simp only [zA]
    refine ok_b (R1 := fun q => ∃ ν, q = Sum.inl ν ∧ SeI ns (ν 33 5) (ν 33 6) (ν 36) ((pvA ns w (n + 1) l).foldl (bs1 (offL nc ns na A B)) acc) ∧ FrS (38 + 7 * dp) μ ν ∧ ∀ k, k < dp → ν 35 k = μ 35 k) ?_ ?_
    · refine ok_for (fun s ω => FrS (38 + 7 * (dp + 1)) μ ω ∧ (∀ k, k < dp → ω 35 k = μ 35 k) ∧ SeI ns (ω 33 5) (ω 33 6) (ω 36) (((List.range s).flatMap (fun s => if mfB w s (blL l) = true then pvA ns w n (l ++ [s]) else [])).foldl (bs1 (offL nc ns na A B)) acc)) 0 ns (by omega) (by omega) rfl ⟨FrS.refl _ μ, fun _ _ => rfl, h11⟩ ?_ ?_
      · rintro s ω _ hs ⟨f, g1, g2⟩
        have o1 : ω p 1 = nI ns := by rw [f.1 p (by omega) (by omega) (by omega) (by omega)]; exact e1
        simp only [o1]
        rw [if_neg (by rw [x_le (by omega) (by omega)]; omega), p_mayF (w := w) hp o1 hns hs (by rw [f.1 (p + 6) (by omega) (by omega) (by omega) (by omega)]; exact h7 s hs) (hw s hs), ob_s]
        rw [List.range_succ, List.flatMap_append, List.foldl_append]
        generalize ((List.range s).flatMap (fun s => if mfB w s (blL l) = true then pvA ns w n (l ++ [s]) else [])).foldl (bs1 (offL nc ns na A B)) acc = acc1 at g2 ⊢
        by_cases hm : mfB w s (blL l) = true
        · rw [bI_t hm, if_neg (by decide)]
          have hfl : [s].flatMap (fun s => if mfB w s (blL l) = true then pvA ns w n (l ++ [s]) else []) = pvA ns w n (l ++ [s]) := by simp [hm]
          rw [hfl, n1, ard_34 (by omega), ob_s, ard_34 (by omega), ob_s]
          have hx : PIs ω (38 + 7 * dp) nc (selA nc na A B l) := by
            unfold PIs
            have q : ∀ j, j ≤ 6 → ω (38 + 7 * dp + j) = μ (38 + 7 * dp + j) := fun j hj => f.1 _ (by omega) (by omega) (by omega) (by omega)
            have q0 := q 0 (by omega)
            rw [Nat.add_zero] at q0
            rw [q0, q 1 (by omega), q 2 (by omega), q 3 (by omega), q 4 (by omega), q 5 (by omega), q 6 (by omega)]
            exact h8
          refine ok_b (R1 := fun ν => FrS (38 + 7 * (dp + 1)) μ ν ∧ (∀ k, k < dp → ν 35 k = μ 35 k) ∧ SeI ns (ν 33 5) (ν 33 6) (ν 36) ((pvA ns w n (l ++ [s])).foldl (bs1 (offL nc ns na A B)) acc1)) ?_ ?_
          · refine ok_b (p_become hb1 hb0 (by omega) hx hnc) ?_
            rintro ω1 ⟨k1, k2⟩
            rw [ob_s]
            have fp1 : PlIs ω1 p nc ns na nb := pl_fr hb1 hp k2 (pl_frS hp f h5)
            have w110 : ω1 110 = A := by rw [k2 110 (by omega), f.1 110 (by omega) (by omega) (by omega) (by omega)]; exact h6
            have hd := p_doSeam (s := s) hb1 hp fp1 hs k1 h9 (by omega)
            rw [w110] at hd
            have hsel : seA nc na A (nI s) (selA nc na A B l) = selA nc na A B (l ++ [s]) := by
              unfold selA
              rw [List.foldl_append]
              rfl
            rw [hsel] at hd
            refine ok_b hd ?_
            rintro ω2 ⟨k3, k4⟩
            rw [as_35 (by omega), ob_s, or_n (by omega), ← blL_s]
            have e33 : ω2 33 = ω 33 := by rw [k4 33 (by omega), k2 33 (by omega)]
            have e35 : ω2 35 = ω 35 := by rw [k4 35 (by omega), k2 35 (by omega)]
            have e36 : ω2 36 = ω 36 := by rw [k4 36 (by omega), k2 36 (by omega)]
            have f3 : FrS (38 + 7 * (dp + 1)) μ (u2 ω2 35 dp (nI s)) := f.trans ⟨fun k a b c d => by rw [u2_w, if_neg b, k4 k (by omega), k2 k (by omega)], fun j _ _ => by rw [u2_r, if_neg (by omega), e33]⟩
            have hx3 : PIs (u2 ω2 35 dp (nI s)) (38 + 7 * (dp + 1)) nc (selA nc na A B (l ++ [s])) := by
              unfold PIs
              have q : ∀ j, j ≤ 6 → u2 ω2 35 dp (nI s) (38 + 7 * (dp + 1) + j) = ω2 (38 + 7 * (dp + 1) + j) := fun j hj => by rw [u2_w, if_neg (by omega)]
              have q0 := q 0 (by omega)
              rw [Nat.add_zero] at q0
              rw [q0, q 1 (by omega), q 2 (by omega), q 3 (by omega), q 4 (by omega), q 5 (by omega), q 6 (by omega)]
              exact k3
            have hbd : Bd nc (40 * (dp + 1)) (selA nc na A B (l ++ [s])) := by
              rw [← hsel]
              have hact := pl_act h5
              rw [h6] at hact
              exact bd_mono (bd_se hnc hact na _ _ (Nat.le_refl _) h9 (by omega)) (by omega)
            have hr := ih F' (dp + 1) (l ++ [s]) acc1 (u2 ω2 35 dp (nI s)) (by omega) (by omega) (by simp [h3]) (fun q hq => by
              rcases List.mem_append.mp hq with hq | hq
              · exact h4 q hq
              · simp at hq; omega) (pl_frS hp f3 h5) (by rw [f3.1 110 (by omega) (by omega) (by omega) (by omega)]; exact h6) (fun t ht => by rw [f3.1 (p + 6) (by omega) (by omega) (by omega) (by omega)]; exact h7 t ht) hx3 hbd (fun k hk => by
                rw [u2_r]
                by_cases hkd : k = dp
                · rw [if_pos ⟨rfl, hkd⟩, hkd]
                  simp [List.getD, ← h3]
                · rw [if_neg (by omega), e35, g1 k (by omega), h10 k (by omega)]
                  have : k < l.length := by omega
                  simp [List.getD, List.getElem?_append_left this]) (by
                rw [show u2 ω2 35 dp (nI s) 33 = ω2 33 by rw [u2_w, if_neg (by omega)], show u2 ω2 35 dp (nI s) 36 = ω2 36 by rw [u2_w, if_neg (by omega)], e33, e36]
                exact g2)
            refine ok_b hr ?_
            rintro ω4 ⟨m1, m2, m3⟩
            refine ok_s ⟨f3.trans m2, fun k hk => ?_, m1⟩
            rw [m3 k (by omega), u2_r, if_neg (by omega), e35, g1 k hk]
          · rintro ω4 hω
            simp only [ob_s, n1]
            exact ok_s (Or.inl ⟨_, rfl, hω⟩)
        · rw [bI_f hm, if_pos rfl]
          have hfl : [s].flatMap (fun s => if mfB w s (blL l) = true then pvA ns w n (l ++ [s]) else []) = [] := by simp [hm]
          rw [hfl]
          simp only [ob_s, n1]
          exact ok_s (Or.inl ⟨_, rfl, f, g1, g2⟩)
      · rintro ω ⟨f, g1, g2⟩
        have o1 : ω p 1 = nI ns := by rw [f.1 p (by omega) (by omega) (by omega) (by omega)]; exact e1
        simp only [o1]
        rw [if_pos (by rw [x_le (by omega) (by omega)]; omega)]
        exact ok_s ⟨_, rfl, ok_s ⟨_, rfl, g2, f.mono (by omega), g1⟩⟩
    · rintro q ⟨ν, rfl, g⟩
      exact ok_s g
