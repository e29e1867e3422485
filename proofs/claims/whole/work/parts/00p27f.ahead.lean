/-! ===== beforehand: a cell's bend hangs on its own setting alone ===== -/
def RlA (c : Nat) (x y : RS) : Prop := (∀ k, k < 24 → x.1 k = y.1 k) ∧ x.1 (24 + c) = y.1 (24 + c) ∧ x.2.1 c = y.2.1 c ∧ (∀ q, x.2.2.1 q = y.2.2.1 q) ∧ x.2.2.2 = y.2.2.2
theorem rl_min {nc c : Nat} {x y : RS} (hnc : nc ≤ 12) (h : RlA c x y) : RlA c (minA nc x) (minA nc y) := by
  obtain ⟨h1, h2, h3, h4, h5⟩ := h
  refine ⟨fun k hk => ?_, ?_, h3, h4, ?_⟩
  · simp only [minA]
    rw [h1 k hk]
  · simp only [minA]
    rw [if_neg (by omega), if_neg (by omega)]; exact h2
  · simp only [minA]
    rw [h5]
theorem rl_mins {nc c : Nat} (hnc : nc ≤ 12) : ∀ (n : Nat) (x y : RS), RlA c x y → RlA c (minsA nc n x) (minsA nc n y)
  | 0, _, _, h => h
  | n + 1, x, y, h => rl_mins hnc n _ _ (rl_min hnc h)
theorem rl_ho {nc c k : Nat} {x y : RS} (hnc : nc ≤ 12) (h : RlA c x y) : hoA nc x.1 k = hoA nc y.1 k := by
  unfold hoA
  by_cases hk : k < nc
  · rw [h.1 (12 + k) (by omega)]
  · simp [hk]
theorem rl_ef {nc c kd : Nat} {p : Int32} {x y : RS} (hnc : nc ≤ 12) (hc : c < 12) (h : RlA c x y) : efA nc x.1 kd c p = efA nc y.1 kd c p := by
  have hs : shA nc x.1 kd c p = shA nc y.1 kd c p := by
    unfold shA
    rw [rl_ho hnc h, rl_ho (k := c - 1) hnc h, rl_ho (k := c) hnc h, h.2.1]
  unfold efA
  rw [hs, h.1 c (by omega), h.1 (12 + c) (by omega)]
theorem rl_st {nc kd c c' : Nat} {p : Int32} {x y : RS} (hnc : nc ≤ 12) (hc : c < 12) (hc' : c' < 12) (h : RlA c x y) : RlA c (stA nc kd c' p x) (stA nc kd c' p y) := by
  unfold stA
  apply rl_min hnc
  have hef : c' = c → efA nc x.1 kd c' p = efA nc y.1 kd c' p := fun hq => by subst hq; exact rl_ef hnc hc h
  obtain ⟨h1, h2, h3, h4, h5⟩ := h
  refine ⟨fun k hk => ?_, ?_, ?_, h4, h5⟩
  · simp only []
    by_cases k1 : k = c'
    · rw [if_pos k1, if_pos k1, h1 k hk]
    · rw [if_neg k1, if_neg k1]
      by_cases k2 : k = 12 + c'
      · rw [if_pos k2, if_pos k2, h1 k hk]
      · rw [if_neg k2, if_neg k2, if_neg (by omega), if_neg (by omega), if_neg (by omega), if_neg (by omega), h1 k hk]
  · simp only []
    by_cases k3 : 24 + c = 24 + c'
    · have k1 : ¬ 24 + c = c' := by omega
      have k2 : ¬ 24 + c = 12 + c' := by omega
      rw [if_neg k1, if_neg k2, if_pos k3, if_neg k1, if_neg k2, if_pos k3, h4 c', h2, hef (by omega)]
    · rw [if_neg (by omega), if_neg (by omega), if_neg k3, if_neg (by omega), if_neg (by omega), if_neg (by omega), if_neg k3, if_neg (by omega), h2]
  · simp only []
    rw [h4 c']
    by_cases k0 : y.2.2.1 c' = 0
    · rw [if_pos k0, if_pos k0]; exact h3
    · rw [if_neg k0, if_neg k0]
      unfold upd
      by_cases k1 : c = c'
      · subst k1
        rw [if_pos rfl, if_pos rfl, h3, hef rfl]
      · rw [if_neg k1, if_neg k1]; exact h3
theorem rl_fr {c c' : Nat} {x y : RS} (hc : c < 12) (h : RlA c x y) : RlA c (frA c' x) (frA c' y) := by
  obtain ⟨h1, h2, h3, h4, h5⟩ := h
  unfold frA
  rw [h4 c']
  by_cases k0 : y.2.2.1 c' = 0
  · rw [if_pos k0, if_pos k0]; exact ⟨h1, h2, h3, h4, h5⟩
  · rw [if_neg k0, if_neg k0]
    refine ⟨fun k hk => ?_, ?_, ?_, fun q => ?_, h5⟩
    · simp only [upd]
      rw [if_neg (by omega), if_neg (by omega)]; exact h1 k hk
    · simp only [upd]
      by_cases k1 : 24 + c = 24 + c'
      · have : c' = c := by omega
        subst this
        rw [if_pos rfl, if_pos rfl, h2, h3]
      · rw [if_neg k1, if_neg k1]; exact h2
    · simp only [upd]
      by_cases k1 : c = c'
      · rw [if_pos k1, if_pos k1]
      · rw [if_neg k1, if_neg k1]; exact h3
    · simp only [upd]
      rw [h4 q]
theorem rl_ac {nc c a : Nat} {A : Nat → Int32} {x y : RS} (hnc : nc ≤ 12) (hc : c < 12) (ha : ActOK nc A a) (h : RlA c x y) : RlA c (acA nc A a x) (acA nc A a y) := by
  obtain ⟨k, c', q, hk, e1, e2, h7, h8, h9⟩ := ha
  unfold acA
  rw [e1, e2, x_cl (show c' < 2147483648 by by_cases k = 7 <;> omega)]
  by_cases k7 : (nI (k + 1) : Int32) = 8
  · rw [if_pos k7, if_pos k7]
    exact rl_mins hnc _ _ _ h
  · rw [if_neg k7, if_neg k7]
    have hk7 : k ≠ 7 := fun hq => k7 (by rw [hq]; rfl)
    have := h8 hk7
    by_cases k8 : (nI (k + 1) : Int32) = 9
    · rw [if_pos k8, if_pos k8]
      obtain ⟨h1, h2, h3, h4, h5⟩ := h
      refine ⟨h1, h2, h3, fun q => ?_, h5⟩
      simp only [upd]
      rw [h4 q]
    · rw [if_neg k8, if_neg k8]
      by_cases k9 : (nI (k + 1) : Int32) = 10
      · rw [if_pos k9, if_pos k9]
        exact rl_fr hc h
      · rw [if_neg k9, if_neg k9]
        exact rl_st hnc hc (by omega) h
theorem fold_rl {α : Type} {R : α → α → Prop} {f g : α → Nat → α} : ∀ (n : Nat) (x y : α), (∀ a x y, a < n → R x y → R (f x a) (g y a)) → R x y → R ((List.range n).foldl f x) ((List.range n).foldl g y)
  | 0, _, _, _, h => h
  | n + 1, x, y, hs, h => by
    rw [List.range_succ, List.foldl_append, List.foldl_append]
    exact hs n _ _ (by omega) (fold_rl n x y (fun a x y ha => hs a x y (by omega)) h)
theorem rl_go {nc ns na c : Nat} {A B B' O : Nat → Int32} {wo : Int32} (hnc : nc ≤ 12) (hc : c < 12) (hA : ∀ a, a < na → ActOK nc A a) (hB : B c = B' c) : RlA c (goA nc ns na A B O wo) (goA nc ns na A B' O wo) := by
  unfold goA frsA
  refine fold_rl nc _ _ (fun a x y ha h => rl_fr hc h) ?_
  unfold sesA
  refine fold_rl ns _ _ (fun k x y hk h => ?_) ?_
  · by_cases hw : O k = wo
    · rw [if_pos hw, if_pos hw]; exact h
    · rw [if_neg hw, if_neg hw]
      unfold seA
      refine fold_rl na _ _ (fun a x y ha h => ?_) h
      by_cases hs : A (4 * a + 3) = O k
      · rw [if_pos hs, if_pos hs]
        exact rl_ac hnc hc (hA a ha) h
      · rw [if_neg hs, if_neg hs]; exact h
  · refine ⟨fun k hk => ?_, ?_, rfl, fun q => rfl, rfl⟩
    · simp only [bgA]
      rw [if_neg (by omega), if_neg (by omega)]
    · simp only [bgA]
      rw [if_pos (by omega), if_pos (by omega), show 24 + c - 24 = c by omega, hB]
theorem bf_none {nc ns na c : Nat} {A : Nat → Int32} : ∀ n, (∀ k, k < n → flA nc ns na A c k = false) → bfA nc ns na A c n = -1000000
  | 0, _ => rfl
  | n + 1, h => by
    rw [bfA, bf_none n (fun k hk => h k (by omega)), if_pos rfl, h n (by omega)]
    exact if_neg (by decide)
theorem bv_bd {k : Nat} (h : k ≤ 80) : -40 ≤ (bvA k).toInt ∧ (bvA k).toInt ≤ 40 := by
  unfold bvA
  by_cases h1 : k % 2 = 1
  · rw [if_pos h1]
    have e1 : (nI (k / 2)).toInt = ((k / 2 : Nat) : Int) := ti_n (by omega)
    have e2 : (-nI (k / 2)).toInt = -((k / 2 : Nat) : Int) := by rw [ti_neg (by omega), e1]
    have e3 : (1 : Int32).toInt = 1 := rfl
    rw [ti_sub (by rw [e2, e3]; omega) (by rw [e2, e3]; omega), e2, e3]
    omega
  · rw [if_neg h1, ti_n (by omega)]
    omega
theorem bv_N {k : Nat} (h : k ≤ 80) : ¬ bvA k = -1000000 := fun hq => by
  have := bv_bd h
  rw [hq] at this
  exact absurd this (by decide)
theorem bf_hit {nc ns na c K : Nat} {A : Nat → Int32} (hK : K ≤ 80) (h1 : ∀ k, k < K → flA nc ns na A c k = false) (h2 : flA nc ns na A c K = true) : ∀ n, bfA nc ns na A c (K + 1 + n) = bvA K
  | 0 => by
    rw [Nat.add_zero, bfA, bf_none K h1, if_pos rfl, h2]
    exact if_pos rfl
  | n + 1 => by
    rw [show K + 1 + (n + 1) = (K + 1 + n) + 1 by omega, bfA, bf_hit hK h1 h2 n, if_neg (bv_N hK)]
theorem ah_none {nc ns na : Nat} {A : Nat → Int32} {c : Nat} (h : ahA nc ns na A c = -1000000) : ∀ n, ahA nc ns na A (c + n) = -1000000
  | 0 => h
  | n + 1 => by
    rw [show c + (n + 1) = (c + n) + 1 by omega, ahA, if_pos (ah_none h n)]
theorem fl_b {nc ns na c k : Nat} {A B O : Nat → Int32} {wo : Int32} (hnc : nc ≤ 12) (hc : c < 12) (hns : ns ≤ 6) (hA : ∀ a, a < na → ActOK nc A a) (hB : B c = bvA k) (hO : ∀ j, j < ns → O j = nI j) (hw : ∀ j, j < ns → ¬ nI j = wo) : flA nc ns na A c k = decide ((goA nc ns na A B O wo).1 (24 + c) = 0) := by
  unfold flA
  have h1 : goA nc ns na A (fun _ => bvA k) (fun j => nI j) (-1) = goA nc ns na A (fun _ => bvA k) O wo := goA_c (fun _ _ => rfl) (fun j hj => (hO j hj).symm) (fun j hj => ⟨fun q => absurd q (m1n (by omega)), fun q => by rw [hO j hj] at q; exact absurd q (hw j hj)⟩)
  rw [h1, (rl_go (B := fun _ => bvA k) (B' := B) hnc hc hA hB.symm).2.1]
/-! ===== the program's look ===== -/
theorem p_keep {μ : MT} {nc : Nat} {v : Int32} {x : RS} (hnc : nc ≤ 12) (hx : PIs μ 26 nc x) : Ok (m_X1_keepWhereFlat Zc 87 26 v μ) (fun ν => (∀ k, k ≠ 88 → ν k = μ k) ∧ (∀ c, c < nc → ν 88 c = if μ 88 c = -1000000 then (if x.1 (24 + c) = 0 then v else -1000000) else μ 88 c) ∧ ∀ c, nc ≤ c → ν 88 c = μ 88 c) := by
  have e7 := hx.1
  unfold m_X1_keepWhereFlat
  simp only [zA]
  refine ok_for (fun i ν => (∀ k, k ≠ 88 → ν k = μ k) ∧ (∀ c, c < i → ν 88 c = if μ 88 c = -1000000 then (if x.1 (24 + c) = 0 then v else -1000000) else μ 88 c) ∧ ∀ c, i ≤ c → ν 88 c = μ 88 c) 0 nc (by omega) (by omega) rfl ⟨fun _ _ => rfl, fun c hc => by omega, fun _ _ => rfl⟩ ?_ ?_
  · rintro i ν _ hi ⟨f, g1, g2⟩
    have q7 : ν 26 7 = nI nc := by rw [f 26 (by omega)]; exact e7
    simp only [q7]
    rw [if_neg (by rw [x_le (by omega) (by omega)]; omega), al_88 (by omega), ob_s, g2 i (Nat.le_refl _), zp_3 pn26]
    have hb : ν (26 + 4) i = x.1 (24 + i) := by rw [f (26 + 4) (by omega)]; exact (hx.2.2.2 i hi).2.1
    have hgo : ∀ ν' : MT, (∀ k, k ≠ 88 → ν' k = μ k) → (∀ c, c ≠ i → ν' 88 c = ν 88 c) → (ν' 88 i = if μ 88 i = -1000000 then (if x.1 (24 + i) = 0 then v else -1000000) else μ 88 i) → (∀ k, k ≠ 88 → ν' k = μ k) ∧ (∀ c, c < i + 1 → ν' 88 c = if μ 88 c = -1000000 then (if x.1 (24 + c) = 0 then v else -1000000) else μ 88 c) ∧ ∀ c, i + 1 ≤ c → ν' 88 c = μ 88 c := fun ν' a1 a2 a3 => ⟨a1, fun c hc => by
      by_cases hci : c = i
      · rw [hci]; exact a3
      · rw [a2 c hci]; exact g1 c (by omega), fun c hc => by rw [a2 c (by omega)]; exact g2 c (by omega)⟩
    by_cases h1 : μ 88 i = -1000000
    · rw [if_pos h1, al_P pn26 (by omega) (by omega) (by omega), ob_s, hb]
      by_cases h2 : x.1 (24 + i) = 0
      · rw [if_pos h2, as_88 (by omega)]
        simp only [ob_s, n1]
        refine ok_s (Or.inl ⟨_, rfl, hgo _ (fun k hk => by rw [u2_w, if_neg hk]; exact f k hk) (fun c hc => by rw [u2_r, if_neg (by omega)]) ?_⟩)
        rw [if_pos h1, if_pos h2, u2_r, if_pos ⟨rfl, rfl⟩]
      · rw [if_neg h2]
        simp only [ob_s, n1]
        refine ok_s (Or.inl ⟨_, rfl, hgo _ f (fun c hc => rfl) ?_⟩)
        rw [if_pos h1, if_neg h2, g2 i (Nat.le_refl _), h1]
    · rw [if_neg h1]
      simp only [ob_s, n1]
      refine ok_s (Or.inl ⟨_, rfl, hgo _ f (fun c hc => rfl) ?_⟩)
      rw [if_neg h1, g2 i (Nat.le_refl _)]
  · rintro ν ⟨f, g1, g2⟩
    have q7 : ν 26 7 = nI nc := by rw [f 26 (by omega)]; exact e7
    simp only [q7]
    rw [if_pos (by rw [x_le (by omega) (by omega)]; omega)]
    exact ok_s ⟨_, rfl, ok_s ⟨f, g1, g2⟩⟩
theorem p_bfl {μ : MT} {p nc ns na nb : Nat} (hp : isPl p) (hc4 : 4 ≤ nc) (hpl : PlIs μ p nc ns na nb) (h1000 : μ 1000 = μf 1000) (hbe : IBe nc ns na (μ 110) (μ 87 2) (μ 88)) :
    Ok (m_X1_look Zc 87 p 26 μ) (fun ν => ν 87 2 = 1 ∧ (∀ c, c < nc → ν 88 c = ahA nc ns na (μ 110) c) ∧ ∀ k, k ≠ 87 → k ≠ 88 → k ≠ 89 → k < 26 ∨ 32 < k → ν k = μ k) := by
  obtain ⟨hnc, hns, hna, hnb⟩ := pl_bd hpl
  have hpl2 := isPl_le hp
  have hact := pl_act hpl
  unfold m_X1_look
  rcases hbe with h0 | ⟨h1, h2⟩
  case inr =>
    rw [if_neg (by rw [h1]; decide)]
    exact ok_s ⟨h1, h2, fun _ _ _ _ _ => rfl⟩
  rw [if_pos h0]
  simp only [ob_s, zA]
  rw [q_fill (n := 12) (by simp only [zA]) (by omega), ob_s]
  have g : ∀ k, k ≠ 87 → k ≠ 88 → u1 (u2 μ 87 2 1) 88 (fun j => if j < 12 then -1000000 else u2 μ 87 2 1 88 j) k = μ k := fun k a b => by rw [u1_w, if_neg b, u2_w, if_neg a]
  have g87 : u1 (u2 μ 87 2 1) 88 (fun j => if j < 12 then -1000000 else u2 μ 87 2 1 88 j) 87 2 = 1 := by simp [u1_r, u2_r]
  have g88 : ∀ c, c < 12 → u1 (u2 μ 87 2 1) 88 (fun j => if j < 12 then -1000000 else u2 μ 87 2 1 88 j) 88 c = -1000000 := fun c hc => by rw [u1_r, if_pos rfl, if_pos hc]
  generalize u1 (u2 μ 87 2 1) 88 (fun j => if j < 12 then -1000000 else u2 μ 87 2 1 88 j) = μ1 at g g87 g88 ⊢
  refine ok_for (fun k ν => ν 87 2 = 1 ∧ (∀ c, c < nc → ν 88 c = bfA nc ns na (μ 110) c k) ∧ ∀ k, k ≠ 87 → k ≠ 88 → k ≠ 89 → k < 26 ∨ 32 < k → ν k = μ k) 0 81 (by omega) (by omega) rfl ⟨g87, fun c hc => g88 c (by omega), fun k a b _ _ => g k a b⟩ ?_ ?_
  · rintro k ν _ hk ⟨a1, a2, a3⟩
    simp only []
    have hr : irm (nI k) 2 = some (nI (k % 2)) := by
      unfold irm
      rw [if_neg (by decide)]
      congr 1
      exact pk_rem (a := k) (d := 2) (by omega) (by omega) (by omega)
    have hq : idv (nI k) 2 = some (nI (k / 2)) := by
      rw [x_d2, x_ndl (by omega) (by omega) (by omega)]
    have hz : (if nI (k % 2) = (1 : Int32) then (some (nI (k / 2))).bind fun x37 => some ((-x37) - 1) else (some (nI (k / 2))).bind fun x36 => some x36) = some (bvA k) := by
      unfold bvA
      by_cases h1 : k % 2 = 1
      · rw [if_pos (by rw [h1]; rfl), if_pos h1]; rfl
      · rw [if_neg (by rw [x_eql (by omega) (by omega)]; exact h1), if_neg h1]; rfl
    rw [if_neg (by rw [x_llt (by omega) (by omega)]; omega), hr, ob_s, hq, hz, ob_s, q_fill (n := 12) (by simp only [zA]) (by omega), ob_s]
    have b1 : ∀ q, q ≠ 89 → u1 ν 89 (fun j => if j < 12 then bvA k else ν 89 j) q = ν q := fun q hq => by rw [u1_w, if_neg hq]
    have b2 : ∀ c, c < 12 → u1 ν 89 (fun j => if j < 12 then bvA k else ν 89 j) 89 c = bvA k := fun c hc => by rw [u1_r, if_pos rfl, if_pos hc]
    generalize u1 ν 89 (fun j => if j < 12 then bvA k else ν 89 j) = ν1 at b1 b2 ⊢
    have w : ∀ q, q ≠ 87 → q ≠ 88 → q ≠ 89 → q < 26 ∨ 32 < q → ν1 q = μ q := fun q c1 c2 c3 c4 => by rw [b1 q c3, a3 q c1 c2 c3 c4]
    have t1 : ∀ j, j < 6 → ν1 1000 j = nI j := fun j hj => by rw [w 1000 (by omega) (by omega) (by omega) (by omega), h1000, t1000 j hj]
    have w110 : ν1 110 = μ 110 := w 110 (by omega) (by omega) (by omega) (by omega)
    have hgo := p_go (μ := ν1) (b := 26) (p := p) (k := 89) (o := 1000) (wo := -1) (nc := nc) (ns := ns) (na := na) (nb := nb) pn26 hp (by
      unfold PlIs
      rw [w p (by omega) (by omega) (by omega) (by omega), w (p + 1) (by omega) (by omega) (by omega) (by omega), w (p + 2) (by omega) (by omega) (by omega) (by omega), w (p + 3) (by omega) (by omega) (by omega) (by omega), w (p + 4) (by omega) (by omega) (by omega) (by omega), w (p + 5) (by omega) (by omega) (by omega) (by omega), w (p + 6) (by omega) (by omega) (by omega) (by omega), w110, w 111 (by omega) (by omega) (by omega) (by omega), w 112 (by omega) (by omega) (by omega) (by omega)]
      exact hpl) (by simp only [zA]) (by omega) (by simp only [zA]) (by omega) (fun j hj => ⟨j, hj, t1 j (by omega)⟩) (fun c hc => by rw [b2 c hc]; exact bv_bd (by omega))
    refine ok_b hgo ?_
    rintro ν2 ⟨k1, k2⟩
    refine ok_b (p_keep hnc k1) ?_
    rintro ν3 ⟨m1, m2, m3⟩
    simp only [ob_s, n1]
    refine ok_s (Or.inl ⟨_, rfl, ?_, fun c hc => ?_, fun q c1 c2 c3 c4 => ?_⟩)
    · rw [m1 87 (by omega), k2 87 (by omega), b1 87 (by omega)]; exact a1
    · rw [m2 c hc, k2 88 (by omega), b1 88 (by omega), a2 c hc, bfA]
      rw [fl_b (c := c) (k := k) (B := ν1 89) (O := ν1 1000) (wo := -1) hnc (by omega) hns hact (b2 c (by omega)) (fun j hj => t1 j (by omega)) (fun j hj => m1n (by omega)), w110]
      by_cases hz0 : (goA nc ns na (μ 110) (ν1 89) (ν1 1000) (-1)).1 (24 + c) = 0
      · simp [hz0]
      · simp [hz0]
    · rw [m1 q c2, k2 q (by omega), w q c1 c2 c3 c4]
  · rintro ν ⟨a1, a2, a3⟩
    simp only []
    rw [if_pos (by decide)]
    refine ok_s ⟨_, rfl, ?_⟩
    refine ok_for (fun i ω => (∀ k, k ≠ 88 → ω k = ν k) ∧ (∀ c, c < i → c < nc → ω 88 c = ahA nc ns na (μ 110) c) ∧ ∀ c, i ≤ c → c < nc → ω 88 c = bfA nc ns na (μ 110) c 81) 1 12 (by omega) (by omega) rfl ⟨fun _ _ => rfl, fun c hc hcn => by
      have : c = 0 := by omega
      subst this
      exact a2 0 hcn, fun c _ hcn => a2 c hcn⟩ ?_ ?_
    · rintro i ω h1i hi ⟨b1, b2, b3⟩
      simp only []
      rw [if_neg (by rw [x_lle (by omega) (by omega)]; omega), x_sl (by omega), al_88 (by omega), ob_s]
      have hah : ∀ hn : i < nc, ahA nc ns na (μ 110) i = if ahA nc ns na (μ 110) (i - 1) = -1000000 then -1000000 else bfA nc ns na (μ 110) i 81 := fun _ => by
        obtain ⟨j, rfl⟩ : ∃ j, i = j + 1 := ⟨i - 1, by omega⟩
        rw [ahA]; rfl
      by_cases h1 : ω 88 (i - 1) = -1000000
      · rw [if_pos h1, as_88 (by omega)]
        simp only [ob_s, n1]
        refine ok_s (Or.inl ⟨_, rfl, fun k hk => by rw [u2_w, if_neg hk]; exact b1 k hk, fun c hc hcn => ?_, fun c hc hcn => ?_⟩)
        · rw [u2_r]
          by_cases hci : c = i
          · rw [if_pos ⟨rfl, hci⟩, hci]
            have hin : i < nc := by omega
            rw [hah hin, ← b2 (i - 1) (by omega) (by omega), if_pos h1]
          · rw [if_neg (by omega)]
            exact b2 c (by omega) hcn
        · rw [u2_r, if_neg (by omega)]
          exact b3 c (by omega) hcn
      · rw [if_neg h1]
        simp only [ob_s, n1]
        refine ok_s (Or.inl ⟨_, rfl, b1, fun c hc hcn => ?_, fun c hc hcn => b3 c (by omega) hcn⟩)
        by_cases hci : c = i
        · have hin : i < nc := by omega
          rw [hci, hah hin, ← b2 (i - 1) (by omega) (by omega), if_neg h1]
          exact b3 i (Nat.le_refl _) hin
        · exact b2 c (by omega) hcn
    · rintro ω ⟨b1, b2, b3⟩
      simp only []
      rw [if_pos (by decide)]
      refine ok_s ⟨_, rfl, ok_s ⟨?_, fun c hc => b2 c (by omega) hc, fun k c1 c2 c3 c4 => ?_⟩⟩
      · rw [b1 87 (by omega)]; exact a1
      · rw [b1 k c2]; exact a3 k c1 c2 c3 c4
