/-! ===== bounds of the plain run ===== -/
def ActOK (nc : Nat) (A : Nat → Int32) (a : Nat) : Prop := ∃ k c q : Nat, k < 10 ∧ A (4 * a) = nI (k + 1) ∧ A (4 * a + 1) = nI c ∧ (k = 7 → c ≤ 30) ∧ (k ≠ 7 → c < nc) ∧ (k < 7 → 1 ≤ q ∧ q ≤ 20 ∧ A (4 * a + 2) = nI q)
theorem ti_div {a b : Int32} (hb : 0 < b.toInt) : (a / b).toInt = a.toInt.tdiv b.toInt := by
  rw [Int32.toInt_div]
  have h1 := ti_lo a
  have h2 := ti_hi a
  have h3 : (a.toInt.tdiv b.toInt).natAbs ≤ a.toInt.natAbs := by
    rw [Int.natAbs_tdiv]
    exact Nat.div_le_self _ _
  by_cases hm : a.toInt = -2147483648
  · have : (a.toInt.tdiv b.toInt) ≤ 0 := by
      rw [hm, show (-2147483648 : Int) = -(2147483648) from rfl, Int.neg_tdiv]
      have := Int.tdiv_nonneg (a := 2147483648) (b := b.toInt) (by omega) (by omega)
      omega
    exact Int.bmod_eq_of_le (by omega) (by omega)
  · exact Int.bmod_eq_of_le (by omega) (by omega)
theorem ab_div {a b : Int32} (hb : 0 < b.toInt) : (a / b).toInt.natAbs = a.toInt.natAbs / b.toInt.natAbs := by
  rw [ti_div hb, Int.natAbs_tdiv]
  rfl
theorem ab_add {a b : Int32} {n m : Nat} (ha : a.toInt.natAbs ≤ n) (hb : b.toInt.natAbs ≤ m) (h : n + m < 2147483648) : (a + b).toInt.natAbs ≤ n + m := by
  rw [ti_add (by omega) (by omega)]
  omega
theorem ab_neg {a : Int32} {n : Nat} (ha : a.toInt.natAbs ≤ n) (h : n < 2147483648) : (-a).toInt.natAbs ≤ n := by
  rw [ti_neg (by omega)]
  omega
theorem sh_bd {nc kd c q : Nat} {N : Nat → Int32} (h1 : 1 ≤ q) (h2 : q ≤ 20) : (shA nc N kd c (nI q)).toInt.natAbs ≤ 20 := by
  have e1 : (nI q).toInt = q := ti_n (by omega)
  have e2 : (-nI q).toInt = -q := by rw [ti_neg (by omega), e1]
  have e3 : (nI q - 1).toInt = q - 1 := ti_n1 (by omega)
  have e4 : (nI q - 0).toInt = q := by rw [ti_sub (by rw [e1, show (0 : Int32).toInt = 0 from rfl]; omega) (by rw [e1, show (0 : Int32).toInt = 0 from rfl]; omega), e1, show (0 : Int32).toInt = 0 from rfl]; omega
  have e5 : (nI q / 2).toInt.natAbs ≤ 20 := by rw [ab_div (by decide), e1]; show (q : Int).natAbs / 2 ≤ 20; omega
  unfold shA
  split
  · decide
  split
  · split <;> omega
  split
  · have f1 : (nI q - (if hoA nc N (c + 1) = true then 1 else 0) : Int32).toInt = q - 1 ∨ (nI q - (if hoA nc N (c + 1) = true then 1 else 0) : Int32).toInt = q := by
      split
      · left; exact e3
      · right; exact e4
    have f2 : (if (1 ≤ c ∧ hoA nc N (c - 1) = true) ∨ hoA nc N (c + 1) = true then (0 : Int32) else 1).toInt = 0 ∨ (if (1 ≤ c ∧ hoA nc N (c - 1) = true) ∨ hoA nc N (c + 1) = true then (0 : Int32) else 1).toInt = 1 := by
      split
      · left; rfl
      · right; rfl
    rw [ti_sub (by omega) (by omega)]
    omega
  split
  · split
    · exact e5
    · omega
  split
  · omega
  split
  · split <;> omega
  · omega
theorem ef_bd {nc kd c q g : Nat} {N : Nat → Int32} (h1 : 1 ≤ q) (h2 : q ≤ 20) (hg : N (12 + c) = nI g) (hg2 : g < 100000) : (efA nc N kd c (nI q)).toInt.natAbs ≤ 20 := by
  have hs := sh_bd (nc := nc) (kd := kd) (c := c) (N := N) h1 h2
  generalize hsh : shA nc N kd c (nI q) = sh at hs
  have e8 : (8 * sh).toInt = 8 * sh.toInt := by
    have e : (8 : Int32).toInt = 8 := rfl
    rw [ti_mul (by rw [e]; omega) (by rw [e]; omega), e]
  have ed : (8 + nI g : Int32).toInt = 8 + g := by
    rw [x_la, ti_n (by omega)]; omega
  have hq : (8 * sh / (8 + nI g)).toInt.natAbs ≤ 20 := by
    rw [ab_div (by omega), e8, ed]
    have : (8 * sh.toInt).natAbs ≤ 160 := by omega
    have h8 : ((8 : Int) + g).natAbs = 8 + g := by omega
    rw [h8]
    have h3 : (8 * sh.toInt).natAbs / (8 + g) ≤ (8 * sh.toInt).natAbs / 8 := Nat.div_le_div_left (by omega) (by omega)
    omega
  unfold efA
  rw [hg, hsh]
  split
  · rw [ab_div (by decide)]
    show _ / 2 ≤ 20
    omega
  · exact hq
theorem cool_n {h : Nat} (hh : h ≤ 480) : 3 * nI h / 4 = nI (3 * h / 4) ∧ 3 * h / 4 ≤ 360 := by
  refine ⟨?_, by omega⟩
  rw [x_lm, x_ndl (by omega) (by omega) (by omega)]
theorem bd_mono {nc m m' : Nat} {x : RS} (h : Bd nc m x) (hm : m ≤ m') : Bd nc m' x := by
  obtain ⟨⟨w, h1, h2⟩, h3⟩ := h
  refine ⟨⟨w, h1, by omega⟩, fun c hc => ?_⟩
  obtain ⟨a1, ⟨g, a2, a3⟩, a4, a5⟩ := h3 c hc
  exact ⟨a1, ⟨g, a2, by omega⟩, by omega, a5⟩
/-- one minute keeps all bounds but the clock's -/
theorem bd_mins {nc : Nat} : ∀ (n : Nat) (x : RS), (∀ c, c < nc → ∃ h : Nat, x.1 c = nI h ∧ h ≤ 360) → (∀ c, c < nc → ∃ h : Nat, (minsA nc n x).1 c = nI h ∧ h ≤ 360) ∧ (∀ k, nc ≤ k → (minsA nc n x).1 k = x.1 k) ∧ (minsA nc n x).2.1 = x.2.1 ∧ (minsA nc n x).2.2.1 = x.2.2.1 ∧ (minsA nc n x).2.2.2 = x.2.2.2 + nI n
  | 0, x, h => ⟨h, fun _ _ => rfl, rfl, rfl, by show x.2.2.2 = x.2.2.2 + 0; rw [Int32.add_zero]⟩
  | n + 1, x, h => by
    have h1 : ∀ c, c < nc → ∃ h : Nat, (minA nc x).1 c = nI h ∧ h ≤ 360 := fun c hc => by
      obtain ⟨v, e, hv⟩ := h c hc
      refine ⟨3 * v / 4, ?_, (cool_n (by omega)).2⟩
      show (if c < nc then 3 * x.1 c / 4 else x.1 c) = _
      rw [if_pos hc, e, (cool_n (by omega)).1]
    obtain ⟨a1, a2, a3, a4, a5⟩ := bd_mins n (minA nc x) h1
    refine ⟨a1, fun k hk => ?_, a3, a4, ?_⟩
    · show (minsA nc n (minA nc x)).1 k = _
      rw [a2 k hk]
      show (if k < nc then 3 * x.1 k / 4 else x.1 k) = _
      rw [if_neg (by omega)]
    · show (minsA nc n (minA nc x)).2.2.2 = _
      rw [a5]
      show x.2.2.2 + 1 + nI n = _
      rw [Int32.add_assoc, x_la, Nat.add_comm]
theorem bd_st {nc m kd c q : Nat} {x : RS} (h : Bd nc m x) (hc : nc ≤ 12) (hcc : c < nc) (h1 : 1 ≤ q) (h2 : q ≤ 20) (hm : m < 1000) : Bd nc (m + 1) (stA nc kd c (nI q) x) := by
  obtain ⟨⟨w, hw1, hw2⟩, h3⟩ := h
  refine ⟨⟨w + 1, ?_, by omega⟩, fun c' hc' => ?_⟩
  · show x.2.2.2 + 1 = _
    rw [hw1, x_al]
  · obtain ⟨⟨hh, a1, a2⟩, ⟨g, a3, a4⟩, a5, a6⟩ := h3 c' hc'
    by_cases hcc' : c' = c
    · subst hcc'
      have hef := ef_bd (nc := nc) (kd := kd) (c := c') (N := x.1) h1 h2 a3 (by omega)
      refine ⟨?_, ?_, ?_, a6⟩
      · have hhe : ∃ e : Nat, heA kd (nI q) = nI e ∧ e ≤ 120 := by
          unfold heA
          split
          · exact ⟨q, rfl, by omega⟩
          split
          · exact ⟨6 * q, x_lm, by omega⟩
          · exact ⟨4 * q, x_lm, by omega⟩
        obtain ⟨e, e1, e2⟩ := hhe
        refine ⟨3 * (hh + e) / 4, ?_, by omega⟩
        show (if c' < nc then 3 * (if c' = c' then x.1 c' + heA kd (nI q) else _) / 4 else _) = _
        rw [if_pos hc', if_pos rfl, a1, e1, x_a, (cool_n (by omega)).1]
      · have hhd : ∃ e : Nat, hdA kd = nI e ∧ e ≤ 2 := by
          unfold hdA
          split
          · exact ⟨0, rfl, by omega⟩
          split
          · exact ⟨1, rfl, by omega⟩
          · exact ⟨2, rfl, by omega⟩
        obtain ⟨e, e1, e2⟩ := hhd
        refine ⟨g + e, ?_, by omega⟩
        simp only [stA, minA]
        rw [if_neg (by omega), if_neg (by omega), if_pos trivial, a3, e1, x_a]
      · have hb : (stA nc kd c' (nI q) x).1 (24 + c') = if x.2.2.1 c' = 0 then x.1 (24 + c') + efA nc x.1 kd c' (nI q) else x.1 (24 + c') := by
          simp only [stA, minA]
          rw [if_neg (by omega), if_neg (by omega), if_neg (by omega), if_pos trivial]
        have hs : (stA nc kd c' (nI q) x).2.1 c' = if x.2.2.1 c' = 0 then x.2.1 c' else x.2.1 c' + efA nc x.1 kd c' (nI q) := by
          simp only [stA, minA]
          by_cases h0 : x.2.2.1 c' = 0
          · rw [if_pos h0, if_pos h0]
          · rw [if_neg h0, if_neg h0]; simp [upd]
        rw [hb, hs]
        by_cases h0 : x.2.2.1 c' = 0
        · rw [if_pos h0, if_pos h0]
          have := ab_add (Nat.le_refl (x.1 (24 + c')).toInt.natAbs) hef (by omega)
          omega
        · rw [if_neg h0, if_neg h0]
          have := ab_add (Nat.le_refl (x.2.1 c').toInt.natAbs) hef (by omega)
          omega
    · refine ⟨⟨3 * hh / 4, ?_, by omega⟩, ⟨g, ?_, by omega⟩, ?_, a6⟩
      · simp only [stA, minA]
        rw [if_pos hc', if_neg hcc', if_neg (by omega), if_neg (by omega), if_neg (by omega), a1, (cool_n (by omega)).1]
      · simp only [stA, minA]
        rw [if_neg (by omega), if_neg (by omega), if_neg (by omega), if_neg (by omega), if_neg (by omega), a3]
      · have hb : (stA nc kd c (nI q) x).1 (24 + c') = x.1 (24 + c') := by
          simp only [stA, minA]
          rw [if_neg (by omega), if_neg (by omega), if_neg (by omega), if_neg (by omega), if_neg (by omega)]
        have hs : (stA nc kd c (nI q) x).2.1 c' = x.2.1 c' := by
          simp only [stA, minA]
          by_cases h0 : x.2.2.1 c = 0
          · rw [if_pos h0]
          · rw [if_neg h0]; simp [upd, hcc']
        rw [hb, hs]
        omega
theorem bd_fr {nc m c : Nat} {x : RS} (h : Bd nc m x) (hc : nc ≤ 12) (hcc : c < nc) (hm : m < 1000) : Bd nc m (frA c x) := by
  unfold frA
  by_cases h0 : x.2.2.1 c = 0
  · rw [if_pos h0]; exact h
  · rw [if_neg h0]
    obtain ⟨hw, h3⟩ := h
    refine ⟨hw, fun c' hc' => ?_⟩
    obtain ⟨⟨hh, a1, a2⟩, ⟨g, a3, a4⟩, a5, a6⟩ := h3 c' hc'
    refine ⟨⟨hh, ?_, a2⟩, ⟨g, ?_, a4⟩, ?_, ?_⟩
    · simp only [upd]
      rw [if_neg (by omega), a1]
    · simp only [upd]
      rw [if_neg (by omega), a3]
    · by_cases hcc' : c' = c
      · subst hcc'
        simp only [upd, if_true]
        have h2 : (x.2.1 c' / 2).toInt.natAbs ≤ (x.2.1 c').toInt.natAbs := by
          rw [ab_div (by decide)]; exact Nat.div_le_self _ _
        have := ab_add (Nat.le_refl (x.1 (24 + c')).toInt.natAbs) h2 (by omega)
        have e0 : (0 : Int32).toInt = 0 := rfl
        rw [e0]
        omega
      · simp only [upd]
        rw [if_neg (by omega), if_neg hcc']
        exact a5
    · simp only [upd]
      by_cases hcc' : c' = c
      · rw [if_pos hcc']; left; rfl
      · rw [if_neg hcc']; exact a6
theorem bd_ac {nc m a : Nat} {A : Nat → Int32} {x : RS} (h : Bd nc m x) (hc : nc ≤ 12) (ha : ActOK nc A a) (hm : m < 1000) : Bd nc (m + 1) (acA nc A a x) := by
  obtain ⟨k, c, q, hk, e1, e2, h7, h8, h9⟩ := ha
  unfold acA
  rw [e1, e2, x_cl (show c < 2147483648 by by_cases k = 7 <;> omega)]
  by_cases k7 : k = 7
  · subst k7
    rw [if_pos (by rfl)]
    have := h7 rfl
    obtain ⟨⟨w, hw1, hw2⟩, h3⟩ := h
    obtain ⟨a1, a2, a3, a4, a5⟩ := bd_mins (nc := nc) c x (fun c' hc' => (h3 c' hc').1)
    refine ⟨⟨w + c, by rw [a5, hw1, x_a], by omega⟩, fun c' hc' => ?_⟩
    obtain ⟨b1, ⟨g, b2, b3⟩, b4, b5⟩ := h3 c' hc'
    refine ⟨a1 c' hc', ⟨g, by rw [a2 _ (by omega)]; exact b2, by omega⟩, ?_, by rw [a4]; exact b5⟩
    rw [a2 _ (by omega), a3]
    omega
  · have hcn := h8 k7
    rw [if_neg (by rw [x_eql (by omega) (by omega)]; omega)]
    by_cases k8 : k = 8
    · rw [if_pos (by rw [k8]; rfl)]
      obtain ⟨hw, h3⟩ := bd_mono h (Nat.le_succ m)
      refine ⟨hw, fun c' hc' => ?_⟩
      obtain ⟨b1, b2, b3, b4⟩ := h3 c' hc'
      refine ⟨b1, b2, b3, ?_⟩
      simp only [upd]
      by_cases hcc' : c' = c
      · rw [if_pos hcc']; right; rfl
      · rw [if_neg hcc']; exact b4
    · rw [if_neg (by rw [x_eql (by omega) (by omega)]; omega)]
      by_cases k9 : k = 9
      · rw [if_pos (by rw [k9]; rfl)]
        exact bd_mono (bd_fr h hc hcn hm) (Nat.le_succ m)
      · rw [if_neg (by rw [x_eql (by omega) (by omega)]; omega)]
        obtain ⟨q1, q2, q3⟩ := h9 (by omega)
        rw [q3]
        exact bd_st h hc hcn q1 q2 hm
theorem bd_bg {nc : Nat} {B : Nat → Int32} (hc : nc ≤ 12) (hB : ∀ c, c < 12 → -40 ≤ (B c).toInt ∧ (B c).toInt ≤ 40) : Bd nc 0 (bgA B) := by
  refine ⟨⟨0, rfl, by omega⟩, fun c hcc => ⟨⟨0, ?_, by omega⟩, ⟨0, ?_, by omega⟩, ?_, Or.inl rfl⟩⟩
  · simp only [bgA]
    rw [if_neg (by omega)]; rfl
  · simp only [bgA]
    rw [if_neg (by omega)]; rfl
  · simp only [bgA]
    rw [if_pos (by omega), show 24 + c - 24 = c by omega]
    have := hB c (by omega)
    have e0 : (0 : Int32).toInt = 0 := rfl
    rw [e0]
    omega
theorem bd_se {nc na : Nat} {A : Nat → Int32} {s : Int32} (hc : nc ≤ 12) (ha : ∀ a, a < na → ActOK nc A a) : ∀ (n m : Nat) (x : RS), n ≤ na → Bd nc m x → m + n < 1000 → Bd nc (m + n) ((List.range n).foldl (fun x a => if A (4 * a + 3) = s then acA nc A a x else x) x)
  | 0, m, x, _, h, _ => h
  | n + 1, m, x, hn, h, hm => by
    rw [List.range_succ, List.foldl_append]
    have ih := bd_se (s := s) hc ha n m x (by omega) h (by omega)
    simp only [List.foldl_cons, List.foldl_nil]
    by_cases hs : A (4 * n + 3) = s
    · rw [if_pos hs]
      exact bd_ac (m := m + n) ih hc (ha n (by omega)) (by omega)
    · rw [if_neg hs]
      exact bd_mono ih (by omega)
theorem bd_ses {nc na : Nat} {A O : Nat → Int32} {wo : Int32} (hc : nc ≤ 12) (hna : na ≤ 40) (ha : ∀ a, a < na → ActOK nc A a) : ∀ (n m : Nat) (x : RS), Bd nc m x → m + 40 * n < 1000 → Bd nc (m + 40 * n) (sesA nc na A wo O n x)
  | 0, m, x, h, _ => h
  | n + 1, m, x, h, hm => by
    unfold sesA
    rw [List.range_succ, List.foldl_append]
    have ih := bd_ses (wo := wo) (O := O) hc hna ha n m x h (by omega)
    unfold sesA at ih
    simp only [List.foldl_cons, List.foldl_nil]
    split
    · exact bd_mono ih (by omega)
    · exact bd_mono (bd_se hc ha na _ _ (Nat.le_refl _) ih (by omega)) (by omega)
theorem bd_frs {nc m : Nat} (hc : nc ≤ 12) (hm : m < 1000) : ∀ (n : Nat) (x : RS), n ≤ nc → Bd nc m x → Bd nc m ((List.range n).foldl (fun x c => frA c x) x)
  | 0, x, _, h => h
  | n + 1, x, hn, h => by
    rw [List.range_succ, List.foldl_append]
    exact bd_fr (bd_frs hc hm n x (by omega) h) hc (by omega) hm
theorem bd_go {nc ns na : Nat} {A B O : Nat → Int32} {wo : Int32} (hc : nc ≤ 12) (hns : ns ≤ 6) (hna : na ≤ 40) (ha : ∀ a, a < na → ActOK nc A a) (hB : ∀ c, c < 12 → -40 ≤ (B c).toInt ∧ (B c).toInt ≤ 40) : Bd nc 240 (goA nc ns na A B O wo) := by
  have h1 := bd_ses (wo := wo) (O := O) hc hna ha ns 0 (bgA B) (bd_bg hc hB) (by omega)
  exact bd_frs hc (by omega) nc _ (Nat.le_refl _) (bd_mono h1 (by omega))
