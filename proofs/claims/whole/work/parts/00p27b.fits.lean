/-! ===== which orders fit, by prefixes ===== -/
def sumN (f : Nat → Nat) : Nat → Nat
  | 0 => 0
  | n + 1 => sumN f n + f n
theorem sumN_c {f g : Nat → Nat} : ∀ {n : Nat}, (∀ i, i < n → f i = g i) → sumN f n = sumN g n
  | 0, _ => rfl
  | n + 1, h => by rw [sumN, sumN, sumN_c (fun i hi => h i (by omega)), h n (by omega)]
theorem sumN_u {f g : Nat → Nat} {c : Nat} : ∀ {n : Nat}, c < n → (∀ i, i ≠ c → f i = g i) → sumN f n + g c = sumN g n + f c
  | 0, h, _ => by omega
  | n + 1, h, hg => by
    rw [sumN, sumN]
    by_cases hc : c = n
    · subst hc
      rw [sumN_c (g := g) (fun i hi => hg i (by omega))]
      omega
    · have := sumN_u (n := n) (by omega) hg
      rw [hg n (by omega)]
      omega
theorem flat_cg {α β : Type} {f g : α → List β} : ∀ {L : List α}, (∀ a, a ∈ L → f a = g a) → L.flatMap f = L.flatMap g
  | [], _ => rfl
  | a :: L, h => by
    rw [List.flatMap_cons, List.flatMap_cons, h a List.mem_cons_self, flat_cg (fun b hb => h b (List.mem_cons_of_mem _ hb))]
theorem flat_len {α : Type} {f : Nat → List α} : ∀ n, ((List.range n).flatMap f).length = sumN (fun s => (f s).length) n
  | 0 => rfl
  | n + 1 => by
    rw [List.range_succ, List.flatMap_append, List.length_append, flat_len n, sumN]
    simp
def mfB (w : Nat → Nat) (s b : Nat) : Bool := !(b.testBit s) && (List.range 6).all (fun f => !((w s).testBit f) || b.testBit f)
def blL (l : List Nat) : Nat := l.foldl (fun b s => b ||| 2 ^ s) 0
theorem bl_t : ∀ (l : List Nat) (b f : Nat), (l.foldl (fun b s => b ||| 2 ^ s) b).testBit f = (b.testBit f || decide (f ∈ l))
  | [], b, f => by simp
  | s :: l, b, f => by
    rw [List.foldl_cons, bl_t l]
    rw [Nat.testBit_or, Nat.testBit_two_pow]
    by_cases h1 : s = f
    · subst h1; simp
    · have h2 : ¬ f = s := fun h => h1 h.symm
      simp [h1, h2]
theorem blL_t (l : List Nat) (f : Nat) : (blL l).testBit f = decide (f ∈ l) := by
  unfold blL
  rw [bl_t]
  simp
theorem blL_s (l : List Nat) (s : Nat) : blL (l ++ [s]) = blL l ||| 2 ^ s := by
  unfold blL
  rw [List.foldl_append]
  rfl
def pvA (ns : Nat) (w : Nat → Nat) : Nat → List Nat → List (List Nat)
  | 0, l => [l]
  | n + 1, l => (List.range ns).flatMap (fun s => if mfB w s (blL l) = true then pvA ns w n (l ++ [s]) else [])
def dnA (ns : Nat) (w : Nat → Nat) : Nat → Nat → Nat
  | 0, _ => 1
  | n + 1, b => sumN (fun s => if mfB w s b = true then dnA ns w n (b ||| 2 ^ s) else 0) ns
theorem pv_len {ns : Nat} {w : Nat → Nat} : ∀ n l, (pvA ns w n l).length = dnA ns w n (blL l)
  | 0, l => rfl
  | n + 1, l => by
    rw [pvA, dnA, flat_len]
    refine sumN_c (fun s hs => ?_)
    by_cases h : mfB w s (blL l) = true
    · rw [if_pos h, if_pos h, pv_len n, blL_s]
    · rw [if_neg h, if_neg h]; rfl
/-- every seam of the list has what must be in before it -/
def CpA (nb : Nat) (AH BH : Nat → Int32) (l : List Nat) : Prop := ∀ b, b < nb → ∀ j, j < l.length → BH b = nI (l.getD j 0) → ∃ i, i < j ∧ AH b = nI (l.getD i 0)
theorem CpA_s {nb : Nat} {AH BH : Nat → Int32} {l : List Nat} {s : Nat} : CpA nb AH BH (l ++ [s]) ↔ (CpA nb AH BH l ∧ ∀ b, b < nb → BH b = nI s → ∃ i, i < l.length ∧ AH b = nI (l.getD i 0)) := by
  have g1 : ∀ j, j < l.length → (l ++ [s]).getD j 0 = l.getD j 0 := fun j hj => by simp [List.getD, List.getElem?_append_left hj]
  have g2 : (l ++ [s]).getD l.length 0 = s := by simp [List.getD]
  have g3 : (l ++ [s]).length = l.length + 1 := by simp
  constructor
  · intro h
    refine ⟨fun b hb j hj he => ?_, fun b hb he => ?_⟩
    · obtain ⟨i, h1, h2⟩ := h b hb j (by omega) (by rw [g1 j hj]; exact he)
      exact ⟨i, h1, by rw [g1 i (by omega)] at h2; exact h2⟩
    · obtain ⟨i, h1, h2⟩ := h b hb l.length (by omega) (by rw [g2]; exact he)
      exact ⟨i, h1, by rw [g1 i (by omega)] at h2; exact h2⟩
  · rintro ⟨h1, h2⟩ b hb j hj he
    by_cases hjl : j = l.length
    · subst hjl
      rw [g2] at he
      obtain ⟨i, h3, h4⟩ := h2 b hb he
      exact ⟨i, h3, by rw [g1 i h3]; exact h4⟩
    · rw [g1 j (by omega)] at he
      obtain ⟨i, h3, h4⟩ := h1 b hb j (by omega) he
      exact ⟨i, h3, by rw [g1 i (by omega)]; exact h4⟩
/-- what the masks of needs say -/
def NdA (ns nb : Nat) (AH BH : Nat → Int32) (w : Nat → Nat) : Prop := (∀ b, b < nb → ∃ f l, f < ns ∧ l < ns ∧ f ≠ l ∧ AH b = nI f ∧ BH b = nI l) ∧ (∀ s, s < ns → w s < 64 ∧ ∀ f, f < 6 → ((w s).testBit f = true ↔ ∃ b, b < nb ∧ AH b = nI f ∧ BH b = nI s))
theorem mf_iff {ns nb s : Nat} {AH BH : Nat → Int32} {w : Nat → Nat} {l : List Nat} (hw : NdA ns nb AH BH w) (hns : ns ≤ 6) (hs : s < ns) (hl : ∀ q ∈ l, q < ns) : mfB w s (blL l) = true ↔ (s ∉ l ∧ ∀ b, b < nb → BH b = nI s → ∃ i, i < l.length ∧ AH b = nI (l.getD i 0)) := by
  unfold mfB
  simp only [blL_t, Bool.and_eq_true, List.all_eq_true, List.mem_range, Bool.or_eq_true, Bool.not_eq_true', decide_eq_true_eq, decide_eq_false_iff_not]
  constructor
  · rintro ⟨h1, h2⟩
    refine ⟨h1, fun b hb he => ?_⟩
    obtain ⟨f, q, hf, hq, hfq, e1, e2⟩ := hw.1 b hb
    have ht : (w s).testBit f = true := ((hw.2 s hs).2 f (by omega)).mpr ⟨b, hb, e1, he⟩
    have hm : f ∈ l := by
      rcases h2 f (by omega) with h3 | h3
      · rw [ht] at h3; exact absurd h3 (by decide)
      · exact h3
    obtain ⟨i, hi, hii⟩ := List.getElem_of_mem hm
    refine ⟨i, hi, ?_⟩
    rw [e1]
    simp [List.getD, hi, hii]
  · rintro ⟨h1, h2⟩
    refine ⟨h1, fun f hf => ?_⟩
    by_cases ht : (w s).testBit f = true
    · right
      obtain ⟨b, hb, e1, e2⟩ := ((hw.2 s hs).2 f hf).mp ht
      obtain ⟨i, hi, e3⟩ := h2 b hb e2
      rw [e1] at e3
      have hm : l.getD i 0 ∈ l := by
        simp [List.getD, hi]
      have := hl _ hm
      have e4 := (nI_inj (by omega) (by omega)).mp e3
      rw [e4]
      exact hm
    · left
      simpa using ht
theorem pm_filter {ns nb : Nat} {AH BH : Nat → Int32} {w : Nat → Nat} {P : List Nat → Bool} (hw : NdA ns nb AH BH w) (hns : ns ≤ 6) (hP : ∀ l, P l = true ↔ CpA nb AH BH l) : ∀ n l, (∀ q ∈ l, q < ns) → (pmA ns n l).filter P = if P l = true then pvA ns w n l else []
  | 0, l, hl => by
    rw [pmA, pvA]
    by_cases h : P l = true
    · rw [if_pos h]; simp [h]
    · rw [if_neg h]; simp [h]
  | n + 1, l, hl => by
    rw [pmA, pvA, List.filter_flatMap]
    have hl2 : ∀ s, s < ns → ∀ q ∈ l ++ [s], q < ns := fun s hs q hq => by
      rcases List.mem_append.mp hq with h | h
      · exact hl q h
      · simp at h; omega
    by_cases h : P l = true
    · rw [if_pos h]
      have hc := (hP l).mp h
      have : ∀ s, s ∈ List.range ns → (if s ∈ l then [] else pmA ns n (l ++ [s])).filter P = if mfB w s (blL l) = true then pvA ns w n (l ++ [s]) else [] := fun s hs => by
        have hs' := List.mem_range.mp hs
        by_cases hm : s ∈ l
        · rw [if_pos hm, if_neg (fun hq => ((mf_iff hw hns hs' hl).mp hq).1 hm)]
          rfl
        · rw [if_neg hm, pm_filter hw hns hP n (l ++ [s]) (hl2 s hs')]
          by_cases hq : mfB w s (blL l) = true
          · rw [if_pos hq, if_pos]
            rw [hP, CpA_s]
            exact ⟨hc, ((mf_iff hw hns hs' hl).mp hq).2⟩
          · rw [if_neg hq, if_neg]
            intro hp
            rw [hP, CpA_s] at hp
            exact hq ((mf_iff hw hns hs' hl).mpr ⟨hm, hp.2⟩)
      exact flat_cg this
    · rw [if_neg h]
      have : ∀ s, s ∈ List.range ns → (if s ∈ l then [] else pmA ns n (l ++ [s])).filter P = [] := fun s hs => by
        have hs' := List.mem_range.mp hs
        by_cases hm : s ∈ l
        · rw [if_pos hm]; rfl
        · rw [if_neg hm, pm_filter hw hns hP n (l ++ [s]) (hl2 s hs'), if_neg]
          intro hp
          rw [hP, CpA_s] at hp
          exact h ((hP l).mpr hp.1)
      rw [flat_cg this]
      simp
theorem pl_inj : ∀ ns, ns < 7 → (pmA ns ns []).all (fun l => (List.range ns).all (fun i => (List.range ns).all (fun j => decide (l.getD i 0 = l.getD j 0 → i = j)) && (List.range ns).any (fun j => decide (l.getD j 0 = i)))) = true := by decide +kernel
theorem ps_at {O : Nat → Int32} {v : Int32} {j : Nat} : ∀ {n : Nat}, j < n → O j = v → (∀ i, i < n → O i = v → i = j) → psA O v n = j
  | 0, h, _, _ => by omega
  | n + 1, h, e, hu => by
    rw [psA]
    by_cases hn : O n = v
    · rw [if_pos hn]; exact hu n (by omega) hn
    · rw [if_neg hn]
      have : j ≠ n := fun hq => hn (by rw [← hq]; exact e)
      exact ps_at (by omega) e (fun i hi he => hu i (by omega) he)
theorem pl_facts {ns : Nat} (hns : ns ≤ 6) {l : List Nat} (hl : l ∈ pmA ns ns []) : l.length = ns ∧ (∀ q ∈ l, q < ns) ∧ (∀ i j, i < ns → j < ns → l.getD i 0 = l.getD j 0 → i = j) ∧ (∀ f, f < ns → ∃ j, j < ns ∧ l.getD j 0 = f) := by
  have h1 := List.all_eq_true.mp (pl_all ns (by omega)) l hl
  have h2 := List.all_eq_true.mp (pl_inj ns (by omega)) l hl
  simp only [Bool.and_eq_true, decide_eq_true_eq, List.all_eq_true, List.mem_range, List.any_eq_true] at h1 h2
  exact ⟨h1.1, h1.2, fun i j hi hj => (h2 i hi).1 j hj, fun f hf => (h2 f hf).2⟩
theorem getD_lt {ns : Nat} {l : List Nat} (h : ∀ q ∈ l, q < ns) {k : Nat} (hk : k < l.length) : l.getD k 0 < ns := h _ (by simp [List.getD, hk])
theorem ft_iff {ns nb : Nat} {AH BH : Nat → Int32} (hw : ∀ b, b < nb → ∃ f l, f < ns ∧ l < ns ∧ f ≠ l ∧ AH b = nI f ∧ BH b = nI l) (hns : ns ≤ 6) {l : List Nat} (hl : l ∈ pmA ns ns []) : ftA ns nb AH BH (orA l) = true ↔ CpA nb AH BH l := by
  obtain ⟨h1, h2, h3, h4⟩ := pl_facts hns hl
  have hin : ∀ i j, i < ns → j < ns → nI (l.getD i 0) = nI (l.getD j 0) → i = j := fun i j hi hj he => by
    have b1 := getD_lt h2 (k := i) (by omega)
    have b2 := getD_lt h2 (k := j) (by omega)
    exact h3 i j hi hj ((nI_inj (by omega) (by omega)).mp he)
  unfold ftA CpA
  simp only [List.all_eq_true, List.mem_range, decide_eq_true_eq]
  constructor
  · intro h b hb j hj he
    obtain ⟨f, q, hf, hq, hfq, e1, e2⟩ := hw b hb
    obtain ⟨i, hi, ei⟩ := h4 f hf
    have := h b hb
    rw [ps_at (O := orA l) (v := AH b) (j := i) hi (by rw [e1, ← ei]; rfl) (fun i' hi' he' => hin i' i hi' hi (by rw [ei, ← e1]; exact he')), ps_at (O := orA l) (v := BH b) (j := j) (by omega) he.symm (fun i' hi' he' => hin i' j hi' (by omega) (by rw [← he]; exact he'))] at this
    exact ⟨i, this, by rw [e1, ei]⟩
  · intro h b hb
    obtain ⟨f, q, hf, hq, hfq, e1, e2⟩ := hw b hb
    obtain ⟨i, hi, ei⟩ := h4 f hf
    obtain ⟨j, hj, ej⟩ := h4 q hq
    obtain ⟨i2, hi2, e3⟩ := h b hb j (by omega) (by rw [e2, ej])
    have : i2 = i := hin i2 i (by omega) hi (by rw [← e3, e1, ei])
    rw [ps_at (O := orA l) (v := AH b) (j := i) hi (by rw [e1, ← ei]; rfl) (fun i' hi' he' => hin i' i hi' hi (by rw [ei, ← e1]; exact he')), ps_at (O := orA l) (v := BH b) (j := j) hj (by rw [e2, ← ej]; rfl) (fun i' hi' he' => hin i' j hi' hj (by rw [ej, ← e2]; exact he'))]
    omega
theorem pl_fit {ns nb : Nat} {AH BH : Nat → Int32} {w : Nat → Nat} (hw : NdA ns nb AH BH w) (hns : ns ≤ 6) : (pmA ns ns []).filter (fun l => ftA ns nb AH BH (orA l)) = pvA ns w ns [] := by
  have hx : ∃ P : List Nat → Bool, ∀ l, P l = true ↔ CpA nb AH BH l := by
    refine ⟨fun l => @decide (CpA nb AH BH l) (Classical.propDecidable _), fun l => ?_⟩
    simp
  obtain ⟨P, hP⟩ := hx
  have h1 : (pmA ns ns []).filter (fun l => ftA ns nb AH BH (orA l)) = (pmA ns ns []).filter P := by
    refine List.filter_congr (fun l hl => ?_)
    have a := ft_iff hw.1 hns hl
    have b := hP l
    cases hq : P l
    · cases hq2 : ftA ns nb AH BH (orA l)
      · rfl
      · exact absurd (b.mpr (a.mp hq2)) (by rw [hq]; decide)
    · exact a.mpr (b.mp hq)
  rw [h1, pm_filter hw hns hP ns [] (fun q hq => by simp at hq), if_pos]
  rw [hP]
  intro b hb j hj
  simp at hj
/-- the masks, out of the plan -/
theorem nd_ex {nc ns na nb : Nat} {r kd pc st sm se nd A AH BH : Nat → Int32} (h : IPl nc ns na nb r kd pc st sm se nd A AH BH) : ∃ w : Nat → Nat, NdA ns nb AH BH w ∧ ∀ s, s < ns → nd s = nI (w s) := by
  obtain ⟨-, -, -, -, h5, h6⟩ := h
  have hx : ∀ s, ∃ w : Nat, s < ns → w < 64 ∧ nd s = nI w ∧ ∀ f, f < 6 → (w.testBit f = true ↔ ∃ b, b < nb ∧ AH b = nI f ∧ BH b = nI s) := fun s => by
    by_cases hs : s < ns
    · obtain ⟨w, hw⟩ := h6 s hs
      exact ⟨w, fun _ => hw⟩
    · exact ⟨0, fun hq => absurd hq hs⟩
  refine ⟨fun s => Classical.choose (hx s), ⟨h5, fun s hs => ?_⟩, fun s hs => ?_⟩
  · have := Classical.choose_spec (hx s) hs
    exact ⟨this.1, this.2.2⟩
  · exact (Classical.choose_spec (hx s) hs).2.1
