/-! ===== small facts: numbers, bits, loops ===== -/
theorem fa_lt (a b : Int32) : a < b ↔ a.toInt < b.toInt := Int32.lt_iff_toInt_lt
theorem fa_le (a b : Int32) : a ≤ b ↔ a.toInt ≤ b.toInt := Int32.le_iff_toInt_le
theorem fa_eq (a b : Int32) : a = b ↔ a.toInt = b.toInt := Int32.toInt_inj.symm
theorem fa_lt64 (a b : Int64) : a < b ↔ a.toInt < b.toInt := Int64.lt_iff_toInt_lt
theorem fa_le64 (a b : Int64) : a ≤ b ↔ a.toInt ≤ b.toInt := Int64.le_iff_toInt_le
theorem ti_n {n : Nat} (h : n < 2 ^ 31) : (nI n).toInt = n := by
  unfold nI
  rw [Int32.toInt_ofNat']
  rw [Int32.size] ; exact Int.bmod_eq_of_le (by omega) (by omega)
theorem nI_inj {a b : Nat} (ha : a < 2 ^ 31) (hb : b < 2 ^ 31) : nI a = nI b ↔ a = b := by
  rw [fa_eq, ti_n ha, ti_n hb]; omega
theorem nI_lti {a b : Nat} (ha : a < 2 ^ 31) (hb : b < 2 ^ 31) : nI a < nI b ↔ a < b := by
  rw [fa_lt, ti_n ha, ti_n hb]; omega
theorem nI_lei {a b : Nat} (ha : a < 2 ^ 31) (hb : b < 2 ^ 31) : nI a ≤ nI b ↔ a ≤ b := by
  rw [fa_le, ti_n ha, ti_n hb]; omega
theorem fa_lit (n : Nat) : (OfNat.ofNat n : Int32) = nI n := rfl
/-- an int that isn't negative, as a number -/
theorem nI_tn {a : Int32} (h : 0 ≤ a.toInt) : a = nI a.toInt.toNat := by
  have h2 : a.toInt < 2 ^ 31 := Int32.toInt_lt a
  rw [fa_eq, ti_n (by omega)]
  omega
theorem nI_ex {a : Int32} {n : Nat} (h : 0 ≤ a.toInt) (h2 : a.toInt < n) : ∃ s, s < n ∧ a = nI s := ⟨a.toInt.toNat, by omega, nI_tn h⟩
theorem inb_n {i n : Nat} (h : i < 2 ^ 31) : inb (nI i) n = decide (i < n) := by
  unfold inb
  have h1 : ¬ nI i < 0 := by
    show ¬ nI i < nI 0
    rw [nI_lti h (by omega)]; omega
  rw [nI_clamp h]
  by_cases h2 : i < n
  · simp [h1, h2]
  · simp [h1, h2, Nat.not_lt.mp h2]
theorem ald_n {μ : MT} {k i n : Nat} (hl : zl Zc k = n) (h : i < n) (hn : n < 1000) : ald Zc μ k (nI i) = some (μ k i) := by
  unfold ald
  rw [inb_n (by omega), hl, nI_clamp (by omega)]
  simp [h]
theorem ast_n {μ : MT} {k i n : Nat} {v : Int32} (hl : zl Zc k = n) (h : i < n) (hn : n < 1000) : ast Zc μ k (nI i) v = some (u2 μ k i v) := by
  unfold ast
  rw [inb_n (by omega), hl, nI_clamp (by omega)]
  simp [h]
theorem ard_n {k i n : Nat} (hl : zl Zc k = n) (h : i < n) (hn : n < 1000) : ard Zc k (nI i) = some (zr Zc k i) := by
  unfold ard
  rw [inb_n (by omega), hl, nI_clamp (by omega)]
  simp [h]
def bI (p : Prop) [Decidable p] : Int32 := if p then 1 else 0
theorem bI_0 {p : Prop} [Decidable p] : bI p = 0 ↔ ¬ p := by
  unfold bI
  by_cases h : p <;> simp [h]
theorem bI_t {p : Prop} [Decidable p] (h : p) : bI p = 1 := if_pos h
theorem bI_f {p : Prop} [Decidable p] (h : ¬ p) : bI p = 0 := if_neg h
theorem bz_b {p : Prop} [Decidable p] : bz (bI p) = some (bI p) := by
  unfold bz bI
  by_cases h : p <;> simp [h]
theorem bz_0 : bz 0 = some 0 := by unfold bz; simp
theorem bz_1 : bz 1 = some 1 := by unfold bz; simp
theorem q_in (a lo hi : Int64) (μ : MT) : m_X9_in Zc a lo hi μ = some (bI (lo.toInt ≤ a.toInt ∧ a.toInt ≤ hi.toInt)) := by
  unfold m_X9_in bI
  simp only [lg_cmp_lt, lg_cmp_gt, fa_lt64]
  by_cases h1 : a.toInt < lo.toInt
  · rw [if_pos h1, if_neg (by omega)]
  · by_cases h2 : hi.toInt < a.toInt
    · rw [if_neg h1, if_pos h2, if_neg (by omega)]
    · rw [if_neg h1, if_neg h2, if_pos (by omega)]
/-- a loop that comes to its end: I i s: at most i rounds are left -/
theorem lp_n {σ τ : Type} {body : σ → Option (σ ⊕ τ)} {P : τ → Prop} (I : Nat → σ → Prop) (h : ∀ i s, I i s → (∃ t, body s = some (.inr t) ∧ P t) ∨ (∃ s', body s = some (.inl s') ∧ ∃ j, j < i ∧ I j s')) : ∀ (N n : Nat) (s : σ), n < N → I n s → ∃ t, loop body N s = some t ∧ P t := by
  intro N
  induction N with
  | zero => intro n s hn; omega
  | succ N ih =>
    intro n s hn hs
    rcases h n s hs with ⟨t, h1, h2⟩ | ⟨s', h1, j, hj, h2⟩
    · refine ⟨t, ?_, h2⟩
      unfold loop
      rw [h1]
      rfl
    · obtain ⟨t, h3, h4⟩ := ih j s' (by omega) h2
      refine ⟨t, ?_, h4⟩
      unfold loop
      rw [h1]
      exact h3
theorem lp {σ τ : Type} {body : σ → Option (σ ⊕ τ)} {P : τ → Prop} (I : Nat → σ → Prop) (n : Nat) (hn : n < 1000000) {s : σ} (hs : I n s) (h : ∀ i s, I i s → (∃ t, body s = some (.inr t) ∧ P t) ∨ (∃ s', body s = some (.inl s') ∧ ∃ j, j < i ∧ I j s')) : ∃ t, loop body LN s = some t ∧ P t := lp_n I h LN n s hn hs
/-- a value that is there, and so -/
def Ok {γ : Type} (o : Option γ) (R : γ → Prop) : Prop := ∃ a, o = some a ∧ R a
theorem ok_s {γ : Type} {a : γ} {R : γ → Prop} (h : R a) : Ok (some a) R := ⟨a, rfl, h⟩
theorem ok_e {γ : Type} {a : γ} {o : Option γ} {R : γ → Prop} (e : o = some a) (h : R a) : Ok o R := ⟨a, e, h⟩
theorem ok_b {γ δ : Type} {o : Option γ} {F : γ → Option δ} {R1 : γ → Prop} {R : δ → Prop} (h : Ok o R1) (k : ∀ a, R1 a → Ok (F a) R) : Ok (o.bind F) R := by
  obtain ⟨a, e, h⟩ := h
  rw [e]
  exact k a h
theorem ok_m {γ : Type} {o : Option γ} {R1 R : γ → Prop} (h : Ok o R1) (k : ∀ a, R1 a → R a) : Ok o R := by
  obtain ⟨a, e, h⟩ := h
  exact ⟨a, e, k a h⟩
theorem ok_eq {γ : Type} {o : Option γ} {x : γ} (h : Ok o (fun a => a = x)) : o = some x := by
  obtain ⟨a, e, h⟩ := h
  rw [e, h]
/-- a loop, then the rest -/
theorem ok_l {σ τ γ : Type} {body : σ → Option (σ ⊕ τ)} {F : τ → Option γ} {R : γ → Prop} {s : σ} (I : Nat → σ → Prop) (n : Nat) (hn : n < 1000000) (hs : I n s) (h : ∀ i s, I i s → Ok (body s) (fun q => (∃ t, q = .inr t ∧ Ok (F t) R) ∨ (∃ s' j, q = .inl s' ∧ j < i ∧ I j s'))) : Ok ((loop body LN s).bind F) R := by
  have := lp (body := body) (P := fun t => Ok (F t) R) I n hn hs (fun i s hi => by
    obtain ⟨q, h1, ⟨t, rfl, h2⟩ | ⟨s', j, rfl, h2, h3⟩⟩ := h i s hi
    · exact Or.inl ⟨t, h1, h2⟩
    · exact Or.inr ⟨s', h1, j, h2, h3⟩)
  obtain ⟨t, h1, h2⟩ := this
  rw [h1]
  exact h2
/-- a counted loop that may leave early -/
theorem ok_for {ρ τ γ : Type} {body : Int32 × ρ → Option ((Int32 × ρ) ⊕ τ)} {F : τ → Option γ} {R : γ → Prop} (J : Nat → ρ → Prop) (a n : Nat) (han : a ≤ n) (hn : n < 1000000) {r : ρ} {i0 : Int32} (hi : i0 = nI a) (h0 : J a r)
    (hs : ∀ i r, a ≤ i → i < n → J i r → Ok (body (nI i, r)) (fun q => (∃ r', q = .inl (nI (i + 1), r') ∧ J (i + 1) r') ∨ (∃ t, q = .inr t ∧ Ok (F t) R)))
    (he : ∀ r, J n r → Ok (body (nI n, r)) (fun q => ∃ t, q = .inr t ∧ Ok (F t) R)) : Ok ((loop body LN (i0, r)).bind F) R := by
  refine ok_l (fun m s => ∃ i, i + m = n ∧ a ≤ i ∧ s.1 = nI i ∧ J i s.2) (n - a) (by omega) ⟨a, by omega, Nat.le_refl _, hi, h0⟩ ?_
  rintro m ⟨y, r⟩ ⟨i, h1, h2, h3, h4⟩
  simp only at h3 h4
  subst h3
  by_cases hm : i = n
  · subst hm
    exact ok_m (he r h4) (fun q hq => Or.inl hq)
  · refine ok_m (hs i r h2 (by omega) h4) (fun q hq => ?_)
    rcases hq with ⟨r', h5, h6⟩ | h5
    · exact Or.inr ⟨_, m - 1, h5, by omega, i + 1, by omega, by omega, rfl, h6⟩
    · exact Or.inl h5
/-- a counted loop over the counter alone -/
theorem ok_c {τ γ : Type} {body : Int32 → Option (Int32 ⊕ τ)} {F : τ → Option γ} {R : γ → Prop} (J : Nat → Prop) (a n : Nat) (han : a ≤ n) (hn : n < 1000000) {i0 : Int32} (hi : i0 = nI a) (h0 : J a)
    (hs : ∀ i, a ≤ i → i < n → J i → Ok (body (nI i)) (fun q => (q = .inl (nI (i + 1)) ∧ J (i + 1)) ∨ (∃ t, q = .inr t ∧ Ok (F t) R)))
    (he : J n → Ok (body (nI n)) (fun q => ∃ t, q = .inr t ∧ Ok (F t) R)) : Ok ((loop body LN i0).bind F) R := by
  refine ok_l (fun m s => ∃ i, i + m = n ∧ a ≤ i ∧ s = nI i ∧ J i) (n - a) (by omega) ⟨a, by omega, Nat.le_refl _, hi, h0⟩ ?_
  rintro m y ⟨i, h1, h2, rfl, h4⟩
  by_cases hm : i = n
  · subst hm
    exact ok_m (he h4) (fun q hq => Or.inl hq)
  · refine ok_m (hs i h2 (by omega) h4) (fun q hq => ?_)
    rcases hq with ⟨h5, h6⟩ | h5
    · exact Or.inr ⟨_, m - 1, h5, by omega, i + 1, by omega, by omega, rfl, h6⟩
    · exact Or.inl h5
theorem n1 (i : Nat) : nI i + 1 = nI (i + 1) := nI_add i 1
theorem n0 (i : Nat) : (0 : Int32) + nI i = nI i := by
  have := nI_add 0 i
  rw [Nat.zero_add] at this
  exact this
theorem nmul (a b : Nat) : nI a * nI b = nI (a * b) := by
  apply Int32.toBitVec_inj.mp
  show BitVec.ofNat 32 a * BitVec.ofNat 32 b = BitVec.ofNat 32 (a * b)
  exact (BitVec.ofNat_mul a b).symm
/-- Arrays.fill -/
theorem q_fill {k n : Nat} {v : Int32} {μ : MT} (hl : zl Zc k = n) (hn : n < 1000) : m_J7_fill_53178 Zc k v μ = some (u1 μ k (fun j => if j < n then v else μ k j)) := by
  unfold m_J7_fill_53178
  rw [hl, ob_s]
  apply ok_eq
  refine ok_for (fun i ν => ν = u1 μ k (fun j => if j < i then v else μ k j)) 0 n (by omega) (by omega) rfl ?_ ?_ ?_
  · funext q j
    unfold u1
    by_cases h : q = k <;> simp [h]
  · rintro i ν _ hi rfl
    have hc : ¬ Int32.ofNat n ≤ nI i := by
      show ¬ nI n ≤ nI i
      rw [nI_lei (by omega) (by omega)]; omega
    simp only [hc, if_false]
    rw [ast_n hl hi hn]
    simp only [ob_s, n1]
    refine ok_s (Or.inl ⟨_, rfl, ?_⟩)
    funext q j
    unfold u2 u1 upd
    by_cases h : q = k
    · subst h
      by_cases hj : j = i
      · subst hj; simp
      · have : (j < i + 1) = (j < i) := by apply propext; omega
        simp [hj, this]
    · simp [h]
  · rintro ν rfl
    have hc : Int32.ofNat n ≤ nI n := by
      show nI n ≤ nI n
      rw [nI_lei (by omega) (by omega)]; omega
    simp only [hc, if_true]
    exact ok_s ⟨_, rfl, ok_s rfl⟩
