/-! ===== orders: the next one, all of them ===== -/
def nkF (O : Nat → Nat) : Nat → Option Nat
  | 0 => none
  | k + 1 => if O k ≤ O (k + 1) then some k else nkF O k
def nqF (O : Nat → Nat) (v : Nat) : Nat → Nat
  | 0 => 0
  | q + 1 => if v ≤ O (q + 1) then q + 1 else nqF O v q
def swF (O : Nat → Nat) (k q : Nat) : Nat → Nat := fun j => if j = q then O k else if j = k then O q else O j
def rvF (O : Nat → Nat) (lo hi : Nat) : Nat → Nat := fun j => if lo ≤ j ∧ j ≤ hi then O (lo + hi - j) else O j
def nxF (ns : Nat) (O : Nat → Nat) : Option (Nat → Nat) :=
  match nkF O (ns - 1) with
  | none => none
  | some k => some (rvF (swF O k (nqF O (O k) (ns - 1))) (k + 1) (ns - 1))
def nxL (ns : Nat) (l : List Nat) : Option (List Nat) := (nxF ns (fun j => l.getD j 0)).map (fun O => (List.range ns).map O)
def chkL (ns : Nat) : List (List Nat) → Bool
  | [] => true
  | l :: r => decide (nxL ns l = r.head?) && chkL ns r
theorem pl_chain : ∀ ns, ns < 7 → chkL ns (pmA ns ns []) = true := by decide +kernel
theorem pl_head : ∀ ns, ns < 7 → (pmA ns ns []).head? = some (List.range ns) := by decide +kernel
theorem pl_all : ∀ ns, ns < 7 → (pmA ns ns []).all (fun l => decide (l.length = ns) && l.all (fun s => decide (s < ns))) = true := by decide +kernel
theorem pl_len : ∀ ns, ns < 7 → (pmA ns ns []).length < 1000 := by decide +kernel
theorem chk_suf {ns : Nat} {l : List Nat} {r : List (List Nat)} : ∀ {pre : List (List Nat)}, chkL ns (pre ++ l :: r) = true → nxL ns l = r.head?
  | [], h => by
    simp only [List.nil_append, chkL, Bool.and_eq_true, decide_eq_true_eq] at h
    exact h.1
  | q :: pre, h => by
    simp only [List.cons_append, chkL, Bool.and_eq_true] at h
    exact chk_suf h.2
def OrI (ν : MT) (ns : Nat) (O : Nat → Nat) : Prop := ∀ k, k < ns → ν 124 k = nI (O k)
theorem nkF_lt {O : Nat → Nat} : ∀ {n k : Nat}, nkF O n = some k → k < n
  | 0, k, h => by simp [nkF] at h
  | n + 1, k, h => by
    rw [nkF] at h
    by_cases hc : O n ≤ O (n + 1)
    · rw [if_pos hc] at h
      have := Option.some.inj h
      omega
    · rw [if_neg hc] at h
      have := nkF_lt h
      omega
theorem r_nk {μ : MT} {ns : Nat} {O : Nat → Nat} (hO : OrI μ ns O) (hb : ∀ k, k < ns → O k < 1000) (hns : ns ≤ 6) {γ : Type} {F : Int32 → Option γ} {R : γ → Prop} {y : Int32} (hy : y = nI ns - 2)
    (hF : (nkF O (ns - 1) = none → ∀ v : Int32, ¬ 0 ≤ v → Ok (F v) R) ∧ (∀ k, nkF O (ns - 1) = some k → Ok (F (nI k)) R)) :
    Ok ((loop (σ := Int32) (τ := Int32) (fun y2 => ((if y2 < 0 then some (Sum.inr y2) else (ald Zc μ 124 y2).bind fun x49 => (ald Zc μ 124 (y2 + 1)).bind fun x51 => (if x49 ≤ x51 then some (Sum.inr y2) else (some (y2 + (-1))).bind fun x52 => some (Sum.inl x52))) : Option ((Int32) ⊕ (Int32)))) LN y).bind F) R := by
  by_cases h0 : ns = 0
  · subst h0
    refine ok_l (fun m s => s = nI 0 - 2) 0 (by omega) hy ?_
    rintro m s rfl
    rw [if_pos (by decide)]
    exact ok_s (Or.inl ⟨_, rfl, hF.1 rfl _ (by decide)⟩)
  · have hy2 : y = nI (ns - 1) + -1 := by
      rw [hy]
      obtain ⟨n, rfl⟩ : ∃ n, ns = n + 1 := ⟨ns - 1, by omega⟩
      rw [← n1, show n + 1 - 1 = n by omega]
      grind
    refine ok_l (fun m s => s = nI m + -1 ∧ m ≤ ns - 1 ∧ nkF O m = nkF O (ns - 1)) (ns - 1) (by omega) ⟨hy2, Nat.le_refl _, rfl⟩ ?_
    rintro m s ⟨rfl, hm, he⟩
    cases m with
    | zero =>
      rw [if_pos (by decide)]
      exact ok_s (Or.inl ⟨_, rfl, hF.1 he.symm _ (by decide)⟩)
    | succ k =>
      rw [nm_1, if_neg (by rw [x_ltl (by omega) (by omega)]; omega), al_124 (by omega), ob_s, n1, al_124 (by omega), ob_s, hO k (by omega), hO (k + 1) (by omega)]
      have b1 := hb k (by omega)
      have b2 := hb (k + 1) (by omega)
      rw [nkF] at he
      by_cases hc : O k ≤ O (k + 1)
      · rw [if_pos (by rw [x_le (by omega) (by omega)]; exact hc)]
        rw [if_pos hc] at he
        exact ok_s (Or.inl ⟨_, rfl, hF.2 k he.symm⟩)
      · rw [if_neg (by rw [x_le (by omega) (by omega)]; exact hc), ob_s]
        rw [if_neg hc] at he
        exact ok_s (Or.inr ⟨_, k, rfl, by omega, rfl, by omega, he⟩)
theorem r_nq {μ : MT} {ns k : Nat} {O : Nat → Nat} (hO : OrI μ ns O) (hb : ∀ k, k < ns → O k < 1000) (hns : ns ≤ 6) (hk : k < ns - 1) {γ : Type} {F : Int32 → Option γ} {R : γ → Prop} {y : Int32} (hy : y = nI ns - 1)
    (hF : Ok (F (nI (nqF O (O k) (ns - 1)))) R) :
    Ok ((loop (σ := Int32) (τ := Int32) (fun y9 => ((ald Zc μ 124 y9).bind fun x44 => (ald Zc μ 124 (nI k)).bind fun x46 => (if x46 ≤ x44 then some (Sum.inr y9) else (some (y9 + (-1))).bind fun x47 => some (Sum.inl x47)) : Option ((Int32) ⊕ (Int32)))) LN y).bind F) R := by
  have hy2 : y = nI (ns - 1) := by rw [hy, x_sl (by omega)]
  refine ok_l (fun m s => s = nI m ∧ k ≤ m ∧ m ≤ ns - 1 ∧ nqF O (O k) m = nqF O (O k) (ns - 1)) (ns - 1) (by omega) ⟨hy2, by omega, Nat.le_refl _, rfl⟩ ?_
  rintro m s ⟨rfl, hkm, hm, he⟩
  rw [al_124 (by omega), ob_s, al_124 (by omega), ob_s, hO m (by omega), hO k (by omega)]
  have b1 := hb k (by omega)
  have b2 := hb m (by omega)
  by_cases hc : O k ≤ O m
  · rw [if_pos (by rw [x_le (by omega) (by omega)]; exact hc)]
    have : nqF O (O k) m = m := by
      cases m with
      | zero => rfl
      | succ q => rw [nqF, if_pos hc]
    rw [this] at he
    rw [he]
    exact ok_s (Or.inl ⟨_, rfl, hF⟩)
  · rw [if_neg (by rw [x_le (by omega) (by omega)]; exact hc), ob_s]
    cases m with
    | zero =>
      have : k = 0 := by omega
      subst this
      exact absurd (Nat.le_refl _) hc
    | succ q =>
      rw [nqF, if_neg hc] at he
      rw [nm_1]
      refine ok_s (Or.inr ⟨_, q, rfl, by omega, rfl, ?_, by omega, he⟩)
      by_cases hq : k = q + 1
      · rw [hq] at hc; exact absurd (Nat.le_refl _) hc
      · omega
theorem nqF_le {O : Nat → Nat} {v : Nat} : ∀ n, nqF O v n ≤ n
  | 0 => Nat.le_refl _
  | n + 1 => by
    rw [nqF]
    by_cases hc : v ≤ O (n + 1)
    · rw [if_pos hc]; exact Nat.le_refl _
    · rw [if_neg hc]
      have := nqF_le (O := O) (v := v) n
      omega
theorem r_rv {μ : MT} {ns lo : Nat} {O : Nat → Nat} (hO : OrI μ ns O) (hns : ns ≤ 6) (hlo : 1 ≤ lo) (hk : lo ≤ ns - 1) {γ : Type} {F : MT → Option γ} {R : γ → Prop} {y z : Int32} (hy : y = nI lo) (hz : z = nI ns - 1)
    (hF : ∀ ν, (∀ k, k ≠ 124 → ν k = μ k) → OrI ν ns (rvF O lo (ns - 1)) → Ok (F ν) R) :
    Ok ((loop (σ := Int32 × Int32 × MT) (τ := MT) (fun (y25, y26, ν27) => ((if y26 ≤ y25 then some (Sum.inr ν27) else (ald Zc ν27 124 y25).bind fun x34 => (ald Zc ν27 124 y26).bind fun x37 => (ast Zc ν27 124 y25 x37).bind fun ν38 => (ast Zc ν38 124 y26 x34).bind fun ν40 => (some (y25 + 1)).bind fun x41 => (some (y26 + (-1))).bind fun x42 => some (Sum.inl (x41, x42, ν40))) : Option ((Int32 × Int32 × MT) ⊕ (MT)))) LN (y, z, μ)).bind F) R := by
  have hz2 : z = nI (ns - 1) := by rw [hz, x_sl (by omega)]
  subst hy hz2
  refine ok_l (fun m s => ∃ a b, a + b = lo + (ns - 1) ∧ lo ≤ a ∧ a ≤ b + 1 ∧ b = m ∧ b ≤ ns - 1 ∧ s.1 = nI a ∧ s.2.1 = nI b ∧ (∀ k, k ≠ 124 → s.2.2 k = μ k) ∧ ∀ j, j < ns → s.2.2 124 j = nI (if (lo ≤ j ∧ j < a) ∨ (b < j ∧ j ≤ ns - 1) then O (lo + (ns - 1) - j) else O j)) (ns - 1) (by omega) ⟨lo, ns - 1, rfl, Nat.le_refl _, by omega, rfl, Nat.le_refl _, rfl, rfl, fun _ _ => rfl, fun j hj => by rw [if_neg (by omega)]; exact hO j hj⟩ ?_
  rintro m ⟨y, z, ν⟩ ⟨a, b, h1, h2, h3, h4, h5, h6, h7, h8, h9⟩
  simp only at h6 h7 h8 h9
  subst h6 h7
  simp only []
  by_cases hc : b ≤ a
  · rw [if_pos (by rw [x_le (by omega) (by omega)]; exact hc)]
    refine ok_s (Or.inl ⟨_, rfl, hF ν h8 (fun j hj => ?_)⟩)
    rw [h9 j hj]
    unfold rvF
    by_cases hj1 : (lo ≤ j ∧ j < a) ∨ (b < j ∧ j ≤ ns - 1)
    · rw [if_pos hj1, if_pos (by omega)]
    · rw [if_neg hj1]
      by_cases hj2 : lo ≤ j ∧ j ≤ ns - 1
      · rw [if_pos hj2, show lo + (ns - 1) - j = j by omega]
      · rw [if_neg hj2]
  · rw [if_neg (by rw [x_le (by omega) (by omega)]; exact hc), al_124 (by omega), ob_s, al_124 (by omega), ob_s, as_124 (by omega), ob_s, as_124 (by omega), ob_s, n1, ob_s]
    obtain ⟨b', rfl⟩ : ∃ b', b = b' + 1 := ⟨b - 1, by omega⟩
    rw [nm_1, ob_s]
    refine ok_s (Or.inr ⟨_, b', rfl, by omega, a + 1, b', by omega, by omega, by omega, rfl, by omega, rfl, rfl, fun k hk => ?_, fun j hj => ?_⟩)
    · simp only [u2_w]
      rw [if_neg hk, if_neg hk]; exact h8 k hk
    · have ea := h9 a (by omega)
      have eb := h9 (b' + 1) (by omega)
      rw [if_neg (by omega)] at ea eb
      simp only [u2_r]
      by_cases hjb : j = b' + 1
      · subst hjb
        rw [if_pos ⟨trivial, rfl⟩, ea, if_pos (by omega), show lo + (ns - 1) - (b' + 1) = a by omega]
      · rw [if_neg (by omega)]
        by_cases hja : j = a
        · subst hja
          rw [if_pos ⟨trivial, rfl⟩, eb, if_pos (by omega), show lo + (ns - 1) - j = b' + 1 by omega]
        · rw [if_neg (by omega), h9 j hj]
          by_cases hj1 : (lo ≤ j ∧ j < a) ∨ (b' + 1 < j ∧ j ≤ ns - 1)
          · rw [if_pos hj1, if_pos (by omega)]
          · rw [if_neg hj1, if_neg (by omega)]
theorem r_next {μ : MT} {ns : Nat} {l : List Nat} (e6 : μ 106 6 = nI ns) (hO : OrI μ ns (fun j => l.getD j 0)) (hb : ∀ k, k < ns → l.getD k 0 < 1000) (hns : ns ≤ 6) :
    Ok (m_X9_nextOrder Zc 106 μ) (fun q => (∀ k, k ≠ 124 → q.2 k = μ k) ∧ ((nxL ns l = none ∧ q.1 = 0) ∨ (∃ l', nxL ns l = some l' ∧ q.1 = 1 ∧ OrI q.2 ns (fun j => l'.getD j 0)))) := by
  unfold m_X9_nextOrder
  simp only [zA, e6, ob_s]
  refine r_nk hO hb hns rfl ⟨?_, ?_⟩
  · intro hn v hv
    rw [if_neg hv]
    refine ok_s ⟨fun _ _ => rfl, Or.inl ⟨?_, rfl⟩⟩
    unfold nxL nxF
    rw [hn]
    rfl
  · intro k hk
    have hkl := nkF_lt hk
    rw [if_pos (by rw [x_lle (by omega) (by omega)]; omega)]
    refine r_nq hO hb hns (by omega) rfl ?_
    have hq := nqF_le (O := fun j => l.getD j 0) (v := l.getD k 0) (ns - 1)
    have hx : nxL ns l = some ((List.range ns).map (rvF (swF (fun j => l.getD j 0) k (nqF (fun j => l.getD j 0) (l.getD k 0) (ns - 1))) (k + 1) (ns - 1))) := by
      unfold nxL nxF
      rw [hk]
      rfl
    generalize nqF (fun j => l.getD j 0) (l.getD k 0) (ns - 1) = q at hq hx ⊢
    rw [al_124 (by omega), ob_s, al_124 (by omega), ob_s, as_124 (by omega), ob_s, as_124 (by omega), ob_s, n1, hO k (by omega), hO q (by omega)]
    have g : ∀ j, j ≠ 124 → u2 (u2 μ 124 k (nI (l.getD q 0))) 124 q (nI (l.getD k 0)) j = μ j := fun j hj => by rw [u2_w, if_neg hj, u2_w, if_neg hj]
    have g1 : OrI (u2 (u2 μ 124 k (nI (l.getD q 0))) 124 q (nI (l.getD k 0))) ns (swF (fun j => l.getD j 0) k q) := fun j hj => by
      unfold swF
      rw [u2_r]
      by_cases hjq : j = q
      · rw [if_pos ⟨rfl, hjq⟩, if_pos hjq]
      · rw [if_neg (by omega), if_neg hjq, u2_r]
        by_cases hjk : j = k
        · rw [if_pos ⟨rfl, hjk⟩, if_pos hjk]
        · rw [if_neg (by omega), if_neg hjk]
          exact hO j hj
    generalize u2 (u2 μ 124 k (nI (l.getD q 0))) 124 q (nI (l.getD k 0)) = ω at g g1 ⊢
    rw [g 106 (by omega), e6]
    refine r_rv g1 hns (by omega) (by omega) rfl rfl ?_
    intro ν n1' n2
    refine ok_s ⟨fun j hj => by show ν j = _; rw [n1' j hj]; exact g j hj, Or.inr ⟨_, hx, rfl, fun j hj => ?_⟩⟩
    show ν 124 j = _
    rw [n2 j hj]
    simp [List.getD, hj]
/-! ===== which orders fit ===== -/
theorem r_fits {μ : MT} {ns nb : Nat} (e6 : μ 106 6 = nI ns) (e8 : μ 106 8 = nI nb) (hns : ns ≤ 6) (hnb : nb ≤ 10) : m_X9_fits Zc 106 μ = some (bI (ftA ns nb (μ 111) (μ 112) (μ 124) = true)) := by
  unfold m_X9_fits
  simp only [zA, e6, e8]
  have hall : ∀ b, ftA ns (b + 1) (μ 111) (μ 112) (μ 124) = (ftA ns b (μ 111) (μ 112) (μ 124) && decide (psA (μ 124) (μ 111 b) ns < psA (μ 124) (μ 112 b) ns)) := fun b => by
    unfold ftA
    rw [List.range_succ, List.all_append]
    simp
  have hps : ∀ v n, psA (μ 124) v n ≤ n := fun v n => by
    induction n with
    | zero => exact Nat.le_refl _
    | succ n ih =>
      rw [psA]
      by_cases hc : μ 124 n = v
      · rw [if_pos hc]; omega
      · rw [if_neg hc]; omega
  apply ok_eq
  refine ok_l (fun m q => ∃ b, b + m = nb ∧ q = (bI (ftA ns b (μ 111) (μ 112) (μ 124) = true), nI b)) nb (by omega) ⟨0, by omega, rfl⟩ ?_
  rintro m q ⟨b, hb, rfl⟩
  simp only []
  by_cases hm : m = 0
  · have : b = nb := by omega
    subst this
    rw [if_pos (by rw [x_le (by omega) (by omega)]; omega)]
    refine ok_s (Or.inl ⟨_, rfl, ?_⟩)
    rw [bz_b, ob_s]
    exact ok_s rfl
  · rw [if_neg (by rw [x_le (by omega) (by omega)]; omega)]
    refine ok_l (fun m q => ∃ k, k + m = ns ∧ q = (nI (psA (μ 124) (μ 111 b) k), nI (psA (μ 124) (μ 112 b) k), nI k)) ns (by omega) ⟨0, by omega, rfl⟩ ?_
    rintro m2 q ⟨k, hk, rfl⟩
    simp only []
    by_cases hm2 : m2 = 0
    · have : k = ns := by omega
      subst this
      rw [if_pos (by rw [x_le (by omega) (by omega)]; omega)]
      refine ok_s (Or.inl ⟨_, rfl, ?_⟩)
      have p1 := hps (μ 111 b) k
      have p2 := hps (μ 112 b) k
      simp only []
      have hbody : ((((if bI (ftA k b (μ 111) (μ 112) (μ 124) = true) = 0 then some (Sum.inr ()) else (if nI (psA (μ 124) (μ 112 b) k) ≤ nI (psA (μ 124) (μ 111 b) k) then some (Sum.inr ()) else some (Sum.inl 1))) : Option ((Int32) ⊕ (Unit)))).bind (jn (fun (_ : Unit) => some 0)) : Option (Int32)) = some (bI (ftA k (b + 1) (μ 111) (μ 112) (μ 124) = true)) := by
        rw [hall]
        by_cases h1 : ftA k b (μ 111) (μ 112) (μ 124) = true
        · rw [bI_t h1, if_neg (by decide), h1]
          by_cases h2 : psA (μ 124) (μ 112 b) k ≤ psA (μ 124) (μ 111 b) k
          · rw [if_pos (by rw [x_le (by omega) (by omega)]; exact h2), ob_s, bI_f (by simp; omega)]
            rfl
          · rw [if_neg (by rw [x_le (by omega) (by omega)]; exact h2), ob_s, bI_t (by simp; omega)]
            rfl
        · rw [bI_f h1, if_pos rfl, ob_s, bI_f (by simp [h1])]
          rfl
      rw [hbody, ob_s, ob_s, n1]
      exact ok_s (Or.inr ⟨_, m - 1, rfl, by omega, b + 1, by omega, rfl⟩)
    · rw [if_neg (by rw [x_le (by omega) (by omega)]; omega), al_124 (by omega), ob_s, al_111 (by omega), ob_s]
      have hif : ∀ (p : Prop) [Decidable p] (x y : Int32), (if p then some x else some y) = some (if p then x else y) := fun p _ x y => by
        by_cases hp : p
        · rw [if_pos hp, if_pos hp]
        · rw [if_neg hp, if_neg hp]
      have hif2 : ∀ (p : Prop) [Decidable p] (x y : Nat), (if p then nI x else nI y) = nI (if p then x else y) := fun p _ x y => by
        by_cases hp : p
        · rw [if_pos hp, if_pos hp]
        · rw [if_neg hp, if_neg hp]
      rw [hif, ob_s, al_112 (by omega), ob_s, ob_s, hif, ob_s, n1, ob_s, hif2, hif2]
      exact ok_s (Or.inr ⟨_, m2 - 1, rfl, by omega, k + 1, by omega, rfl⟩)
