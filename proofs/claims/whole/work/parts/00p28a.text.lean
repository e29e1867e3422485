/-! ===== texts: tokens ===== -/
def sbA (v : Nat) : Int32 := (nI v).toInt8.toInt32
def spB (v : Nat) : Bool := decide (v = 32) || decide (v = 10)
/-- 1 a letter, 2 a figure, 3 the sign, 4 else -/
def srtA (v : Nat) : Nat := if 97 ≤ v ∧ v ≤ 122 then 1 else if 48 ≤ v ∧ v ≤ 57 then 2 else if v = 59 then 3 else 4
def skA (T : Nat → Nat) (N : Nat) : Nat → Nat → Nat
  | 0, e => e
  | n + 1, e => if e < N ∧ spB (T e) = true then skA T N n (e + 1) else e
def ruA (T : Nat → Nat) (N s : Nat) : Nat → Nat → Nat
  | 0, e => e
  | n + 1, e => if e < N ∧ srtA (T e) = s then ruA T N s n (e + 1) else e
/-- a token: from, till, sort (0 the end, 1 a name, 2 a number, 3 the sign, 4 none) -/
abbrev PT : Type := Nat × Nat × Nat
def tkB (T : Nat → Nat) (N f : Nat) : PT :=
  if N ≤ f then (f, f, 0)
  else if srtA (T f) = 1 then (f, ruA T N 1 (N - (f + 1)) (f + 1), 1)
  else if srtA (T f) = 2 then (f, ruA T N 2 (N - (f + 1)) (f + 1), if ruA T N 2 (N - (f + 1)) (f + 1) - f ≤ 2 then 2 else 4)
  else (f, f + 1, srtA (T f))
def tkA (T : Nat → Nat) (N e : Nat) : PT := tkB T N (skA T N (N - e) e)
theorem sk_le {T : Nat → Nat} {N : Nat} : ∀ n e, e + n = N → e ≤ skA T N n e ∧ skA T N n e ≤ N
  | 0, e, h => by rw [skA]; omega
  | n + 1, e, h => by
    rw [skA]
    by_cases hc : e < N ∧ spB (T e) = true
    · rw [if_pos hc]
      have := sk_le (T := T) (N := N) n (e + 1) (by omega)
      omega
    · rw [if_neg hc]; omega
theorem ru_le {T : Nat → Nat} {N s : Nat} : ∀ n e, e + n = N → e ≤ ruA T N s n e ∧ ruA T N s n e ≤ N ∧ ∀ j, e ≤ j → j < ruA T N s n e → srtA (T j) = s
  | 0, e, h => by
    rw [ruA]
    exact ⟨Nat.le_refl _, by omega, fun j h1 h2 => by omega⟩
  | n + 1, e, h => by
    rw [ruA]
    by_cases hc : e < N ∧ srtA (T e) = s
    · rw [if_pos hc]
      obtain ⟨h1, h2, h3⟩ := ru_le (T := T) (N := N) (s := s) n (e + 1) (by omega)
      refine ⟨by omega, h2, fun j h4 h5 => ?_⟩
      by_cases hj : j = e
      · rw [hj]; exact hc.2
      · exact h3 j (by omega) h5
    · rw [if_neg hc]
      exact ⟨Nat.le_refl _, by omega, fun j h1 h2 => by omega⟩
theorem srt_1 {v : Nat} (h : srtA v = 1) : 97 ≤ v ∧ v ≤ 122 := by
  unfold srtA at h
  repeat' split at h
  all_goals first | assumption | omega
theorem srt_2 {v : Nat} (h : srtA v = 2) : 48 ≤ v ∧ v ≤ 57 := by
  unfold srtA at h
  repeat' split at h
  all_goals first | assumption | omega
theorem srt_le (v : Nat) : 1 ≤ srtA v ∧ srtA v ≤ 4 := by
  unfold srtA
  repeat' split
  all_goals omega
def TkOK (T : Nat → Nat) (N : Nat) (k : PT) : Prop := k.1 ≤ k.2.1 ∧ k.2.1 ≤ N ∧ k.2.2 ≤ 4 ∧ (k.2.2 ≠ 0 → k.1 < k.2.1) ∧ (k.2.2 = 1 → ∀ j, k.1 ≤ j → j < k.2.1 → 97 ≤ T j ∧ T j ≤ 122) ∧ (k.2.2 = 2 → k.2.1 ≤ k.1 + 2 ∧ ∀ j, k.1 ≤ j → j < k.2.1 → 48 ≤ T j ∧ T j ≤ 57)
theorem tkB_ok {T : Nat → Nat} {N f : Nat} (h : f ≤ N) : TkOK T N (tkB T N f) ∧ (tkB T N f).1 = f := by
  unfold tkB
  by_cases h0 : N ≤ f
  · rw [if_pos h0]
    exact ⟨⟨Nat.le_refl _, h, by simp, by simp, by simp, by simp⟩, rfl⟩
  · rw [if_neg h0]
    by_cases h1 : srtA (T f) = 1
    · rw [if_pos h1]
      obtain ⟨a1, a2, a3⟩ := ru_le (T := T) (N := N) (s := 1) (N - (f + 1)) (f + 1) (by omega)
      refine ⟨⟨by simp only []; omega, a2, by simp, fun _ => by simp only []; omega, fun _ j h2 h3 => ?_, by simp⟩, rfl⟩
      by_cases hj : j = f
      · rw [hj]; exact srt_1 h1
      · simp only [] at h2 h3
        exact srt_1 (a3 j (by omega) h3)
    · rw [if_neg h1]
      by_cases h2 : srtA (T f) = 2
      · rw [if_pos h2]
        obtain ⟨a1, a2, a3⟩ := ru_le (T := T) (N := N) (s := 2) (N - (f + 1)) (f + 1) (by omega)
        refine ⟨⟨by simp only []; omega, a2, ?_, fun _ => by simp only []; omega, fun h => ?_, fun h => ⟨?_, fun j h3 h4 => ?_⟩⟩, rfl⟩
        · simp only []
          split <;> omega
        · simp only [] at h
          split at h <;> omega
        · simp only [] at h ⊢
          split at h <;> omega
        · simp only [] at h3 h4
          by_cases hj : j = f
          · rw [hj]; exact srt_2 h2
          · exact srt_2 (a3 j (by omega) h4)
      · rw [if_neg h2]
        have := srt_le (T f)
        exact ⟨⟨by simp only []; omega, by simp only []; omega, by simp only []; omega, fun _ => by simp only []; omega, fun h => absurd h h1, fun h => absurd h h2⟩, rfl⟩
theorem tk_ok {T : Nat → Nat} {N e : Nat} (h : e ≤ N) : TkOK T N (tkA T N e) := (tkB_ok (sk_le (T := T) (N := N) (N - e) e (by omega)).2).1
/-! words and numbers -/
def wdL : List (List Nat) := [[116, 97, 99, 107], [111, 110], [98, 97, 99, 107], [115, 107, 105, 112], [115, 101, 99, 111, 110, 100], [116, 117, 114, 110, 101, 100], [102, 108, 97, 109, 101], [119, 97, 105, 116], [99, 108, 97, 109, 112], [102, 114, 101, 101], [112, 97, 110, 101, 108], [115, 101, 97, 109], [98, 101, 102, 111, 114, 101]]
def wdW (i : Nat) : List Nat := wdL.getD i []
def wmB (T : Nat → Nat) (f t : Nat) (w : List Nat) : Bool := decide (t - f = w.length) && alB (fun k => decide (T (f + k) = w.getD k 0)) w.length
def wsB (T : Nat → Nat) (k : PT) (i : Nat) : Bool := decide (k.2.2 = 1) && wmB T k.1 k.2.1 (wdW i)
def akG (T : Nat → Nat) (k : PT) : Nat → Nat → Option Nat
  | _, 0 => none
  | i, n + 1 => if wsB T k i = true then some i else akG T k (i + 1) n
def akA (T : Nat → Nat) (k : PT) : Option Nat := akG T k 0 10
theorem ak_lt {T : Nat → Nat} {k : PT} {q : Nat} : ∀ n i, akG T k i n = some q → q < i + n
  | 0, i, h => by simp [akG] at h
  | n + 1, i, h => by
    rw [akG] at h
    by_cases hc : wsB T k i = true
    · rw [if_pos hc] at h
      have := Option.some.inj h
      omega
    · rw [if_neg hc] at h
      have := ak_lt n (i + 1) h
      omega
def nvF (T : Nat → Nat) (f : Nat) : Nat → Nat
  | 0 => 0
  | n + 1 => nvF T f n * 10 + (T (f + n) - 48)
def nvA (T : Nat → Nat) (k : PT) : Nat := nvF T k.1 (k.2.1 - k.1)
theorem nv_le {T : Nat → Nat} {N : Nat} {k : PT} (h : TkOK T N k) (hs : k.2.2 = 2) : nvA T k ≤ 99 := by
  obtain ⟨h1, h2, h3, h4, h5, h6⟩ := h
  obtain ⟨h7, h8⟩ := h6 hs
  have h9 := h4 (by omega)
  unfold nvA
  rcases (by omega : k.2.1 - k.1 = 1 ∨ k.2.1 - k.1 = 2) with e | e
  · rw [e, nvF, nvF]
    have := h8 (k.1 + 0) (by omega) (by omega)
    omega
  · rw [e, nvF, nvF, nvF]
    have a1 := h8 (k.1 + 0) (by omega) (by omega)
    have a2 := h8 (k.1 + 1) (by omega) (by omega)
    omega
/-! bytes: signed and unsigned -/
theorem sb_i : ∀ v, v < 256 → (sbA v).toInt = if v < 128 then (v : Int) else (v : Int) - 256 := by decide +kernel
theorem sb_lo {v : Nat} (h : v < 128) : sbA v = nI v := by
  rw [fa_eq, sb_i v (by omega), if_pos h, ti_n (by omega)]
theorem sb_eq {v w : Nat} (hv : v < 256) (hw : w < 128) : (nI w = sbA v ↔ v = w) := by
  rw [fa_eq, sb_i v hv, ti_n (by omega)]
  by_cases h : v < 128
  · rw [if_pos h]; omega
  · rw [if_neg h]; omega
def soF (a0 : Int32) : Option Int32 :=
  (((if a0 < 97 then some (Sum.inr ()) else (if 122 < a0 then some (Sum.inr ()) else some (Sum.inl 1))) : Option ((Int32) ⊕ (Unit)))).bind (jn (fun (_ : Unit) => (((if a0 < 48 then some (Sum.inr ()) else (if 57 < a0 then some (Sum.inr ()) else some (Sum.inl 2))) : Option ((Int32) ⊕ (Unit)))).bind (jn (fun (_ : Unit) => (if a0 = 59 then some 3 else some 4)))))
theorem so_eq (a : Int32) (μ : MT) : m_X7_sortOf Zc a μ = soF a := rfl
theorem so_n : ∀ v, v < 256 → soF (sbA v) = some (nI (srtA v)) := by decide +kernel
theorem sp_n : ∀ v, v < 256 → (sbA v = 32 ↔ v = 32) ∧ (sbA v = 10 ↔ v = 10) := by decide +kernel
theorem let_n : ∀ v, v < 256 → ((nI v < 97 ∨ 122 < nI v) ↔ srtA v ≠ 1) ∧ ((nI v < 48 ∨ 57 < nI v) ↔ srtA v ≠ 2) := by decide +kernel
