/-! ===== the fixed shape of the memory, as facts ===== -/
theorem exZ : ∃ Z : ZT, Z = Zf := ⟨Zf, rfl⟩
noncomputable def Zc : ZT := Classical.choose exZ
theorem Zc_eq : Zc = Zf := Classical.choose_spec exZ
theorem zA : zr Zc 0 0 = 1 ∧ zr Zc 0 1 = 13 ∧ zr Zc 0 2 = 15 ∧ zr Zc 0 3 = 16 ∧ zr Zc 0 4 = 17 ∧ zr Zc 0 5 = 18 ∧ zr Zc 0 6 = 19 ∧ zr Zc 0 7 = 26 ∧ zr Zc 0 8 = 33 ∧ zr Zc 0 9 = 87 ∧ zr Zc 0 10 = 90 ∧ zr Zc 1 0 = 2 ∧ zr Zc 1 1 = 3 ∧ zr Zc 1 2 = 4 ∧ zr Zc 13 0 = 14 ∧ zr Zc 15 0 = 13 ∧ zr Zc 33 0 = 34 ∧ zr Zc 33 1 = 35 ∧ zr Zc 33 2 = 36 ∧ zr Zc 33 3 = 37 ∧ zr Zc 87 0 = 88 ∧ zr Zc 87 1 = 89 ∧ zr Zc 90 0 = 91 ∧ zr Zc 106 2 = 107 ∧ zr Zc 106 3 = 108 ∧ zr Zc 106 4 = 109 ∧ zr Zc 106 9 = 110 ∧ zr Zc 106 10 = 111 ∧ zr Zc 106 11 = 112 ∧ zr Zc 106 16 = 113 ∧ zr Zc 106 17 = 114 ∧ zr Zc 106 18 = 115 ∧ zr Zc 106 19 = 116 ∧ zr Zc 106 29 = 117 ∧ zr Zc 106 30 = 118 ∧ zr Zc 106 32 = 119 ∧ zr Zc 106 33 = 120 ∧ zr Zc 106 34 = 121 ∧ zr Zc 106 36 = 122 ∧ zr Zc 106 38 = 123 ∧ zr Zc 106 39 = 124 ∧ zr Zc 106 40 = 125 ∧ zr Zc 106 41 = 126 ∧ zl Zc 2 = 8 ∧ zl Zc 3 = 8 ∧ zl Zc 4 = 8 ∧ zl Zc 5 = 40 ∧ zl Zc 6 = 40 ∧ zl Zc 7 = 40 ∧ zl Zc 8 = 40 ∧ zl Zc 9 = 40 ∧ zl Zc 10 = 40 ∧ zl Zc 11 = 40 ∧ zl Zc 12 = 40 ∧ zl Zc 14 = 500 ∧ zl Zc 16 = 12 ∧ zl Zc 17 = 6 ∧ zl Zc 18 = 12 ∧ zl Zc 34 = 7 ∧ zl Zc 35 = 6 ∧ zl Zc 36 = 6 ∧ zl Zc 37 = 64 ∧ zl Zc 88 = 12 ∧ zl Zc 89 = 12 ∧ zl Zc 91 = 16 ∧ zl Zc 107 = 8 ∧ zl Zc 108 = 8 ∧ zl Zc 109 = 320 ∧ zl Zc 110 = 160 ∧ zl Zc 111 = 10 ∧ zl Zc 112 = 10 ∧ zl Zc 113 = 160 ∧ zl Zc 114 = 10 ∧ zl Zc 115 = 10 ∧ zl Zc 116 = 500 ∧ zl Zc 117 = 12 ∧ zl Zc 118 = 6 ∧ zl Zc 119 = 48 ∧ zl Zc 120 = 12 ∧ zl Zc 121 = 12 ∧ zl Zc 122 = 48 ∧ zl Zc 123 = 12 ∧ zl Zc 124 = 6 ∧ zl Zc 125 = 6 ∧ zl Zc 126 = 16 ∧ zl Zc 1000 = 6 ∧ zl Zc 1001 = 8 ∧ zl Zc 1002 = 8 ∧ zl Zc 1003 = 8 := by rw [Zc_eq]; and_intros <;> decide +kernel
def isPn (b : Nat) : Prop := b = 19 ∨ b = 26 ∨ b = 38 ∨ b = 45 ∨ b = 52 ∨ b = 59 ∨ b = 66 ∨ b = 73 ∨ b = 80
def isPl (p : Nat) : Prop := p = 92 ∨ p = 99
theorem zp_0 {b : Nat} (h : isPn b) : zr Zc b 0 = b + 1 := by
  rcases h with rfl | rfl | rfl | rfl | rfl | rfl | rfl | rfl | rfl <;> (rw [Zc_eq]; decide +kernel)
theorem zp_1 {b : Nat} (h : isPn b) : zr Zc b 1 = b + 2 := by
  rcases h with rfl | rfl | rfl | rfl | rfl | rfl | rfl | rfl | rfl <;> (rw [Zc_eq]; decide +kernel)
theorem zp_2 {b : Nat} (h : isPn b) : zr Zc b 2 = b + 3 := by
  rcases h with rfl | rfl | rfl | rfl | rfl | rfl | rfl | rfl | rfl <;> (rw [Zc_eq]; decide +kernel)
theorem zp_3 {b : Nat} (h : isPn b) : zr Zc b 3 = b + 4 := by
  rcases h with rfl | rfl | rfl | rfl | rfl | rfl | rfl | rfl | rfl <;> (rw [Zc_eq]; decide +kernel)
theorem zp_4 {b : Nat} (h : isPn b) : zr Zc b 4 = b + 5 := by
  rcases h with rfl | rfl | rfl | rfl | rfl | rfl | rfl | rfl | rfl <;> (rw [Zc_eq]; decide +kernel)
theorem zp_5 {b : Nat} (h : isPn b) : zr Zc b 5 = b + 6 := by
  rcases h with rfl | rfl | rfl | rfl | rfl | rfl | rfl | rfl | rfl <;> (rw [Zc_eq]; decide +kernel)
theorem zpl {b : Nat} (h : isPn b) : zl Zc (b + 1) = 12 ∧ zl Zc (b + 2) = 12 ∧ zl Zc (b + 3) = 12 ∧ zl Zc (b + 4) = 12 ∧ zl Zc (b + 5) = 12 ∧ zl Zc (b + 6) = 12 := by
  rcases h with rfl | rfl | rfl | rfl | rfl | rfl | rfl | rfl | rfl <;> (rw [Zc_eq]; decide +kernel)
theorem zq_4 {p : Nat} (h : isPl p) : zr Zc p 4 = p + 1 := by
  rcases h with rfl | rfl <;> (rw [Zc_eq]; decide +kernel)
theorem zq_5 {p : Nat} (h : isPl p) : zr Zc p 5 = p + 2 := by
  rcases h with rfl | rfl <;> (rw [Zc_eq]; decide +kernel)
theorem zq_6 {p : Nat} (h : isPl p) : zr Zc p 6 = p + 3 := by
  rcases h with rfl | rfl <;> (rw [Zc_eq]; decide +kernel)
theorem zq_7 {p : Nat} (h : isPl p) : zr Zc p 7 = p + 4 := by
  rcases h with rfl | rfl <;> (rw [Zc_eq]; decide +kernel)
theorem zq_8 {p : Nat} (h : isPl p) : zr Zc p 8 = p + 5 := by
  rcases h with rfl | rfl <;> (rw [Zc_eq]; decide +kernel)
theorem zq_9 {p : Nat} (h : isPl p) : zr Zc p 9 = p + 6 := by
  rcases h with rfl | rfl <;> (rw [Zc_eq]; decide +kernel)
theorem zql {p : Nat} (h : isPl p) : zl Zc (p + 1) = 40 ∧ zl Zc (p + 2) = 40 ∧ zl Zc (p + 3) = 40 ∧ zl Zc (p + 4) = 40 ∧ zl Zc (p + 5) = 6 ∧ zl Zc (p + 6) = 6 := by
  rcases h with rfl | rfl <;> (rw [Zc_eq]; decide +kernel)
theorem zq_k {p : Nat} (h : isPl p) : zk Zc p = 3 ∧ p < 127 := by
  rcases h with rfl | rfl <;> (rw [Zc_eq]; decide +kernel)
theorem zr_4 {s : Nat} (h : s < 8) : zr Zc 4 s = 5 + s := by
  have := (by rw [Zc_eq]; decide +kernel : ∀ s, s < 8 → zr Zc 4 s = 5 + s)
  exact this s h
theorem zl_5s {s : Nat} (h : s < 8) : zl Zc (5 + s) = 40 := by
  have := (by rw [Zc_eq]; decide +kernel : ∀ s, s < 8 → zl Zc (5 + s) = 40)
  exact this s h
theorem zr_34 {d : Nat} (h : d < 7) : zr Zc 34 d = 38 + 7 * d := by
  have := (by rw [Zc_eq]; decide +kernel : ∀ s, s < 7 → zr Zc 34 s = 38 + 7 * s)
  exact this d h
theorem isPn_d {d : Nat} (h : d < 7) : isPn (38 + 7 * d) := by unfold isPn; omega
theorem isPn_le {b : Nat} (h : isPn b) : 19 ≤ b ∧ b ≤ 80 := by unfold isPn at h; omega
theorem isPl_le {p : Nat} (h : isPl p) : 92 ≤ p ∧ p ≤ 99 := by unfold isPl at h; omega
