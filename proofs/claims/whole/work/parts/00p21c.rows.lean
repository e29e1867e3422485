/-! ===== reading and writing rows; comparing small numbers ===== -/
theorem zD : (∀ (μ : MT) (i : Nat), i < 8 → ald Zc μ 2 (nI i) = some (μ 2 i)) ∧ (∀ (μ : MT) (i : Nat), i < 8 → ald Zc μ 3 (nI i) = some (μ 3 i)) ∧ (∀ (μ : MT) (i : Nat), i < 500 → ald Zc μ 14 (nI i) = some (μ 14 i)) ∧ (∀ (μ : MT) (i : Nat), i < 12 → ald Zc μ 16 (nI i) = some (μ 16 i)) ∧ (∀ (μ : MT) (i : Nat), i < 6 → ald Zc μ 17 (nI i) = some (μ 17 i)) ∧ (∀ (μ : MT) (i : Nat), i < 12 → ald Zc μ 18 (nI i) = some (μ 18 i)) ∧ (∀ (μ : MT) (i : Nat), i < 6 → ald Zc μ 35 (nI i) = some (μ 35 i)) ∧ (∀ (μ : MT) (i : Nat), i < 6 → ald Zc μ 36 (nI i) = some (μ 36 i)) ∧ (∀ (μ : MT) (i : Nat), i < 64 → ald Zc μ 37 (nI i) = some (μ 37 i)) ∧ (∀ (μ : MT) (i : Nat), i < 12 → ald Zc μ 88 (nI i) = some (μ 88 i)) ∧ (∀ (μ : MT) (i : Nat), i < 12 → ald Zc μ 89 (nI i) = some (μ 89 i)) ∧ (∀ (μ : MT) (i : Nat), i < 16 → ald Zc μ 91 (nI i) = some (μ 91 i)) ∧ (∀ (μ : MT) (i : Nat), i < 8 → ald Zc μ 107 (nI i) = some (μ 107 i)) ∧ (∀ (μ : MT) (i : Nat), i < 8 → ald Zc μ 108 (nI i) = some (μ 108 i)) ∧ (∀ (μ : MT) (i : Nat), i < 320 → ald Zc μ 109 (nI i) = some (μ 109 i)) ∧ (∀ (μ : MT) (i : Nat), i < 160 → ald Zc μ 110 (nI i) = some (μ 110 i)) ∧ (∀ (μ : MT) (i : Nat), i < 10 → ald Zc μ 111 (nI i) = some (μ 111 i)) ∧ (∀ (μ : MT) (i : Nat), i < 10 → ald Zc μ 112 (nI i) = some (μ 112 i)) ∧ (∀ (μ : MT) (i : Nat), i < 160 → ald Zc μ 113 (nI i) = some (μ 113 i)) ∧ (∀ (μ : MT) (i : Nat), i < 10 → ald Zc μ 114 (nI i) = some (μ 114 i)) ∧ (∀ (μ : MT) (i : Nat), i < 10 → ald Zc μ 115 (nI i) = some (μ 115 i)) ∧ (∀ (μ : MT) (i : Nat), i < 500 → ald Zc μ 116 (nI i) = some (μ 116 i)) ∧ (∀ (μ : MT) (i : Nat), i < 12 → ald Zc μ 117 (nI i) = some (μ 117 i)) ∧ (∀ (μ : MT) (i : Nat), i < 6 → ald Zc μ 118 (nI i) = some (μ 118 i)) ∧ (∀ (μ : MT) (i : Nat), i < 48 → ald Zc μ 119 (nI i) = some (μ 119 i)) ∧ (∀ (μ : MT) (i : Nat), i < 12 → ald Zc μ 120 (nI i) = some (μ 120 i)) ∧ (∀ (μ : MT) (i : Nat), i < 12 → ald Zc μ 121 (nI i) = some (μ 121 i)) ∧ (∀ (μ : MT) (i : Nat), i < 48 → ald Zc μ 122 (nI i) = some (μ 122 i)) ∧ (∀ (μ : MT) (i : Nat), i < 12 → ald Zc μ 123 (nI i) = some (μ 123 i)) ∧ (∀ (μ : MT) (i : Nat), i < 6 → ald Zc μ 124 (nI i) = some (μ 124 i)) ∧ (∀ (μ : MT) (i : Nat), i < 6 → ald Zc μ 125 (nI i) = some (μ 125 i)) ∧ (∀ (μ : MT) (i : Nat), i < 16 → ald Zc μ 126 (nI i) = some (μ 126 i)) ∧ (∀ (μ : MT) (i : Nat), i < 6 → ald Zc μ 1000 (nI i) = some (μ 1000 i)) ∧ (∀ (μ : MT) (i : Nat), i < 8 → ald Zc μ 1001 (nI i) = some (μ 1001 i)) ∧ (∀ (μ : MT) (i : Nat), i < 8 → ald Zc μ 1002 (nI i) = some (μ 1002 i)) ∧ (∀ (μ : MT) (i : Nat), i < 8 → ald Zc μ 1003 (nI i) = some (μ 1003 i)) := by
  and_intros <;> exact fun μ i h => ald_n (by simp only [zA]) h (by omega)
theorem zE : (∀ (μ : MT) (i : Nat) (v : Int32), i < 8 → ast Zc μ 2 (nI i) v = some (u2 μ 2 i v)) ∧ (∀ (μ : MT) (i : Nat) (v : Int32), i < 8 → ast Zc μ 3 (nI i) v = some (u2 μ 3 i v)) ∧ (∀ (μ : MT) (i : Nat) (v : Int32), i < 500 → ast Zc μ 14 (nI i) v = some (u2 μ 14 i v)) ∧ (∀ (μ : MT) (i : Nat) (v : Int32), i < 12 → ast Zc μ 16 (nI i) v = some (u2 μ 16 i v)) ∧ (∀ (μ : MT) (i : Nat) (v : Int32), i < 6 → ast Zc μ 17 (nI i) v = some (u2 μ 17 i v)) ∧ (∀ (μ : MT) (i : Nat) (v : Int32), i < 12 → ast Zc μ 18 (nI i) v = some (u2 μ 18 i v)) ∧ (∀ (μ : MT) (i : Nat) (v : Int32), i < 6 → ast Zc μ 35 (nI i) v = some (u2 μ 35 i v)) ∧ (∀ (μ : MT) (i : Nat) (v : Int32), i < 6 → ast Zc μ 36 (nI i) v = some (u2 μ 36 i v)) ∧ (∀ (μ : MT) (i : Nat) (v : Int32), i < 64 → ast Zc μ 37 (nI i) v = some (u2 μ 37 i v)) ∧ (∀ (μ : MT) (i : Nat) (v : Int32), i < 12 → ast Zc μ 88 (nI i) v = some (u2 μ 88 i v)) ∧ (∀ (μ : MT) (i : Nat) (v : Int32), i < 12 → ast Zc μ 89 (nI i) v = some (u2 μ 89 i v)) ∧ (∀ (μ : MT) (i : Nat) (v : Int32), i < 16 → ast Zc μ 91 (nI i) v = some (u2 μ 91 i v)) ∧ (∀ (μ : MT) (i : Nat) (v : Int32), i < 8 → ast Zc μ 107 (nI i) v = some (u2 μ 107 i v)) ∧ (∀ (μ : MT) (i : Nat) (v : Int32), i < 8 → ast Zc μ 108 (nI i) v = some (u2 μ 108 i v)) ∧ (∀ (μ : MT) (i : Nat) (v : Int32), i < 320 → ast Zc μ 109 (nI i) v = some (u2 μ 109 i v)) ∧ (∀ (μ : MT) (i : Nat) (v : Int32), i < 160 → ast Zc μ 110 (nI i) v = some (u2 μ 110 i v)) ∧ (∀ (μ : MT) (i : Nat) (v : Int32), i < 10 → ast Zc μ 111 (nI i) v = some (u2 μ 111 i v)) ∧ (∀ (μ : MT) (i : Nat) (v : Int32), i < 10 → ast Zc μ 112 (nI i) v = some (u2 μ 112 i v)) ∧ (∀ (μ : MT) (i : Nat) (v : Int32), i < 160 → ast Zc μ 113 (nI i) v = some (u2 μ 113 i v)) ∧ (∀ (μ : MT) (i : Nat) (v : Int32), i < 10 → ast Zc μ 114 (nI i) v = some (u2 μ 114 i v)) ∧ (∀ (μ : MT) (i : Nat) (v : Int32), i < 10 → ast Zc μ 115 (nI i) v = some (u2 μ 115 i v)) ∧ (∀ (μ : MT) (i : Nat) (v : Int32), i < 500 → ast Zc μ 116 (nI i) v = some (u2 μ 116 i v)) ∧ (∀ (μ : MT) (i : Nat) (v : Int32), i < 12 → ast Zc μ 117 (nI i) v = some (u2 μ 117 i v)) ∧ (∀ (μ : MT) (i : Nat) (v : Int32), i < 6 → ast Zc μ 118 (nI i) v = some (u2 μ 118 i v)) ∧ (∀ (μ : MT) (i : Nat) (v : Int32), i < 48 → ast Zc μ 119 (nI i) v = some (u2 μ 119 i v)) ∧ (∀ (μ : MT) (i : Nat) (v : Int32), i < 12 → ast Zc μ 120 (nI i) v = some (u2 μ 120 i v)) ∧ (∀ (μ : MT) (i : Nat) (v : Int32), i < 12 → ast Zc μ 121 (nI i) v = some (u2 μ 121 i v)) ∧ (∀ (μ : MT) (i : Nat) (v : Int32), i < 48 → ast Zc μ 122 (nI i) v = some (u2 μ 122 i v)) ∧ (∀ (μ : MT) (i : Nat) (v : Int32), i < 12 → ast Zc μ 123 (nI i) v = some (u2 μ 123 i v)) ∧ (∀ (μ : MT) (i : Nat) (v : Int32), i < 6 → ast Zc μ 124 (nI i) v = some (u2 μ 124 i v)) ∧ (∀ (μ : MT) (i : Nat) (v : Int32), i < 6 → ast Zc μ 125 (nI i) v = some (u2 μ 125 i v)) ∧ (∀ (μ : MT) (i : Nat) (v : Int32), i < 16 → ast Zc μ 126 (nI i) v = some (u2 μ 126 i v)) ∧ (∀ (μ : MT) (i : Nat) (v : Int32), i < 6 → ast Zc μ 1000 (nI i) v = some (u2 μ 1000 i v)) ∧ (∀ (μ : MT) (i : Nat) (v : Int32), i < 8 → ast Zc μ 1001 (nI i) v = some (u2 μ 1001 i v)) ∧ (∀ (μ : MT) (i : Nat) (v : Int32), i < 8 → ast Zc μ 1002 (nI i) v = some (u2 μ 1002 i v)) ∧ (∀ (μ : MT) (i : Nat) (v : Int32), i < 8 → ast Zc μ 1003 (nI i) v = some (u2 μ 1003 i v)) := by
  and_intros <;> exact fun μ i v h => ast_n (by simp only [zA]) h (by omega)
theorem x_lt {a b : Nat} (ha : a < 2147483648) (hb : b < 2147483648) : nI a < nI b ↔ a < b := by exact nI_lti ha hb
theorem x_ltl {a b : Nat} (ha : a < 2147483648) (hb : (OfNat.ofNat b : Nat) < 2147483648) : nI a < (no_index (OfNat.ofNat b) : Int32) ↔ a < (OfNat.ofNat b : Nat) := by exact nI_lti ha hb
theorem x_llt {a b : Nat} (ha : a < 2147483648) (hb : (OfNat.ofNat b : Nat) < 2147483648) : (no_index (OfNat.ofNat b) : Int32) < nI a ↔ (OfNat.ofNat b : Nat) < a := by exact nI_lti hb ha
theorem x_le {a b : Nat} (ha : a < 2147483648) (hb : b < 2147483648) : nI a ≤ nI b ↔ a ≤ b := by exact nI_lei ha hb
theorem x_lel {a b : Nat} (ha : a < 2147483648) (hb : (OfNat.ofNat b : Nat) < 2147483648) : nI a ≤ (no_index (OfNat.ofNat b) : Int32) ↔ a ≤ (OfNat.ofNat b : Nat) := by exact nI_lei ha hb
theorem x_lle {a b : Nat} (ha : a < 2147483648) (hb : (OfNat.ofNat b : Nat) < 2147483648) : (no_index (OfNat.ofNat b) : Int32) ≤ nI a ↔ (OfNat.ofNat b : Nat) ≤ a := by exact nI_lei hb ha
theorem x_eq {a b : Nat} (ha : a < 2147483648) (hb : b < 2147483648) : nI a = nI b ↔ a = b := by exact nI_inj ha hb
theorem x_eql {a b : Nat} (ha : a < 2147483648) (hb : (OfNat.ofNat b : Nat) < 2147483648) : nI a = (no_index (OfNat.ofNat b) : Int32) ↔ a = (OfNat.ofNat b : Nat) := by exact nI_inj ha hb
theorem x_eqm {a : Nat} (ha : a < 2147483648) : (nI a = -1) ↔ False := by rw [fa_eq, ti_n ha, show (-1 : Int32).toInt = -1 from rfl]; constructor <;> intro h <;> first | omega | exact h.elim
theorem x_al {a b : Nat} : nI a + (no_index (OfNat.ofNat b) : Int32) = nI (a + (OfNat.ofNat b : Nat)) := by exact nI_add a b
theorem x_la {a b : Nat} : (no_index (OfNat.ofNat b) : Int32) + nI a = nI ((OfNat.ofNat b : Nat) + a) := by exact nI_add b a
theorem x_a {a b : Nat} : nI a + nI b = nI (a + b) := by exact nI_add a b
theorem x_ml {a b : Nat} : nI a * (no_index (OfNat.ofNat b) : Int32) = nI (a * (OfNat.ofNat b : Nat)) := by exact nmul a b
theorem x_lm {a b : Nat} : (no_index (OfNat.ofNat b) : Int32) * nI a = nI ((OfNat.ofNat b : Nat) * a) := by exact nmul b a
theorem x_m {a b : Nat} : nI a * nI b = nI (a * b) := by exact nmul a b
theorem x_s {a b : Nat} (h : b ≤ a) : nI a - nI b = nI (a - b) := by exact pk_sub h
theorem x_sl {a b : Nat} (h : (OfNat.ofNat b : Nat) ≤ a) : nI a - (no_index (OfNat.ofNat b) : Int32) = nI (a - (OfNat.ofNat b : Nat)) := by exact pk_sub h
theorem x_cl {a : Nat} (ha : a < 2147483648) : (nI a).toNatClampNeg = a := by exact nI_clamp ha
theorem x_ti {a : Nat} (ha : a < 2147483648) : (nI a).toInt = (a : Int) := by exact ti_n ha
theorem nt {p : Prop} [Decidable p] {α : Type} {x y : α} (h : p) : (if p then x else y) = x := if_pos h
theorem u2_r {μ : MT} {k j k1 j1 : Nat} {v : Int32} : u2 μ k j v k1 j1 = if k1 = k ∧ j1 = j then v else μ k1 j1 := by
  unfold u2 upd
  by_cases h : k1 = k
  · subst h; by_cases h2 : j1 = j <;> simp [h2]
  · simp [h]
theorem u1_r {μ : MT} {k k1 j1 : Nat} {f : Nat → Int32} : u1 μ k f k1 j1 = if k1 = k then f j1 else μ k1 j1 := by
  unfold u1
  by_cases h : k1 = k <;> simp [h]
theorem div_4 : idv = fun y z => if z = 0 then none else some (y / z) := rfl
theorem x_dv {y z : Int32} (h : z ≠ 0) : idv y z = some (y / z) := if_neg h
theorem x_d4 {y : Int32} : idv y 4 = some (y / 4) := if_neg (by decide)
theorem x_d2 {y : Int32} : idv y 2 = some (y / 2) := if_neg (by decide)
theorem x_nd {n d : Nat} (hn : n < 2147483648) (hd : 0 < d) (hd2 : d < 2147483648) : nI n / nI d = nI (n / d) := by
  rw [fa_eq, lg_idiv_nonneg (by rw [ti_n hn]; omega) (by rw [ti_n hd2]; omega), ti_n hn, ti_n hd2, ti_n (Nat.lt_of_le_of_lt (Nat.div_le_self n d) hn)]
  omega
theorem x_ndl {n d : Nat} (hn : n < 2147483648) (hd : 0 < (OfNat.ofNat d : Nat)) (hd2 : (OfNat.ofNat d : Nat) < 2147483648) : nI n / (no_index (OfNat.ofNat d) : Int32) = nI (n / (OfNat.ofNat d : Nat)) := x_nd hn hd hd2
theorem al_2 {μ : MT} {i : Nat} (h : i < 8) : ald Zc μ 2 (nI i) = some (μ 2 i) := ald_n (by simp only [zA]) h (by omega)
theorem as_2 {μ : MT} {i : Nat} {v : Int32} (h : i < 8) : ast Zc μ 2 (nI i) v = some (u2 μ 2 i v) := ast_n (by simp only [zA]) h (by omega)
theorem al_3 {μ : MT} {i : Nat} (h : i < 8) : ald Zc μ 3 (nI i) = some (μ 3 i) := ald_n (by simp only [zA]) h (by omega)
theorem as_3 {μ : MT} {i : Nat} {v : Int32} (h : i < 8) : ast Zc μ 3 (nI i) v = some (u2 μ 3 i v) := ast_n (by simp only [zA]) h (by omega)
theorem al_14 {μ : MT} {i : Nat} (h : i < 500) : ald Zc μ 14 (nI i) = some (μ 14 i) := ald_n (by simp only [zA]) h (by omega)
theorem as_14 {μ : MT} {i : Nat} {v : Int32} (h : i < 500) : ast Zc μ 14 (nI i) v = some (u2 μ 14 i v) := ast_n (by simp only [zA]) h (by omega)
theorem al_16 {μ : MT} {i : Nat} (h : i < 12) : ald Zc μ 16 (nI i) = some (μ 16 i) := ald_n (by simp only [zA]) h (by omega)
theorem as_16 {μ : MT} {i : Nat} {v : Int32} (h : i < 12) : ast Zc μ 16 (nI i) v = some (u2 μ 16 i v) := ast_n (by simp only [zA]) h (by omega)
theorem al_17 {μ : MT} {i : Nat} (h : i < 6) : ald Zc μ 17 (nI i) = some (μ 17 i) := ald_n (by simp only [zA]) h (by omega)
theorem as_17 {μ : MT} {i : Nat} {v : Int32} (h : i < 6) : ast Zc μ 17 (nI i) v = some (u2 μ 17 i v) := ast_n (by simp only [zA]) h (by omega)
theorem al_18 {μ : MT} {i : Nat} (h : i < 12) : ald Zc μ 18 (nI i) = some (μ 18 i) := ald_n (by simp only [zA]) h (by omega)
theorem as_18 {μ : MT} {i : Nat} {v : Int32} (h : i < 12) : ast Zc μ 18 (nI i) v = some (u2 μ 18 i v) := ast_n (by simp only [zA]) h (by omega)
theorem al_35 {μ : MT} {i : Nat} (h : i < 6) : ald Zc μ 35 (nI i) = some (μ 35 i) := ald_n (by simp only [zA]) h (by omega)
theorem as_35 {μ : MT} {i : Nat} {v : Int32} (h : i < 6) : ast Zc μ 35 (nI i) v = some (u2 μ 35 i v) := ast_n (by simp only [zA]) h (by omega)
theorem al_36 {μ : MT} {i : Nat} (h : i < 6) : ald Zc μ 36 (nI i) = some (μ 36 i) := ald_n (by simp only [zA]) h (by omega)
theorem as_36 {μ : MT} {i : Nat} {v : Int32} (h : i < 6) : ast Zc μ 36 (nI i) v = some (u2 μ 36 i v) := ast_n (by simp only [zA]) h (by omega)
theorem al_37 {μ : MT} {i : Nat} (h : i < 64) : ald Zc μ 37 (nI i) = some (μ 37 i) := ald_n (by simp only [zA]) h (by omega)
theorem as_37 {μ : MT} {i : Nat} {v : Int32} (h : i < 64) : ast Zc μ 37 (nI i) v = some (u2 μ 37 i v) := ast_n (by simp only [zA]) h (by omega)
theorem al_88 {μ : MT} {i : Nat} (h : i < 12) : ald Zc μ 88 (nI i) = some (μ 88 i) := ald_n (by simp only [zA]) h (by omega)
theorem as_88 {μ : MT} {i : Nat} {v : Int32} (h : i < 12) : ast Zc μ 88 (nI i) v = some (u2 μ 88 i v) := ast_n (by simp only [zA]) h (by omega)
theorem al_89 {μ : MT} {i : Nat} (h : i < 12) : ald Zc μ 89 (nI i) = some (μ 89 i) := ald_n (by simp only [zA]) h (by omega)
theorem as_89 {μ : MT} {i : Nat} {v : Int32} (h : i < 12) : ast Zc μ 89 (nI i) v = some (u2 μ 89 i v) := ast_n (by simp only [zA]) h (by omega)
theorem al_91 {μ : MT} {i : Nat} (h : i < 16) : ald Zc μ 91 (nI i) = some (μ 91 i) := ald_n (by simp only [zA]) h (by omega)
theorem as_91 {μ : MT} {i : Nat} {v : Int32} (h : i < 16) : ast Zc μ 91 (nI i) v = some (u2 μ 91 i v) := ast_n (by simp only [zA]) h (by omega)
theorem al_107 {μ : MT} {i : Nat} (h : i < 8) : ald Zc μ 107 (nI i) = some (μ 107 i) := ald_n (by simp only [zA]) h (by omega)
theorem as_107 {μ : MT} {i : Nat} {v : Int32} (h : i < 8) : ast Zc μ 107 (nI i) v = some (u2 μ 107 i v) := ast_n (by simp only [zA]) h (by omega)
theorem al_108 {μ : MT} {i : Nat} (h : i < 8) : ald Zc μ 108 (nI i) = some (μ 108 i) := ald_n (by simp only [zA]) h (by omega)
theorem as_108 {μ : MT} {i : Nat} {v : Int32} (h : i < 8) : ast Zc μ 108 (nI i) v = some (u2 μ 108 i v) := ast_n (by simp only [zA]) h (by omega)
theorem al_109 {μ : MT} {i : Nat} (h : i < 320) : ald Zc μ 109 (nI i) = some (μ 109 i) := ald_n (by simp only [zA]) h (by omega)
theorem as_109 {μ : MT} {i : Nat} {v : Int32} (h : i < 320) : ast Zc μ 109 (nI i) v = some (u2 μ 109 i v) := ast_n (by simp only [zA]) h (by omega)
theorem al_110 {μ : MT} {i : Nat} (h : i < 160) : ald Zc μ 110 (nI i) = some (μ 110 i) := ald_n (by simp only [zA]) h (by omega)
theorem as_110 {μ : MT} {i : Nat} {v : Int32} (h : i < 160) : ast Zc μ 110 (nI i) v = some (u2 μ 110 i v) := ast_n (by simp only [zA]) h (by omega)
theorem al_111 {μ : MT} {i : Nat} (h : i < 10) : ald Zc μ 111 (nI i) = some (μ 111 i) := ald_n (by simp only [zA]) h (by omega)
theorem as_111 {μ : MT} {i : Nat} {v : Int32} (h : i < 10) : ast Zc μ 111 (nI i) v = some (u2 μ 111 i v) := ast_n (by simp only [zA]) h (by omega)
theorem al_112 {μ : MT} {i : Nat} (h : i < 10) : ald Zc μ 112 (nI i) = some (μ 112 i) := ald_n (by simp only [zA]) h (by omega)
theorem as_112 {μ : MT} {i : Nat} {v : Int32} (h : i < 10) : ast Zc μ 112 (nI i) v = some (u2 μ 112 i v) := ast_n (by simp only [zA]) h (by omega)
theorem al_113 {μ : MT} {i : Nat} (h : i < 160) : ald Zc μ 113 (nI i) = some (μ 113 i) := ald_n (by simp only [zA]) h (by omega)
theorem as_113 {μ : MT} {i : Nat} {v : Int32} (h : i < 160) : ast Zc μ 113 (nI i) v = some (u2 μ 113 i v) := ast_n (by simp only [zA]) h (by omega)
theorem al_114 {μ : MT} {i : Nat} (h : i < 10) : ald Zc μ 114 (nI i) = some (μ 114 i) := ald_n (by simp only [zA]) h (by omega)
theorem as_114 {μ : MT} {i : Nat} {v : Int32} (h : i < 10) : ast Zc μ 114 (nI i) v = some (u2 μ 114 i v) := ast_n (by simp only [zA]) h (by omega)
theorem al_115 {μ : MT} {i : Nat} (h : i < 10) : ald Zc μ 115 (nI i) = some (μ 115 i) := ald_n (by simp only [zA]) h (by omega)
theorem as_115 {μ : MT} {i : Nat} {v : Int32} (h : i < 10) : ast Zc μ 115 (nI i) v = some (u2 μ 115 i v) := ast_n (by simp only [zA]) h (by omega)
theorem al_116 {μ : MT} {i : Nat} (h : i < 500) : ald Zc μ 116 (nI i) = some (μ 116 i) := ald_n (by simp only [zA]) h (by omega)
theorem as_116 {μ : MT} {i : Nat} {v : Int32} (h : i < 500) : ast Zc μ 116 (nI i) v = some (u2 μ 116 i v) := ast_n (by simp only [zA]) h (by omega)
theorem al_117 {μ : MT} {i : Nat} (h : i < 12) : ald Zc μ 117 (nI i) = some (μ 117 i) := ald_n (by simp only [zA]) h (by omega)
theorem as_117 {μ : MT} {i : Nat} {v : Int32} (h : i < 12) : ast Zc μ 117 (nI i) v = some (u2 μ 117 i v) := ast_n (by simp only [zA]) h (by omega)
theorem al_118 {μ : MT} {i : Nat} (h : i < 6) : ald Zc μ 118 (nI i) = some (μ 118 i) := ald_n (by simp only [zA]) h (by omega)
theorem as_118 {μ : MT} {i : Nat} {v : Int32} (h : i < 6) : ast Zc μ 118 (nI i) v = some (u2 μ 118 i v) := ast_n (by simp only [zA]) h (by omega)
theorem al_119 {μ : MT} {i : Nat} (h : i < 48) : ald Zc μ 119 (nI i) = some (μ 119 i) := ald_n (by simp only [zA]) h (by omega)
theorem as_119 {μ : MT} {i : Nat} {v : Int32} (h : i < 48) : ast Zc μ 119 (nI i) v = some (u2 μ 119 i v) := ast_n (by simp only [zA]) h (by omega)
theorem al_120 {μ : MT} {i : Nat} (h : i < 12) : ald Zc μ 120 (nI i) = some (μ 120 i) := ald_n (by simp only [zA]) h (by omega)
theorem as_120 {μ : MT} {i : Nat} {v : Int32} (h : i < 12) : ast Zc μ 120 (nI i) v = some (u2 μ 120 i v) := ast_n (by simp only [zA]) h (by omega)
theorem al_121 {μ : MT} {i : Nat} (h : i < 12) : ald Zc μ 121 (nI i) = some (μ 121 i) := ald_n (by simp only [zA]) h (by omega)
theorem as_121 {μ : MT} {i : Nat} {v : Int32} (h : i < 12) : ast Zc μ 121 (nI i) v = some (u2 μ 121 i v) := ast_n (by simp only [zA]) h (by omega)
theorem al_122 {μ : MT} {i : Nat} (h : i < 48) : ald Zc μ 122 (nI i) = some (μ 122 i) := ald_n (by simp only [zA]) h (by omega)
theorem as_122 {μ : MT} {i : Nat} {v : Int32} (h : i < 48) : ast Zc μ 122 (nI i) v = some (u2 μ 122 i v) := ast_n (by simp only [zA]) h (by omega)
theorem al_123 {μ : MT} {i : Nat} (h : i < 12) : ald Zc μ 123 (nI i) = some (μ 123 i) := ald_n (by simp only [zA]) h (by omega)
theorem as_123 {μ : MT} {i : Nat} {v : Int32} (h : i < 12) : ast Zc μ 123 (nI i) v = some (u2 μ 123 i v) := ast_n (by simp only [zA]) h (by omega)
theorem al_124 {μ : MT} {i : Nat} (h : i < 6) : ald Zc μ 124 (nI i) = some (μ 124 i) := ald_n (by simp only [zA]) h (by omega)
theorem as_124 {μ : MT} {i : Nat} {v : Int32} (h : i < 6) : ast Zc μ 124 (nI i) v = some (u2 μ 124 i v) := ast_n (by simp only [zA]) h (by omega)
theorem al_125 {μ : MT} {i : Nat} (h : i < 6) : ald Zc μ 125 (nI i) = some (μ 125 i) := ald_n (by simp only [zA]) h (by omega)
theorem as_125 {μ : MT} {i : Nat} {v : Int32} (h : i < 6) : ast Zc μ 125 (nI i) v = some (u2 μ 125 i v) := ast_n (by simp only [zA]) h (by omega)
theorem al_126 {μ : MT} {i : Nat} (h : i < 16) : ald Zc μ 126 (nI i) = some (μ 126 i) := ald_n (by simp only [zA]) h (by omega)
theorem as_126 {μ : MT} {i : Nat} {v : Int32} (h : i < 16) : ast Zc μ 126 (nI i) v = some (u2 μ 126 i v) := ast_n (by simp only [zA]) h (by omega)
theorem al_1000 {μ : MT} {i : Nat} (h : i < 6) : ald Zc μ 1000 (nI i) = some (μ 1000 i) := ald_n (by simp only [zA]) h (by omega)
theorem as_1000 {μ : MT} {i : Nat} {v : Int32} (h : i < 6) : ast Zc μ 1000 (nI i) v = some (u2 μ 1000 i v) := ast_n (by simp only [zA]) h (by omega)
theorem al_1001 {μ : MT} {i : Nat} (h : i < 8) : ald Zc μ 1001 (nI i) = some (μ 1001 i) := ald_n (by simp only [zA]) h (by omega)
theorem as_1001 {μ : MT} {i : Nat} {v : Int32} (h : i < 8) : ast Zc μ 1001 (nI i) v = some (u2 μ 1001 i v) := ast_n (by simp only [zA]) h (by omega)
theorem al_1002 {μ : MT} {i : Nat} (h : i < 8) : ald Zc μ 1002 (nI i) = some (μ 1002 i) := ald_n (by simp only [zA]) h (by omega)
theorem as_1002 {μ : MT} {i : Nat} {v : Int32} (h : i < 8) : ast Zc μ 1002 (nI i) v = some (u2 μ 1002 i v) := ast_n (by simp only [zA]) h (by omega)
theorem al_1003 {μ : MT} {i : Nat} (h : i < 8) : ald Zc μ 1003 (nI i) = some (μ 1003 i) := ald_n (by simp only [zA]) h (by omega)
theorem as_1003 {μ : MT} {i : Nat} {v : Int32} (h : i < 8) : ast Zc μ 1003 (nI i) v = some (u2 μ 1003 i v) := ast_n (by simp only [zA]) h (by omega)
