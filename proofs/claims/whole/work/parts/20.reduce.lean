/-! ===== the law's loop, over any invariant that every call keeps ===== -/
theorem lawB_eq (ss : Nat → Int32) (L : Nat) (μ : MT) : m_L_law Zf 127 ss L 0 106 μ = (loop (lawB ss L) LN (0, μ)).bind (jn fun ν => some (1, ν)) := rfl
theorem scl_at {ss : Nat → Int32} {L i : Nat} (h : i < L) (hL : L ≤ 3072) {v : Int32} (hv : v = nI i) : scl ss L v = some (ss i) := by
  subst hv
  unfold scl
  have hin : vp_in (nI i) L := vp_in_nI h (by omega)
  rw [if_pos (inb_vp.mpr hin), nI_clamp (by omega)]
theorem nI_lit (i k : Nat) (v : Int32) (hv : v = nI k) : nI i + v = nI (i + k) := by
  rw [hv]
  exact nI_add i k
set_option maxRecDepth 20000 in
set_option maxHeartbeats 8000000 in
theorem law_body {Inv : MT → Prop} (hop : Ops Inv) {ss : Nat → Int32} {L i : Nat} {ν : MT} (hi : i + 5 < L) (hL : L ≤ 3072) (hν : Inv ν) : ∃ ν', Inv ν' ∧ lawB ss L (nI i, ν) = some (.inl (nI (i + 6), ν')) := by
  have hlt : ¬ (Int32.ofNat L) - 6 < nI i := by
    have e : (Int32.ofNat L) - 6 = nI (L - 6) := pk_sub (a := L) (b := 6) (by omega)
    rw [e]
    exact nI_nlt (by omega) (by omega)
  have s0 := scl_at (ss := ss) (i := i) (v := nI i) (show i < L by omega) hL rfl
  have s1 := scl_at (ss := ss) (i := i + 1) (v := nI i + 1) (show i + 1 < L by omega) hL (nI_lit i 1 1 rfl)
  have s2 := scl_at (ss := ss) (i := i + 2) (v := nI i + 2) (show i + 2 < L by omega) hL (nI_lit i 2 2 rfl)
  have s3 := scl_at (ss := ss) (i := i + 3) (v := nI i + 3) (show i + 3 < L by omega) hL (nI_lit i 3 3 rfl)
  have s4 := scl_at (ss := ss) (i := i + 4) (v := nI i + 4) (show i + 4 < L by omega) hL (nI_lit i 4 4 rfl)
  have s5 := scl_at (ss := ss) (i := i + 5) (v := nI i + 5) (show i + 5 < L by omega) hL (nI_lit i 5 5 rfl)
  have s6 : nI i + 6 = nI (i + 6) := nI_lit i 6 6 rfl
  obtain ⟨o0, o1, o2, o3, o4, o5, o6, o7, o8, o9, o10, o11, o12, o13, o14, o15, o16, o17, o18, o19, o20, o21, o22, o23, o24, o25, o26, o27⟩ := hop ν hν
  unfold lawB
  simp only []
  rw [if_neg hlt, s0, ob_s]
  generalize ss i &&& 31 = x
  by_cases e0 : x = 0
  · obtain ⟨a, μ1, μ2, h1, h2, h3⟩ := o0 (ss (i + 1)) (ss (i + 2)) (ss (i + 3))
    refine ⟨μ2, h3, ?_⟩
    rw [if_pos e0]
    simp only [s1, s2, s3, ob_s]
    rw [h1]
    simp only [s1, s2, s3, ob_s]
    try simp only [] at h2
    rw [h2]
    simp only [ob_s, if_true, jn, s6]
  by_cases e1 : x = 1
  · obtain ⟨a, μ1, μ2, h1, h2, h3⟩ := o1 (ss (i + 1)) (ss (i + 2)) (ss (i + 3))
    refine ⟨μ2, h3, ?_⟩
    rw [if_neg e0, if_pos e1]
    simp only [s1, s2, s3, ob_s]
    rw [h1]
    simp only [s1, s2, s3, ob_s]
    try simp only [] at h2
    rw [h2]
    simp only [ob_s, if_true, jn, s6]
  by_cases e2 : x = 2
  · obtain ⟨a, μ1, μ2, h1, h2, h3⟩ := o2 (ss (i + 1)) (ss (i + 2)) (ss (i + 3)) (ss (i + 4)) (ss (i + 5))
    refine ⟨μ2, h3, ?_⟩
    rw [if_neg e0, if_neg e1, if_pos e2]
    simp only [s1, s2, s3, s4, s5, ob_s]
    rw [h1]
    simp only [s1, s2, s3, s4, s5, ob_s]
    try simp only [] at h2
    rw [h2]
    simp only [ob_s, if_true, jn, s6]
  by_cases e3 : x = 3
  · obtain ⟨a, μ1, μ2, h1, h2, h3⟩ := o3 (ss (i + 1))
    refine ⟨μ2, h3, ?_⟩
    rw [if_neg e0, if_neg e1, if_neg e2, if_pos e3]
    simp only [s1, ob_s]
    rw [h1]
    simp only [s1, ob_s]
    try simp only [] at h2
    rw [h2]
    simp only [ob_s, if_true, jn, s6]
  by_cases e4 : x = 4
  · obtain ⟨a, μ1, μ2, h1, h2, h3⟩ := o4 (ss (i + 1)) (ss (i + 2)) (ss (i + 3))
    refine ⟨μ2, h3, ?_⟩
    rw [if_neg e0, if_neg e1, if_neg e2, if_neg e3, if_pos e4]
    simp only [s1, s2, s3, ob_s]
    rw [h1]
    simp only [s1, s2, s3, ob_s]
    try simp only [] at h2
    rw [h2]
    simp only [ob_s, if_true, jn, s6]
  by_cases e5 : x = 5
  · obtain ⟨a, μ1, μ2, h1, h2, h3⟩ := o5 
    refine ⟨μ2, h3, ?_⟩
    rw [if_neg e0, if_neg e1, if_neg e2, if_neg e3, if_neg e4, if_pos e5]
    skip
    rw [h1]
    simp only [ob_s]
    try simp only [] at h2
    rw [h2]
    simp only [ob_s, if_true, jn, s6]
  by_cases e6 : x = 6
  · obtain ⟨a, μ2, h1, h2, h3⟩ := o6 
    refine ⟨μ2, h3, ?_⟩
    rw [if_neg e0, if_neg e1, if_neg e2, if_neg e3, if_neg e4, if_neg e5, if_pos e6]
    skip
    rw [h1]
    simp only [ob_s]
    try simp only [] at h2
    rw [h2]
    simp only [ob_s, if_true, jn, s6]
  by_cases e7 : x = 7
  · obtain ⟨a, μ2, h1, h2, h3⟩ := o7 (ss (i + 1)) (ss (i + 2))
    refine ⟨μ2, h3, ?_⟩
    rw [if_neg e0, if_neg e1, if_neg e2, if_neg e3, if_neg e4, if_neg e5, if_neg e6, if_pos e7]
    simp only [s1, s2, ob_s]
    rw [h1]
    simp only [s1, s2, ob_s]
    try simp only [] at h2
    rw [h2]
    simp only [ob_s, if_true, jn, s6]
  by_cases e8 : x = 8
  · obtain ⟨a, μ1, μ2, h1, h2, h3⟩ := o8 (ss (i + 1)) (ss (i + 2))
    refine ⟨μ2, h3, ?_⟩
    rw [if_neg e0, if_neg e1, if_neg e2, if_neg e3, if_neg e4, if_neg e5, if_neg e6, if_neg e7, if_pos e8]
    simp only [s1, s2, ob_s]
    rw [h1]
    simp only [s1, s2, ob_s]
    try simp only [] at h2
    rw [h2]
    simp only [ob_s, if_true, jn, s6]
  by_cases e9 : x = 9
  · obtain ⟨a, μ1, μ2, h1, h2, h3⟩ := o9 (ss (i + 1)) (ss (i + 2))
    refine ⟨μ2, h3, ?_⟩
    rw [if_neg e0, if_neg e1, if_neg e2, if_neg e3, if_neg e4, if_neg e5, if_neg e6, if_neg e7, if_neg e8, if_pos e9]
    simp only [s1, s2, ob_s]
    rw [h1]
    simp only [s1, s2, ob_s]
    try simp only [] at h2
    rw [h2]
    simp only [ob_s, if_true, jn, s6]
  by_cases e10 : x = 10
  · obtain ⟨a, μ1, μ2, h1, h2, h3⟩ := o10 
    refine ⟨μ2, h3, ?_⟩
    rw [if_neg e0, if_neg e1, if_neg e2, if_neg e3, if_neg e4, if_neg e5, if_neg e6, if_neg e7, if_neg e8, if_neg e9, if_pos e10]
    skip
    rw [h1]
    simp only [ob_s]
    try simp only [] at h2
    rw [h2]
    simp only [ob_s, if_true, jn, s6]
  by_cases e11 : x = 11
  · obtain ⟨a, μ1, μ2, h1, h2, h3⟩ := o11 (ss (i + 1)) (ss (i + 2))
    refine ⟨μ2, h3, ?_⟩
    rw [if_neg e0, if_neg e1, if_neg e2, if_neg e3, if_neg e4, if_neg e5, if_neg e6, if_neg e7, if_neg e8, if_neg e9, if_neg e10, if_pos e11]
    simp only [s1, s2, ob_s]
    rw [h1]
    simp only [s1, s2, ob_s]
    try simp only [] at h2
    rw [h2]
    simp only [ob_s, if_true, jn, s6]
  by_cases e12 : x = 12
  · obtain ⟨a, μ2, h1, h2, h3⟩ := o12 (ss (i + 1))
    refine ⟨μ2, h3, ?_⟩
    rw [if_neg e0, if_neg e1, if_neg e2, if_neg e3, if_neg e4, if_neg e5, if_neg e6, if_neg e7, if_neg e8, if_neg e9, if_neg e10, if_neg e11, if_pos e12]
    simp only [s1, ob_s]
    rw [h1]
    simp only [s1, ob_s]
    try simp only [] at h2
    rw [h2]
    simp only [ob_s, if_true, jn, s6]
  by_cases e13 : x = 13
  · obtain ⟨a, μ2, h1, h2, h3⟩ := o13 
    refine ⟨μ2, h3, ?_⟩
    rw [if_neg e0, if_neg e1, if_neg e2, if_neg e3, if_neg e4, if_neg e5, if_neg e6, if_neg e7, if_neg e8, if_neg e9, if_neg e10, if_neg e11, if_neg e12, if_pos e13]
    skip
    rw [h1]
    simp only [ob_s]
    try simp only [] at h2
    rw [h2]
    simp only [ob_s, if_true, jn, s6]
  by_cases e14 : x = 14
  · obtain ⟨a, μ1, μ2, h1, h2, h3⟩ := o14 (ss (i + 1))
    refine ⟨μ2, h3, ?_⟩
    rw [if_neg e0, if_neg e1, if_neg e2, if_neg e3, if_neg e4, if_neg e5, if_neg e6, if_neg e7, if_neg e8, if_neg e9, if_neg e10, if_neg e11, if_neg e12, if_neg e13, if_pos e14]
    simp only [s1, ob_s]
    rw [h1]
    simp only [s1, ob_s]
    try simp only [] at h2
    rw [h2]
    simp only [ob_s, if_true, jn, s6]
  by_cases e15 : x = 15
  · obtain ⟨a, μ1, μ2, h1, h2, h3⟩ := o15 (ss (i + 1))
    refine ⟨μ2, h3, ?_⟩
    rw [if_neg e0, if_neg e1, if_neg e2, if_neg e3, if_neg e4, if_neg e5, if_neg e6, if_neg e7, if_neg e8, if_neg e9, if_neg e10, if_neg e11, if_neg e12, if_neg e13, if_neg e14, if_pos e15]
    simp only [s1, ob_s]
    rw [h1]
    simp only [s1, ob_s]
    try simp only [] at h2
    rw [h2]
    simp only [ob_s, if_true, jn, s6]
  by_cases e16 : x = 16
  · obtain ⟨a, μ1, μ2, h1, h2, h3⟩ := o16 
    refine ⟨μ2, h3, ?_⟩
    rw [if_neg e0, if_neg e1, if_neg e2, if_neg e3, if_neg e4, if_neg e5, if_neg e6, if_neg e7, if_neg e8, if_neg e9, if_neg e10, if_neg e11, if_neg e12, if_neg e13, if_neg e14, if_neg e15, if_pos e16]
    skip
    rw [h1]
    simp only [ob_s]
    try simp only [] at h2
    rw [h2]
    simp only [ob_s, if_true, jn, s6]
  by_cases e17 : x = 17
  · obtain ⟨a, μ1, μ2, h1, h2, h3⟩ := o17 (ss (i + 1))
    refine ⟨μ2, h3, ?_⟩
    rw [if_neg e0, if_neg e1, if_neg e2, if_neg e3, if_neg e4, if_neg e5, if_neg e6, if_neg e7, if_neg e8, if_neg e9, if_neg e10, if_neg e11, if_neg e12, if_neg e13, if_neg e14, if_neg e15, if_neg e16, if_pos e17]
    simp only [s1, ob_s]
    rw [h1]
    simp only [s1, ob_s]
    try simp only [] at h2
    rw [h2]
    simp only [ob_s, if_true, jn, s6]
  by_cases e18 : x = 18
  · obtain ⟨a, μ1, μ2, h1, h2, h3⟩ := o18 (ss (i + 1)) (ss (i + 2))
    refine ⟨μ2, h3, ?_⟩
    rw [if_neg e0, if_neg e1, if_neg e2, if_neg e3, if_neg e4, if_neg e5, if_neg e6, if_neg e7, if_neg e8, if_neg e9, if_neg e10, if_neg e11, if_neg e12, if_neg e13, if_neg e14, if_neg e15, if_neg e16, if_neg e17, if_pos e18]
    simp only [s1, s2, ob_s]
    rw [h1]
    simp only [s1, s2, ob_s]
    try simp only [] at h2
    rw [h2]
    simp only [ob_s, if_true, jn, s6]
  by_cases e19 : x = 19
  · obtain ⟨a, μ2, h1, h2, h3⟩ := o19 (ss (i + 1))
    refine ⟨μ2, h3, ?_⟩
    rw [if_neg e0, if_neg e1, if_neg e2, if_neg e3, if_neg e4, if_neg e5, if_neg e6, if_neg e7, if_neg e8, if_neg e9, if_neg e10, if_neg e11, if_neg e12, if_neg e13, if_neg e14, if_neg e15, if_neg e16, if_neg e17, if_neg e18, if_pos e19]
    simp only [s1, ob_s]
    rw [h1]
    simp only [s1, ob_s]
    try simp only [] at h2
    rw [h2]
    simp only [ob_s, if_true, jn, s6]
  by_cases e20 : x = 20
  · obtain ⟨a, μ2, h1, h2, h3⟩ := o20 
    refine ⟨μ2, h3, ?_⟩
    rw [if_neg e0, if_neg e1, if_neg e2, if_neg e3, if_neg e4, if_neg e5, if_neg e6, if_neg e7, if_neg e8, if_neg e9, if_neg e10, if_neg e11, if_neg e12, if_neg e13, if_neg e14, if_neg e15, if_neg e16, if_neg e17, if_neg e18, if_neg e19, if_pos e20]
    skip
    rw [h1]
    simp only [ob_s]
    try simp only [] at h2
    rw [h2]
    simp only [ob_s, if_true, jn, s6]
  by_cases e21 : x = 21
  · obtain ⟨a, μ1, μ2, h1, h2, h3⟩ := o21 (ss (i + 1)) (ss (i + 2)) (ss (i + 3))
    refine ⟨μ2, h3, ?_⟩
    rw [if_neg e0, if_neg e1, if_neg e2, if_neg e3, if_neg e4, if_neg e5, if_neg e6, if_neg e7, if_neg e8, if_neg e9, if_neg e10, if_neg e11, if_neg e12, if_neg e13, if_neg e14, if_neg e15, if_neg e16, if_neg e17, if_neg e18, if_neg e19, if_neg e20, if_pos e21]
    simp only [s1, s2, s3, ob_s]
    rw [h1]
    simp only [s1, s2, s3, ob_s]
    try simp only [] at h2
    rw [h2]
    simp only [ob_s, if_true, jn, s6]
  by_cases e22 : x = 22
  · obtain ⟨a, μ2, h1, h2, h3⟩ := o22 (ss (i + 1))
    refine ⟨μ2, h3, ?_⟩
    rw [if_neg e0, if_neg e1, if_neg e2, if_neg e3, if_neg e4, if_neg e5, if_neg e6, if_neg e7, if_neg e8, if_neg e9, if_neg e10, if_neg e11, if_neg e12, if_neg e13, if_neg e14, if_neg e15, if_neg e16, if_neg e17, if_neg e18, if_neg e19, if_neg e20, if_neg e21, if_pos e22]
    simp only [s1, ob_s]
    rw [h1]
    simp only [s1, ob_s]
    try simp only [] at h2
    rw [h2]
    simp only [ob_s, if_true, jn, s6]
  by_cases e23 : x = 23
  · obtain ⟨a, μ1, μ2, h1, h2, h3⟩ := o23 (ss (i + 1)) (ss (i + 2))
    refine ⟨μ2, h3, ?_⟩
    rw [if_neg e0, if_neg e1, if_neg e2, if_neg e3, if_neg e4, if_neg e5, if_neg e6, if_neg e7, if_neg e8, if_neg e9, if_neg e10, if_neg e11, if_neg e12, if_neg e13, if_neg e14, if_neg e15, if_neg e16, if_neg e17, if_neg e18, if_neg e19, if_neg e20, if_neg e21, if_neg e22, if_pos e23]
    simp only [s1, s2, ob_s]
    rw [h1]
    simp only [s1, s2, ob_s]
    try simp only [] at h2
    rw [h2]
    simp only [ob_s, if_true, jn, s6]
  by_cases e24 : x = 24
  · obtain ⟨a, μ1, μ2, h1, h2, h3⟩ := o24 (ss (i + 1)) (ss (i + 2))
    refine ⟨μ2, h3, ?_⟩
    rw [if_neg e0, if_neg e1, if_neg e2, if_neg e3, if_neg e4, if_neg e5, if_neg e6, if_neg e7, if_neg e8, if_neg e9, if_neg e10, if_neg e11, if_neg e12, if_neg e13, if_neg e14, if_neg e15, if_neg e16, if_neg e17, if_neg e18, if_neg e19, if_neg e20, if_neg e21, if_neg e22, if_neg e23, if_pos e24]
    simp only [s1, s2, ob_s]
    rw [h1]
    simp only [s1, s2, ob_s]
    try simp only [] at h2
    rw [h2]
    simp only [ob_s, if_true, jn, s6]
  by_cases e25 : x = 25
  · obtain ⟨a, μ2, h1, h2, h3⟩ := o25 (ss (i + 1))
    refine ⟨μ2, h3, ?_⟩
    rw [if_neg e0, if_neg e1, if_neg e2, if_neg e3, if_neg e4, if_neg e5, if_neg e6, if_neg e7, if_neg e8, if_neg e9, if_neg e10, if_neg e11, if_neg e12, if_neg e13, if_neg e14, if_neg e15, if_neg e16, if_neg e17, if_neg e18, if_neg e19, if_neg e20, if_neg e21, if_neg e22, if_neg e23, if_neg e24, if_pos e25]
    simp only [s1, ob_s]
    rw [h1]
    simp only [s1, ob_s]
    try simp only [] at h2
    rw [h2]
    simp only [ob_s, if_true, jn, s6]
  by_cases e26 : x = 26
  · obtain ⟨a, μ2, h1, h2, h3⟩ := o26 (ss (i + 1))
    refine ⟨μ2, h3, ?_⟩
    rw [if_neg e0, if_neg e1, if_neg e2, if_neg e3, if_neg e4, if_neg e5, if_neg e6, if_neg e7, if_neg e8, if_neg e9, if_neg e10, if_neg e11, if_neg e12, if_neg e13, if_neg e14, if_neg e15, if_neg e16, if_neg e17, if_neg e18, if_neg e19, if_neg e20, if_neg e21, if_neg e22, if_neg e23, if_neg e24, if_neg e25, if_pos e26]
    simp only [s1, ob_s]
    rw [h1]
    simp only [s1, ob_s]
    try simp only [] at h2
    rw [h2]
    simp only [ob_s, if_true, jn, s6]
  by_cases e27 : x = 27
  · obtain ⟨a, μ2, h1, h2, h3⟩ := o27 
    refine ⟨μ2, h3, ?_⟩
    rw [if_neg e0, if_neg e1, if_neg e2, if_neg e3, if_neg e4, if_neg e5, if_neg e6, if_neg e7, if_neg e8, if_neg e9, if_neg e10, if_neg e11, if_neg e12, if_neg e13, if_neg e14, if_neg e15, if_neg e16, if_neg e17, if_neg e18, if_neg e19, if_neg e20, if_neg e21, if_neg e22, if_neg e23, if_neg e24, if_neg e25, if_neg e26, if_pos e27]
    skip
    rw [h1]
    simp only [ob_s]
    try simp only [] at h2
    rw [h2]
    simp only [ob_s, if_true, jn, s6]
  refine ⟨ν, hν, ?_⟩
  rw [if_neg e0, if_neg e1, if_neg e2, if_neg e3, if_neg e4, if_neg e5, if_neg e6, if_neg e7, if_neg e8, if_neg e9, if_neg e10, if_neg e11, if_neg e12, if_neg e13, if_neg e14, if_neg e15, if_neg e16, if_neg e17, if_neg e18, if_neg e19, if_neg e20, if_neg e21, if_neg e22, if_neg e23, if_neg e24, if_neg e25, if_neg e26, if_neg e27]
  simp only [ob_s, jn, s6]
theorem law_loop {Inv : MT → Prop} (hop : Ops Inv) {ss : Nat → Int32} {L : Nat} (hL : L ≤ 3072) : ∀ (n i : Nat) (ν : MT), Inv ν → L ≤ i + n → i ≤ L + 6 → ∀ N, n < N → ∃ ν', loop (lawB ss L) N (nI i, ν) = some (.inr ν') := by
  intro n
  induction n with
  | zero =>
    intro i ν hν h1 h2 N hN
    obtain ⟨N, rfl⟩ : ∃ M, N = M + 1 := ⟨N - 1, by omega⟩
    refine ⟨ν, ?_⟩
    have hlt : (Int32.ofNat L) - 6 < nI i := by
      rw [Int32.lt_iff_toInt_lt, nI_toInt (by omega)]
      have e : ((nI L) - nI 6).toInt = (L : Int) - 6 := pk_sub_toInt (by omega) (by omega)
      have e2 : (Int32.ofNat L - 6).toInt = (L : Int) - 6 := e
      rw [e2]
      omega
    have hb : lawB ss L (nI i, ν) = some (.inr (.inr ν)) := by
      unfold lawB
      simp only []
      rw [if_pos hlt]
    show (lawB ss L (nI i, ν)).bind _ = _
    rw [hb]
    rfl
  | succ n ih =>
    intro i ν hν h1 h2 N hN
    obtain ⟨N, rfl⟩ : ∃ M, N = M + 1 := ⟨N - 1, by omega⟩
    by_cases hi : i + 5 < L
    · obtain ⟨ν', hν', hb⟩ := law_body hop hi hL hν (ss := ss)
      obtain ⟨ν2, h⟩ := ih (i + 6) ν' hν' (by omega) (by omega) N (by omega)
      refine ⟨ν2, ?_⟩
      show (lawB ss L (nI i, ν)).bind _ = _
      rw [hb]
      exact h
    · refine ⟨ν, ?_⟩
      have hlt : (Int32.ofNat L) - 6 < nI i := by
        rw [Int32.lt_iff_toInt_lt, nI_toInt (by omega)]
        have e : ((nI L) - nI 6).toInt = (L : Int) - 6 := pk_sub_toInt (by omega) (by omega)
        have e2 : (Int32.ofNat L - 6).toInt = (L : Int) - 6 := e
        rw [e2]
        omega
      have hb : lawB ss L (nI i, ν) = some (.inr (.inr ν)) := by
        unfold lawB
        simp only []
        rw [if_pos hlt]
      show (lawB ss L (nI i, ν)).bind _ = _
      rw [hb]
      rfl
theorem law_of {Inv : MT → Prop} (hop : Ops Inv) (h0 : Inv μf) : ∀ (ss : Nat → Int32) (L : Nat), L ≤ 3072 → ∃ ν, m_L_law Zf 127 ss L 0 106 μf = some (1, ν) := by
  intro ss L hL
  rw [lawB_eq]
  obtain ⟨ν', h⟩ := law_loop hop hL (ss := ss) (L + 1) 0 μf h0 (by omega) (by omega) LN (by show L + 1 < 1000000; omega)
  rw [nI_0] at h
  exact ⟨ν', by rw [h]; rfl⟩
