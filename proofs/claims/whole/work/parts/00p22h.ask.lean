def TC (μ : MT) (l : List Int32) : MT := u2 (u1 μ 91 (fun j => if j < l.length then l.getD j 0 else μ 91 j)) 90 1 (nI l.length)
def TR (μ : MT) (l : List Int32) : MT := u2 (u1 μ 126 (fun j => if j < l.length then l.getD j 0 else μ 126 j)) 106 42 (nI l.length)
theorem TC_p {μ : MT} {l : List Int32} {v : Int32} (h : l.length < 16) : m_X0_leave Zc 90 v (TC μ l) = some (TC μ (l ++ [v])) := by
  unfold m_X0_leave
  have e : TC μ l 90 1 = nI l.length := by unfold TC; simp [u2_r]
  rw [e]
  simp (disch := omega) only [zA, zD, zE, ob_s, x_lt, x_ltl, x_llt, x_le, x_lel, x_lle, x_eq, x_eql, x_eqm, x_al, x_la, x_a, x_ml, x_lm, x_m, x_cl, if_true, if_false, jn, x_d4, x_d2, bz_b, bz_0, bz_1, and_self, not_true_eq_false, not_false_eq_true, true_and, and_true, show ¬ 16 ≤ l.length by omega]
  congr 1
  unfold TC
  funext k j
  simp only [u2_r, u1_r, List.length_append, List.length_cons, List.length_nil]
  by_cases h1 : k = 90 ∧ j = 1
  · simp [h1, x_al]
  · by_cases h2 : k = 91
    · subst h2
      by_cases h3 : j = l.length
      · subst h3; simp [List.getD_eq_getElem?_getD]
      · by_cases h4 : j < l.length
        · simp [h3, h4, show j < l.length + 1 by omega, List.getD_eq_getElem?_getD, List.getElem?_append_left h4]
        · simp [h3, h4, show ¬ j < l.length + 1 by omega]
    · simp [h1, h2]
theorem TR_p {μ : MT} {l : List Int32} {v : Int32} (h : l.length < 16) : m_X9_began Zc 106 v (TR μ l) = some (TR μ (l ++ [v])) := by
  unfold m_X9_began
  have e : TR μ l 106 42 = nI l.length := by unfold TR; simp [u2_r]
  rw [e]
  simp (disch := omega) only [zA, zD, zE, ob_s, x_lt, x_ltl, x_llt, x_le, x_lel, x_lle, x_eq, x_eql, x_eqm, x_al, x_la, x_a, x_ml, x_lm, x_m, x_cl, if_true, if_false, jn, x_d4, x_d2, bz_b, bz_0, bz_1, and_self, not_true_eq_false, not_false_eq_true, true_and, and_true, show ¬ 16 ≤ l.length by omega]
  congr 1
  unfold TR
  funext k j
  simp only [u2_r, u1_r, List.length_append, List.length_cons, List.length_nil]
  by_cases h1 : k = 106 ∧ j = 42
  · simp [h1, x_al]
  · by_cases h2 : k = 126
    · subst h2
      by_cases h3 : j = l.length
      · subst h3; simp [List.getD_eq_getElem?_getD]
      · by_cases h4 : j < l.length
        · simp [h3, h4, show j < l.length + 1 by omega, List.getD_eq_getElem?_getD, List.getElem?_append_left h4]
        · simp [h3, h4, show ¬ j < l.length + 1 by omega]
    · simp [h1, h2]
theorem TC_o {μ : MT} {l : List Int32} {k : Nat} (h : k ≠ 90) (h2 : k ≠ 91) : TC μ l k = μ k := by
  unfold TC
  simp only [u2_w, u1_w, h, h2, if_false]
theorem TR_o {μ : MT} {l : List Int32} {k : Nat} (h : k ≠ 106) (h2 : k ≠ 126) : TR μ l k = μ k := by
  unfold TR
  simp only [u2_w, u1_w, h, h2, if_false]
/-- the body for a kind and what is asked -/
def bdA (k w : Nat) : Nat := if w = 0 then [10, 10, 11, 12, 13, 11, 11, 14].getD k 0 else [20, 21, 20, 20, 20, 20, 22, 23].getD k 0
def bwA (w : Nat) : Nat → Nat → Nat
  | 0, _ => if w = 0 then 10 else 20
  | n + 1, k => if k = 0 then (if w = 0 then 10 else 20) else if (if w = 0 then [0, 0, 11, 12, 13, 0, 0, 14].getD k 0 else [0, 21, 0, 0, 0, 0, 22, 23].getD k 0) = 0 then bwA w n (upA k) else (if w = 0 then [0, 0, 11, 12, 13, 0, 0, 14].getD k 0 else [0, 21, 0, 0, 0, 0, 22, 23].getD k 0)
theorem bw_bd : ∀ k, k < 8 → ∀ w, w < 2 → bwA w 8 k = bdA k w := by decide
theorem t1002 : ∀ k, k < 8 → μf 1002 k = nI ([0, 0, 11, 12, 13, 0, 0, 14].getD k 0) := by decide +kernel
theorem t1003 : ∀ k, k < 8 → μf 1003 k = nI ([0, 21, 0, 0, 0, 0, 22, 23].getD k 0) := by decide +kernel
theorem bd_lt : ∀ k, k < 8 → [0, 0, 11, 12, 13, 0, 0, 14].getD k 0 < 100 ∧ [0, 21, 0, 0, 0, 0, 22, 23].getD k 0 < 100 := by decide
theorem q_body {μ : MT} {k w : Nat} (e1 : μ 1001 = μf 1001) (e2 : μ 1002 = μf 1002) (e3 : μ 1003 = μf 1003) (hk : k < 8) (hw : w < 2) : m_X0_bodyFor Zc (nI k) (nI w) μ = some (nI (bdA k w)) := by
  unfold m_X0_bodyFor
  apply ok_eq
  rw [← bw_bd k hk w hw]
  refine ok_l (fun m q => ∃ k1 u, k1 < 8 ∧ u + m = 8 ∧ q = (nI k1, nI u) ∧ bwA w m k1 = bwA w 8 k) 8 (by omega) ⟨k, 0, hk, by omega, rfl, rfl⟩ ?_
  rintro m q ⟨k1, u, hk1, hu, rfl, hw1⟩
  have fin : (if w = 0 then 10 else 20) = bwA w 8 k → Ok (if nI w = 0 then some (10 : Int32) else some 20) (fun a => a = nI (bwA w 8 k)) := fun hx => by
    rw [← hx]
    by_cases hc : w = 0
    · rw [if_pos hc, if_pos (by rw [hc]; rfl)]; exact ok_s rfl
    · rw [if_neg hc, if_neg (by rw [x_eql (by omega) (by omega)]; exact hc)]; exact ok_s rfl
  have fin2 : (if w = 0 then 10 else 20) = bwA w 8 k → Ok (if w = 0 then some (10 : Int32) else some 20) (fun a => a = nI (bwA w 8 k)) := fun hx => by
    rw [← hx]
    by_cases hc : w = 0
    · rw [if_pos hc, if_pos hc]; exact ok_s rfl
    · rw [if_neg hc, if_neg hc]; exact ok_s rfl
  by_cases hm : m = 0
  · subst hm
    simp (disch := omega) only [x_lle, show 8 ≤ u by omega, if_true]
    exact ok_s (Or.inl ⟨_, rfl, fin hw1⟩)
  · obtain ⟨m', rfl⟩ := Nat.exists_eq_succ_of_ne_zero hm
    simp (disch := omega) only [x_lle, show ¬ 8 ≤ u by omega, if_false, q_hasKind, ob_s, x_ti, bI_0, x_eql, x_eq]
    rw [if_neg (by omega)]
    rw [bwA] at hw1
    by_cases h0 : k1 = 0
    · rw [if_pos h0]
      rw [if_pos h0] at hw1
      exact ok_s (Or.inl ⟨_, rfl, fin2 hw1⟩)
    · rw [if_neg h0, al_1002 hk1, al_1003 hk1, al_1001 hk1, ob_s, ob_s, ob_s, e1, e2, e3, t1001 k1 hk1, t1002 k1 hk1, t1003 k1 hk1, x_al]
      rw [if_neg h0] at hw1
      have hb := bd_lt k1 hk1
      have hz : (if w = 0 then some (nI ([0, 0, 11, 12, 13, 0, 0, 14].getD k1 0)) else some (nI ([0, 21, 0, 0, 0, 0, 22, 23].getD k1 0))) = some (nI (if w = 0 then [0, 0, 11, 12, 13, 0, 0, 14].getD k1 0 else [0, 21, 0, 0, 0, 0, 22, 23].getD k1 0)) := by
        by_cases hc : w = 0
        · rw [if_pos hc, if_pos hc]
        · rw [if_neg hc, if_neg hc]
      rw [hz, ob_s]
      have hlt : (if w = 0 then [0, 0, 11, 12, 13, 0, 0, 14].getD k1 0 else [0, 21, 0, 0, 0, 0, 22, 23].getD k1 0) < 100 := by
        by_cases hc : w = 0
        · rw [if_pos hc]; exact hb.1
        · rw [if_neg hc]; exact hb.2
      generalize (if w = 0 then [0, 0, 11, 12, 13, 0, 0, 14].getD k1 0 else [0, 21, 0, 0, 0, 0, 22, 23].getD k1 0) = z at *
      by_cases hzz : z = 0
      · rw [if_pos (by rw [hzz]; rfl)]
        rw [if_pos hzz] at hw1
        exact ok_s (Or.inr ⟨_, m', rfl, by omega, upA k1, u + 1, upA_lt k1 hk1, by omega, rfl, hw1⟩)
      · rw [if_neg (by rw [x_eql (by omega) (by omega)]; exact hzz)]
        rw [if_neg hzz] at hw1
        refine ok_s (Or.inl ⟨_, rfl, ?_⟩)
        rw [← hw1]
        exact ok_s rfl
section ASK
variable {ν : MT} {p d nc ns na nb a k c q : Nat}
/-- what is asked, of the step a of kind k + 1 with strength q -/
def AK (ν : MT) (p a k q : Nat) : Prop := isPl p ∧ a < 40 ∧ k < 7 ∧ ν (p + 1) a = nI k ∧ ν (p + 3) a = nI q ∧ ν 1001 = μf 1001 ∧ ν 1002 = μf 1002 ∧ ν 1003 = μf 1003
theorem TC_pl {μ : MT} {l : List Int32} (hp : isPl p) (j : Nat) : TC μ l (p + j) = μ (p + j) := TC_o (by have := isPl_le hp; omega) (by have := isPl_le hp; omega)
theorem g_lt (h : AK ν p a k q) {l : List Int32} {n x : Nat} (hx : x ≤ 16) (hl : l.length < 10) (b : Nat) : (m_X0_given Zc (n + 1) 90 p (nI a) (nI b) (nI x) (TC ν l)) = (some (TC ν (l ++ [nI b]))).bind fun ν1 => (if nI b = 10 then (ald Zc ν1 (zr Zc p 6) (nI a)).bind fun x4 => some (x4, ν1) else if nI b = 11 then (m_X0_given Zc n 90 p (nI a) 10 (nI x + 1) ν1).bind fun (r6, ν7) => (m_X0_asked (m_X0_given Zc n) Zc 90 p (nI a) 1 (nI x + 1) ν7).bind fun (r8, ν9) => some (r6 + r8, ν9) else if nI b = 12 then (m_X0_given Zc n 90 p (nI a) 11 (nI x + 1) ν1).bind fun (r11, ν12) => some (r11 - 1, ν12) else if nI b = 13 then (m_X0_given Zc n 90 p (nI a) 12 (nI x + 1) ν1).bind fun (r14, ν15) => some (2 * r14, ν15) else if nI b = 14 then (m_X0_given Zc n 90 p (nI a) 10 (nI x + 1) ν1).bind fun (r17, ν18) => some (-r17, ν18) else if nI b = 20 then some (nI a, ν1) else if nI b = 21 then (m_X0_given Zc n 90 p (nI a) 20 (nI x + 1) ν1).bind fun (r21, ν22) => some (r21 + 100, ν22) else if nI b = 22 then (m_X0_given Zc n 90 p (nI a) 20 (nI x + 1) ν1).bind fun (r24, ν25) => some (-r24, ν25) else if nI b = 23 then (m_X0_given Zc n 90 p (nI a) 20 (nI x + 1) ν1).bind fun (r27, ν28) => (m_X0_asked (m_X0_given Zc n) Zc 90 p (nI a) 0 (nI x + 1) ν28).bind fun (r29, ν30) => some (r27 + r29, ν30) else some (0, ν1)) := by
  rw [m_X0_given]
  rw [if_pos (by rw [x_lel (by omega) (by omega)]; omega), TC_p (by omega)]
theorem g_10 (h : AK ν p a k q) {l : List Int32} {n x : Nat} (hx : x ≤ 16) (hl : l.length < 10) : m_X0_given Zc (n + 1) 90 p (nI a) 10 (nI x) (TC ν l) = some (nI q, TC ν (l ++ [10])) := by
  have := g_lt h (n := n) hx hl 10
  rw [show (nI 10 : Int32) = 10 from rfl] at this
  rw [this, ob_s, if_pos rfl, zq_6 h.1, al_p h.1 (by omega) (by omega) h.2.1, TC_pl h.1, h.2.2.2.2.1, ob_s]
theorem g_20 (h : AK ν p a k q) {l : List Int32} {n x : Nat} (hx : x ≤ 16) (hl : l.length < 10) : m_X0_given Zc (n + 1) 90 p (nI a) 20 (nI x) (TC ν l) = some (nI a, TC ν (l ++ [20])) := by
  have := g_lt h (n := n) hx hl 20
  rw [show (nI 20 : Int32) = 20 from rfl] at this
  rw [this, ob_s]
  rfl
theorem g_sk (h : AK ν p a k q) {l : List Int32} : m_X3_stepKind Zc p (nI a) (TC ν l) = some (nI (k + 1)) := by
  unfold m_X3_stepKind
  rw [zq_4 h.1, al_p h.1 (by omega) (by omega) h.2.1, TC_pl h.1, h.2.2.2.1, ob_s, x_al]
theorem g_bd (h : AK ν p a k q) {l : List Int32} {w : Nat} (hw : w < 2) : m_X0_bodyFor Zc (nI (k + 1)) (nI w) (TC ν l) = some (nI (bdA (k + 1) w)) :=
  q_body (by rw [TC_o (by decide) (by decide)]; exact h.2.2.2.2.2.1) (by rw [TC_o (by decide) (by decide)]; exact h.2.2.2.2.2.2.1) (by rw [TC_o (by decide) (by decide)]; exact h.2.2.2.2.2.2.2) (by have := h.2.2.1; omega) hw
theorem g_as (h : AK ν p a k q) {l : List Int32} {n x w : Nat} (hw : w < 2) : m_X0_asked (m_X0_given Zc n) Zc 90 p (nI a) (nI w) (nI x) (TC ν l) = m_X0_given Zc n 90 p (nI a) (nI (bdA (k + 1) w)) (nI (x + 1)) (TC ν l) := by
  unfold m_X0_asked
  rw [g_sk h, ob_s, g_bd h hw, ob_s, x_al]
  cases m_X0_given Zc n 90 p (nI a) (nI (bdA (k + 1) w)) (nI (x + 1)) (TC ν l) <;> rfl
theorem g_21 (h : AK ν p a k q) {l : List Int32} {n x : Nat} (hx : x ≤ 15) (hl : l.length < 9) : m_X0_given Zc (n + 2) 90 p (nI a) 21 (nI x) (TC ν l) = some (nI a + 100, TC ν (l ++ [21] ++ [20])) := by
  have := g_lt h (n := n + 1) (x := x) (by omega) (l := l) (by omega) 21
  rw [show (nI 21 : Int32) = 21 from rfl] at this
  rw [this, ob_s]
  simp only [n1 x]
  rw [g_20 h (by omega) (by simp; omega)]
  rfl
theorem g_22 (h : AK ν p a k q) {l : List Int32} {n x : Nat} (hx : x ≤ 15) (hl : l.length < 9) : m_X0_given Zc (n + 2) 90 p (nI a) 22 (nI x) (TC ν l) = some (-nI a, TC ν (l ++ [22] ++ [20])) := by
  have := g_lt h (n := n + 1) (x := x) (by omega) (l := l) (by omega) 22
  rw [show (nI 22 : Int32) = 22 from rfl] at this
  rw [this, ob_s]
  simp only [n1 x]
  rw [g_20 h (by omega) (by simp; omega)]
  rfl
theorem g_14 (h : AK ν p a k q) {l : List Int32} {n x : Nat} (hx : x ≤ 15) (hl : l.length < 9) : m_X0_given Zc (n + 2) 90 p (nI a) 14 (nI x) (TC ν l) = some (-nI q, TC ν (l ++ [14] ++ [10])) := by
  have := g_lt h (n := n + 1) (x := x) (by omega) (l := l) (by omega) 14
  rw [show (nI 14 : Int32) = 14 from rfl] at this
  rw [this, ob_s]
  simp only [n1 x]
  rw [g_10 h (by omega) (by simp; omega)]
  rfl
theorem g_23 (h : AK ν p a 6 q) {l : List Int32} {n x : Nat} (hx : x ≤ 13) (hl : l.length < 6) : m_X0_given Zc (n + 3) 90 p (nI a) 23 (nI x) (TC ν l) = some (nI a + -nI q, TC ν (l ++ [23] ++ [20] ++ [14] ++ [10])) := by
  have := g_lt h (n := n + 2) (x := x) (by omega) (l := l) (by omega) 23
  rw [show (nI 23 : Int32) = 23 from rfl] at this
  rw [this, ob_s]
  simp only [n1 x]
  rw [g_20 h (by omega) (by simp; omega)]
  have e := g_as h (l := l ++ [23] ++ [20]) (n := n + 2) (x := x + 1) (w := 0) (by omega)
  rw [show (nI 0 : Int32) = 0 from rfl, show nI (bdA (6 + 1) 0) = (14 : Int32) from rfl] at e
  rw [if_neg (by decide), if_neg (by decide), if_neg (by decide), if_neg (by decide), if_neg (by decide), if_neg (by decide), if_neg (by decide), if_neg (by decide), if_pos trivial, ob_s]
  simp only []
  rw [e, g_14 h (by omega) (by simp; omega)]
  rfl
/-- the mark of a kind from 2 to 6: what it is, what it leaves -/
def mkV (a k : Nat) : Int32 := if k = 5 then -nI a else nI a
def mkL (k : Nat) : List Int32 := if k = 5 then [22, 20] else [20]
theorem g_mk (h : AK ν p a k q) (hk : 1 ≤ k) (hk2 : k ≤ 5) {l : List Int32} {n x : Nat} (hx : x ≤ 13) (hl : l.length < 6) : m_X0_asked (m_X0_given Zc (n + 2)) Zc 90 p (nI a) 1 (nI x) (TC ν l) = some (mkV a k, TC ν (l ++ mkL k)) := by
  have e := g_as h (l := l) (n := n + 2) (x := x) (w := 1) (by omega)
  rw [show (nI 1 : Int32) = 1 from rfl] at e
  rw [e]
  rcases (by omega : k = 1 ∨ k = 2 ∨ k = 3 ∨ k = 4 ∨ k = 5) with rfl | rfl | rfl | rfl | rfl
  · rw [show nI (bdA (1 + 1) 1) = (20 : Int32) from rfl, g_20 h (by omega) (by omega)]; rfl
  · rw [show nI (bdA (2 + 1) 1) = (20 : Int32) from rfl, g_20 h (by omega) (by omega)]; rfl
  · rw [show nI (bdA (3 + 1) 1) = (20 : Int32) from rfl, g_20 h (by omega) (by omega)]; rfl
  · rw [show nI (bdA (4 + 1) 1) = (20 : Int32) from rfl, g_20 h (by omega) (by omega)]; rfl
  · rw [show nI (bdA (5 + 1) 1) = (22 : Int32) from rfl, g_22 h (by omega) (by omega)]
    unfold mkV mkL
    rw [if_pos rfl, if_pos rfl, List.append_assoc]; rfl
theorem g_11 (h : AK ν p a k q) (hk : 1 ≤ k) (hk2 : k ≤ 5) {l : List Int32} {n x : Nat} (hx : x ≤ 12) (hl : l.length < 4) : m_X0_given Zc (n + 3) 90 p (nI a) 11 (nI x) (TC ν l) = some (nI q + mkV a k, TC ν (l ++ [11] ++ [10] ++ mkL k)) := by
  have := g_lt h (n := n + 2) (x := x) (by omega) (l := l) (by omega) 11
  rw [show (nI 11 : Int32) = 11 from rfl] at this
  rw [this, ob_s]
  simp only [n1 x]
  rw [g_10 h (by omega) (by simp; omega)]
  rw [if_neg (by decide), if_pos trivial, ob_s]
  simp only []
  rw [g_mk h hk hk2 (by omega) (by simp; omega)]
  rfl
theorem g_12 (h : AK ν p a k q) (hk : 1 ≤ k) (hk2 : k ≤ 5) {l : List Int32} {n x : Nat} (hx : x ≤ 11) (hl : l.length < 3) : m_X0_given Zc (n + 4) 90 p (nI a) 12 (nI x) (TC ν l) = some (nI q + mkV a k - 1, TC ν (l ++ [12] ++ [11] ++ [10] ++ mkL k)) := by
  have := g_lt h (n := n + 3) (x := x) (by omega) (l := l) (by omega) 12
  rw [show (nI 12 : Int32) = 12 from rfl] at this
  rw [this, ob_s]
  simp only [n1 x]
  rw [g_11 h hk hk2 (by omega) (by simp; omega)]
  rfl
theorem g_13 (h : AK ν p a k q) (hk : 1 ≤ k) (hk2 : k ≤ 5) {l : List Int32} {n x : Nat} (hx : x ≤ 10) (hl : l.length < 2) : m_X0_given Zc (n + 5) 90 p (nI a) 13 (nI x) (TC ν l) = some (2 * (nI q + mkV a k - 1), TC ν (l ++ [13] ++ [12] ++ [11] ++ [10] ++ mkL k)) := by
  have := g_lt h (n := n + 4) (x := x) (by omega) (l := l) (by omega) 13
  rw [show (nI 13 : Int32) = 13 from rfl] at this
  rw [this, ob_s]
  simp only [n1 x]
  rw [g_12 h hk hk2 (by omega) (by simp; omega)]
  rfl
end ASK
/-- the answer and the trace, of kind k + 1, asked w -/
def anV (a k q w : Nat) : Int32 := if w = 1 then (if k = 0 then nI a + 100 else if k = 6 then nI a + -nI q else mkV a k) else (if k = 6 then -nI q else if k = 0 then nI q else if k = 2 then nI q + mkV a k - 1 else if k = 3 then 2 * (nI q + mkV a k - 1) else nI q + mkV a k)
def anL (k w : Nat) : List Int32 := if w = 1 then (if k = 0 then [21, 20] else if k = 6 then [23, 20, 14, 10] else mkL k) else (if k = 6 then [14, 10] else if k = 0 then [10] else if k = 2 then [12, 11, 10] ++ mkL k else if k = 3 then [13, 12, 11, 10] ++ mkL k else [11, 10] ++ mkL k)
theorem q8_ans {ν : MT} {p a k q w : Nat} (h : AK ν p a k q) (hw : w < 2) : m_X0_answerOf Zc 90 p (nI a) (nI w) ν = some (anV a k q w, TC ν (anL k w)) := by
  unfold m_X0_answerOf
  rw [ob_s]
  have e0 : u2 ν 90 1 0 = TC ν [] := by
    unfold TC
    funext x y
    simp only [u2_r, u1_r]
    by_cases h1 : x = 90 ∧ y = 1
    · simp [h1]; rfl
    · by_cases h2 : x = 91
      · subst h2; simp
      · simp [h1, h2]
  have hk := h.2.2.1
  rw [e0]
  have e := g_as h (l := []) (n := 20) (x := 0) hw
  rw [show (nI 0 : Int32) = 0 from rfl] at e
  rw [e]
  rcases (by omega : w = 0 ∨ w = 1) with rfl | rfl
  · rcases (by omega : k = 0 ∨ k = 1 ∨ k = 2 ∨ k = 3 ∨ k = 4 ∨ k = 5 ∨ k = 6) with rfl | rfl | rfl | rfl | rfl | rfl | rfl
    · rw [show nI (bdA (0 + 1) 0) = (10 : Int32) from rfl, g_10 h (by omega) (by simp)]; rfl
    · rw [show nI (bdA (1 + 1) 0) = (11 : Int32) from rfl, g_11 h (by omega) (by omega) (by omega) (by simp)]; rfl
    · rw [show nI (bdA (2 + 1) 0) = (12 : Int32) from rfl, g_12 h (by omega) (by omega) (by omega) (by simp)]; rfl
    · rw [show nI (bdA (3 + 1) 0) = (13 : Int32) from rfl, g_13 h (by omega) (by omega) (by omega) (by simp)]; rfl
    · rw [show nI (bdA (4 + 1) 0) = (11 : Int32) from rfl, g_11 h (by omega) (by omega) (by omega) (by simp)]; rfl
    · rw [show nI (bdA (5 + 1) 0) = (11 : Int32) from rfl, g_11 h (by omega) (by omega) (by omega) (by simp)]; rfl
    · rw [show nI (bdA (6 + 1) 0) = (14 : Int32) from rfl, g_14 h (by omega) (by simp)]; rfl
  · rcases (by omega : k = 0 ∨ k = 1 ∨ k = 2 ∨ k = 3 ∨ k = 4 ∨ k = 5 ∨ k = 6) with rfl | rfl | rfl | rfl | rfl | rfl | rfl
    · rw [show nI (bdA (0 + 1) 1) = (21 : Int32) from rfl, g_21 h (by omega) (by simp)]; rfl
    · rw [show nI (bdA (1 + 1) 1) = (20 : Int32) from rfl, g_20 h (by omega) (by simp)]; rfl
    · rw [show nI (bdA (2 + 1) 1) = (20 : Int32) from rfl, g_20 h (by omega) (by simp)]; rfl
    · rw [show nI (bdA (3 + 1) 1) = (20 : Int32) from rfl, g_20 h (by omega) (by simp)]; rfl
    · rw [show nI (bdA (4 + 1) 1) = (20 : Int32) from rfl, g_20 h (by omega) (by simp)]; rfl
    · rw [show nI (bdA (5 + 1) 1) = (22 : Int32) from rfl, g_22 h (by omega) (by simp)]; rfl
    · rw [show nI (bdA (6 + 1) 1) = (23 : Int32) from rfl, g_23 h (by omega) (by simp)]; rfl
section RASK
variable {ω : MT} {a k q : Nat}
theorem r_fl (ha : a < 40) (e : ω 110 (4 * a + 2) = nI q) {l : List Int32} (hl : l.length < 10) : m_X9_flameSize Zc 106 (nI a) (TR ω l) = some (-nI q, TR ω (l ++ [14] ++ [10])) := by
  unfold m_X9_flameSize
  rw [TR_p (by omega), ob_s, TR_p (by simp; omega), ob_s]
  simp (disch := omega) only [zA, x_lm, x_al, al_110, ob_s, TR_o (show (110 : Nat) ≠ 106 by decide) (show (110 : Nat) ≠ 126 by decide), e]
theorem r_mk (ha : a < 40) (hk : k < 7) (e : ω 110 (4 * a + 2) = nI q) {l : List Int32} (hl : l.length < 8) : m_X9_markOf Zc 106 (nI a) (nI (k + 1)) (TR ω l) = some (anV a k q 1, TR ω (l ++ anL k 1)) := by
  unfold m_X9_markOf
  have p1 : ∀ v, m_X9_began Zc 106 v (TR ω l) = some (TR ω (l ++ [v])) := fun v => TR_p (by omega)
  have p2 : ∀ u v, m_X9_began Zc 106 v (TR ω (l ++ [u])) = some (TR ω (l ++ [u, v])) := fun u v => by rw [TR_p (by simp; omega), List.append_assoc]; rfl
  have p3 : ∀ u v, m_X9_flameSize Zc 106 (nI a) (TR ω (l ++ [u, v])) = some (-nI q, TR ω (l ++ [u, v, 14, 10])) := fun u v => by rw [r_fl ha e (by simp; omega), List.append_assoc, List.append_assoc]; rfl
  rcases (by omega : k = 0 ∨ k = 1 ∨ k = 2 ∨ k = 3 ∨ k = 4 ∨ k = 5 ∨ k = 6) with rfl | rfl | rfl | rfl | rfl | rfl | rfl
  · rw [show nI (0 + 1) = (1 : Int32) from rfl]
    simp [anV, anL, mkV, mkL, p1, p2, jn]
  · rw [show nI (1 + 1) = (2 : Int32) from rfl]
    simp [anV, anL, mkV, mkL, p1, p2, jn]
  · rw [show nI (2 + 1) = (3 : Int32) from rfl]
    simp [anV, anL, mkV, mkL, p1, p2, jn]
  · rw [show nI (3 + 1) = (4 : Int32) from rfl]
    simp [anV, anL, mkV, mkL, p1, p2, jn]
  · rw [show nI (4 + 1) = (5 : Int32) from rfl]
    simp [anV, anL, mkV, mkL, p1, p2, jn]
  · rw [show nI (5 + 1) = (6 : Int32) from rfl]
    simp [anV, anL, mkV, mkL, p1, p2, jn]
  · rw [show nI (6 + 1) = (7 : Int32) from rfl]
    simp [anV, anL, mkV, mkL, p1, p2, p3, jn]
theorem r_sz (ha : a < 40) (hk : k < 7) (e : ω 110 (4 * a + 2) = nI q) : m_X9_sizeOf Zc 106 (nI a) (nI (k + 1)) (TR ω []) = some (anV a k q 0, TR ω (anL k 0)) := by
  unfold m_X9_sizeOf
  have i3 : ∀ μ : MT, m_X9_isOf Zc (nI (k + 1)) 3 μ = some (bI (ofA (k + 1) 3 = true)) := fun μ => q9_isOf (w := 3) (by omega) (by omega)
  have i2 : ∀ μ : MT, m_X9_isOf Zc (nI (k + 1)) 2 μ = some (bI (ofA (k + 1) 2 = true)) := fun μ => q9_isOf (w := 2) (by omega) (by omega)
  have pp : ∀ (l : List Int32) v, l.length < 10 → m_X9_began Zc 106 v (TR ω l) = some (TR ω (l ++ [v])) := fun l v hl => TR_p (by omega)
  have rd : ∀ (l : List Int32), ald Zc (TR ω l) 110 (nI (4 * a + 2)) = some (nI q) := fun l => by
    rw [al_110 (by omega), TR_o (by decide) (by decide), e]
  have pm : ∀ (l : List Int32), l.length < 8 → m_X9_markOf Zc 106 (nI a) (nI (k + 1)) (TR ω l) = some (anV a k q 1, TR ω (l ++ anL k 1)) := fun l hl => r_mk ha hk e hl
  have pf : m_X9_flameSize Zc 106 (nI a) (TR ω []) = some (-nI q, TR ω [14, 10]) := r_fl ha e (by simp)
  simp only [i3, i2, ob_s, zA, x_lm, x_al]
  rcases (by omega : k = 0 ∨ k = 1 ∨ k = 2 ∨ k = 3 ∨ k = 4 ∨ k = 5 ∨ k = 6) with rfl | rfl | rfl | rfl | rfl | rfl | rfl
  · rw [show bI (ofA (0 + 1) 3 = true) = 0 from rfl, show bI (ofA (0 + 1) 2 = true) = 0 from rfl, show nI (0 + 1) = (1 : Int32) from rfl]
    simp [anV, anL, mkV, mkL, pp, rd]
  · rw [show bI (ofA (1 + 1) 3 = true) = 0 from rfl, show bI (ofA (1 + 1) 2 = true) = 1 from rfl]
    simp only [show nI (1 + 1) = (2 : Int32) from rfl] at *
    simp [anV, anL, mkV, mkL, pp, rd, pm]
  · rw [show bI (ofA (2 + 1) 3 = true) = 1 from rfl, show bI (ofA (2 + 1) 2 = true) = 1 from rfl]
    simp only [show nI (2 + 1) = (3 : Int32) from rfl] at *
    simp [anV, anL, mkV, mkL, pp, rd, pm]
  · rw [show bI (ofA (3 + 1) 3 = true) = 1 from rfl, show bI (ofA (3 + 1) 2 = true) = 1 from rfl]
    simp only [show nI (3 + 1) = (4 : Int32) from rfl] at *
    simp [anV, anL, mkV, mkL, pp, rd, pm]
  · rw [show bI (ofA (4 + 1) 3 = true) = 0 from rfl, show bI (ofA (4 + 1) 2 = true) = 1 from rfl]
    simp only [show nI (4 + 1) = (5 : Int32) from rfl] at *
    simp [anV, anL, mkV, mkL, pp, rd, pm]
  · rw [show bI (ofA (5 + 1) 3 = true) = 0 from rfl, show bI (ofA (5 + 1) 2 = true) = 1 from rfl]
    simp only [show nI (5 + 1) = (6 : Int32) from rfl] at *
    simp [anV, anL, mkV, mkL, pp, rd, pm]
  · rw [show nI (6 + 1) = (7 : Int32) from rfl]
    simp [anV, anL, mkV, mkL, pf]
end RASK
theorem anL_len (k w : Nat) : (anL k w).length ≤ 16 := by
  have hm : (mkL k).length ≤ 2 := by unfold mkL; split <;> simp
  unfold anL
  split
  · split
    · simp
    · split
      · simp
      · omega
  · split
    · simp
    · split
      · simp
      · split
        · simp; omega
        · split <;> (simp; omega)
theorem op_ask {ν : MT} (h : Inv ν) (a0 a1 : Int32) : OkI Inv (m_X8_ask Zc 127 0 a0 a1 ν) (fun μ => m_X9_ask Zc 106 a0 a1 μ) := by
  obtain ⟨p, d, nc, ns, na, nb, h⟩ := h
  obtain ⟨hp, hd, hpd, e11, e12⟩ := h.2.2.2.1
  have hp2 := isPl_le hp
  have hq := hp
  unfold isPl at hq
  obtain ⟨b1, b2, b3, b4⟩ := pl_bd h.2.2.2.2.1
  have gin : ∀ μ : MT, m_X9_in Zc a1.toInt64 0 1 μ = some (bI (0 ≤ a1.toInt ∧ a1.toInt < 2)) := fun μ => by
    rw [q_in, Int32.toInt_toInt64, show (0 : Int64).toInt = 0 from rfl, show (1 : Int64).toInt = 1 from rfl]
    unfold bI
    by_cases hc : 0 ≤ a1.toInt ∧ a1.toInt < 2
    · rw [if_pos hc, if_pos (by omega)]
    · rw [if_neg hc, if_neg (by omega)]
  rcases q_steps h a0 with ⟨h1, h2⟩ | ⟨h1, h2, a, k, c, q, ha, hk, rfl, e1, e2, e3, e4, e5, e6, e7⟩
  · refine ⟨-1000001, ν, u2 ν 106 0 0, ?_, ?_, p, d, nc, ns, na, nb, c_s0 h⟩
    · unfold m_X8_ask
      rw [e11, mrd_p hp, ob_s, h1, ob_s, if_pos rfl]
    · show m_X9_ask Zc 106 _ _ ν = _
      unfold m_X9_ask
      rw [ob_s, h2 (u2 ν 106 0 0) rfl rfl, ob_s, if_pos rfl]
  · by_cases hw : 0 ≤ a1.toInt ∧ a1.toInt < 2
    · have hw' := hw
      obtain ⟨w, hw1, rfl⟩ := nI_ex (n := 2) hw.1 hw.2
      have hak : AK ν p a k q := ⟨hp, by omega, hk, e1, e5, h.2.2.2.2.2.2.2.2.2.2.2.2.2.1, h.2.2.2.2.2.2.2.2.2.2.2.2.2.2.1, h.2.2.2.2.2.2.2.2.2.2.2.2.2.2.2⟩
      refine ⟨anV a k q w, TC ν (anL k w), TR (u2 (TC ν (anL k w)) 106 0 0) (anL k w), ?_, ?_, p, d, nc, ns, na, nb, ?_⟩
      · unfold m_X8_ask
        rw [e11, mrd_p hp, ob_s, h1, ob_s, if_neg (by decide)]
        have hj : (if nI w = 0 then some (Sum.inr ()) else if nI w = 1 then some (Sum.inr ()) else some (Sum.inl (-1000001, ν)) : Option ((Int32 × MT) ⊕ Unit)) = some (Sum.inr ()) := by
          rcases (by omega : w = 0 ∨ w = 1) with rfl | rfl <;> rfl
        rw [hj, ob_s]
        simp only [jn, ob_s, zA, q8_ans hak hw1]
      · show m_X9_ask Zc 106 _ _ (TC ν (anL k w)) = _
        unfold m_X9_ask
        have t7 : u2 (TC ν (anL k w)) 106 0 0 106 7 = ν 106 7 := by
          rw [u2_r, if_neg (by decide), TC_o (by decide) (by decide)]
        have t110 : u2 (TC ν (anL k w)) 106 0 0 110 = ν 110 := by
          rw [u2_w, if_neg (by decide), TC_o (by decide) (by decide)]
        rw [ob_s, h2 _ t7 t110, ob_s, if_neg (by decide), gin, ob_s, bI_t hw', if_neg (by decide), ob_s]
        have e0 : u2 (u2 (TC ν (anL k w)) 106 0 0) 106 42 0 = TR (u2 (TC ν (anL k w)) 106 0 0) [] := by
          generalize u2 (TC ν (anL k w)) 106 0 0 = ω
          unfold TR
          funext x y
          simp only [u2_r, u1_r]
          by_cases h1 : x = 106 ∧ y = 42
          · simp [h1]; rfl
          · by_cases h2 : x = 126
            · subst h2; simp
            · simp [h1, h2]
        rw [e0]
        have t2 : u2 (TC ν (anL k w)) 106 0 0 110 (4 * a + 2) = nI q := by rw [t110]; exact e6
        have t0 : u2 (TC ν (anL k w)) 106 0 0 110 (4 * a) = nI (k + 1) := by rw [t110]; exact e2
        generalize u2 (TC ν (anL k w)) 106 0 0 = ω at *
        have rd : ald Zc (TR ω []) 110 (nI (4 * a)) = some (nI (k + 1)) := by
          rw [al_110 (by omega), TR_o (by decide) (by decide), t0]
        simp only [zA, x_lm, rd, ob_s]
        rcases (by omega : w = 0 ∨ w = 1) with rfl | rfl
        · rw [if_pos (show nI 0 = 0 from rfl), r_sz (by omega) hk t2]; rfl
        · rw [if_neg (by decide), r_mk (by omega) hk t2 (by simp)]; rfl
      · refine c_mk h (Or.inl ⟨?_, ?_, ?_, ?_, ?_, ?_⟩) ?_ (Or.inl ⟨?_, ?_⟩) (Or.inl ⟨?_, ?_, ?_, ?_⟩) ⟨?_, ?_⟩ ?_ ⟨?_, ?_, ?_⟩ ⟨?_, ?_, ?_, ?_⟩ (Or.inl ⟨?_, ?_⟩) (Or.inl ⟨?_, ?_⟩) (Or.inl ⟨?_, ?_, ?_, ?_, ?_, ?_, ?_, ?_, ?_, ?_, ?_, ?_⟩) (Or.inl ⟨?_, ?_, ?_, ?_, ?_⟩) (Or.inl ⟨?_, ?_⟩) (Or.inr ⟨(anL k w).length, anL_len k w, ?_, ?_, ?_⟩) ⟨?_, ?_, ?_, ?_⟩
        case refine_7 => have := h.2.1.1; unfold TR TC; simp only [u2_r, u1_r]; simpa using this
        all_goals first
          | (intro j hj; unfold TR TC; simp only [u2_r, u1_r]; simp [hj]; done)
          | (intro s hs; unfold TR TC; simp only [u2_w, u1_w]; grind)
          | (unfold TR TC; simp only [u2_r, u1_r]; simp; done)
          | (unfold TR TC; simp only [u2_w, u1_w]; simp; done)
    · refine ⟨-1000001, ν, u2 ν 106 0 0, ?_, ?_, p, d, nc, ns, na, nb, c_s0 h⟩
      · unfold m_X8_ask
        rw [e11, mrd_p hp, ob_s, h1, ob_s, if_neg (by decide), if_neg (fun hc => hw (by rw [hc]; decide)), if_neg (fun hc => hw (by rw [hc]; decide))]
        rfl
      · show m_X9_ask Zc 106 _ _ ν = _
        unfold m_X9_ask
        rw [ob_s, h2 (u2 ν 106 0 0) rfl rfl, ob_s, if_neg (by decide), gin, ob_s, bI_f hw, if_pos rfl]
