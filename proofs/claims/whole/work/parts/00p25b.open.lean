/-! ===== cell, open, runs ===== -/
theorem fold_cg {α : Type} {f g : α → Nat → α} : ∀ (n : Nat) (x : α), (∀ a y, a < n → f y a = g y a) → (List.range n).foldl f x = (List.range n).foldl g x
  | 0, _, _ => rfl
  | n + 1, x, h => by
    rw [List.range_succ, List.foldl_append, List.foldl_append, fold_cg n x (fun a y ha => h a y (by omega))]
    simp only [List.foldl_cons, List.foldl_nil]
    exact h n _ (by omega)
theorem bgA_c {B B' : Nat → Int32} (h : ∀ c, c < 12 → B c = B' c) : bgA B = bgA B' := by
  unfold bgA
  have : (fun k => if 24 ≤ k ∧ k < 36 then B (k - 24) else 0) = (fun k => if 24 ≤ k ∧ k < 36 then B' (k - 24) else 0) := by
    funext k
    by_cases hk : 24 ≤ k ∧ k < 36
    · rw [if_pos hk, if_pos hk, h _ (by omega)]
    · rw [if_neg hk, if_neg hk]
  rw [this]
theorem sesA_c {nc na ns : Nat} {A O O' : Nat → Int32} {wo wo' : Int32} {x : RS} (hO : ∀ k, k < ns → O k = O' k) (hw : ∀ k, k < ns → (O k = wo ↔ O' k = wo')) : sesA nc na A wo O ns x = sesA nc na A wo' O' ns x := by
  unfold sesA
  refine fold_cg ns x (fun a y ha => ?_)
  by_cases h : O a = wo
  · rw [if_pos h, if_pos ((hw a ha).mp h)]
  · rw [if_neg h, if_neg (fun q => h ((hw a ha).mpr q)), hO a ha]
theorem goA_c {nc ns na : Nat} {A B B' O O' : Nat → Int32} {wo wo' : Int32} (hB : ∀ c, c < 12 → B c = B' c) (hO : ∀ k, k < ns → O k = O' k) (hw : ∀ k, k < ns → (O k = wo ↔ O' k = wo')) : goA nc ns na A B O wo = goA nc ns na A B' O' wo' := by
  unfold goA
  rw [bgA_c hB, sesA_c hO hw]
theorem m1n {s : Nat} (h : s < 1000) : ¬ nI s = -1 := by rw [fa_eq, ti_n (by omega)]; show ¬ (s : Int) = -1; omega
theorem mNn {s : Nat} (h : s < 1000) : ¬ nI s = -1000000 := by rw [fa_eq, ti_n (by omega)]; show ¬ (s : Int) = -1000000; omega
theorem c_p19 {μ ν : MT} {p d nc ns na nb : Nat} {x : RS} (h : Core ν p d nc ns na nb) (hb : Bd nc 240 x) (hx : (ν 0 13 = 1 ∧ ν 106 31 = 1 ∧ ν 106 37 = x.2.2.2 ∧ ∀ k, k < 48 → ν 122 k = x.1 k) ∨ (ν 0 13 = 0 ∧ ν 106 31 = 0 ∧ x = bgA (ν 117))) (f : FrP 19 ν μ) (g : PIs μ 19 nc x) : Core μ p d nc ns na nb := by
  refine c_gen h ?_ ?_ ?_ ?_ (Or.inl ⟨?_, ?_⟩) (Or.inr ⟨x, g, hb, ?_⟩) (Or.inl ⟨?_, ?_⟩) (Or.inl ⟨?_, ?_⟩)
  · rw [f 0 (by omega), f 106 (by omega)]; exact h.2.1.1
  · intro j _; rw [f 0 (by omega)]
  · intro j _; rw [f 106 (by omega)]
  · intro k hk; exact f k (by omega)
  · exact f 17 (by omega)
  · exact f 118 (by omega)
  · rw [f 0 (by omega), f 106 (by omega), f 122 (by omega), f 117 (by omega)]; exact hx
  · intro j _ _; rw [f 33 (by omega)]
  · exact f 36 (by omega)
  · rw [f 87 (by omega)]
  · exact f 88 (by omega)
theorem op_cell {ν : MT} (h : Inv ν) (a0 a1 : Int32) : OkI Inv (m_X8_cell Zc 127 0 a0 a1 ν) (fun μ => m_X9_cell Zc 106 a0 a1 μ) := by
  obtain ⟨p, d, nc, ns, na, nb, h⟩ := h
  obtain ⟨c1, c2, c3, ⟨hp, hd, hpd, e11, e12⟩, c5, c6, c7, c8, c9, c10, c11, c12, c13⟩ := id h
  obtain ⟨hnc, hns, hna, hnb⟩ := pl_bd c5
  have c9' := c9
  obtain ⟨x, x1, x2, x3'⟩ := c9'
  have x1 : PIs ν 19 nc x := x1
  have x3 : StIs ν x := by
    rcases x3' with ⟨_, a2, _, a4⟩ | ⟨_, a2, a3⟩
    · exact Or.inl ⟨a2, a4⟩
    · exact Or.inr ⟨a2, a3⟩
  have e0 := c5.1.1
  have gin : ∀ μ : MT, m_X9_in Zc a1.toInt64 0 3 μ = some (bI (0 ≤ a1.toInt ∧ a1.toInt ≤ 3)) := fun μ => by
    rw [q_in, Int32.toInt_toInt64, show (0 : Int64).toInt = 0 from rfl, show (3 : Int64).toInt = 3 from rfl]
  by_cases ha : 0 ≤ a0.toInt ∧ a0.toInt < nc
  · by_cases hw : 0 ≤ a1.toInt ∧ a1.toInt ≤ 3
    · obtain ⟨c, hcc, rfl⟩ := nI_ex (n := nc) ha.1 ha.2
      obtain ⟨w, hw1, rfl⟩ := nI_ex (n := 4) hw.1 (by omega)
      refine okI_of (a := x.1 (12 * w + c)) (P := fun μ => FrP 19 ν μ ∧ PIs μ 19 nc x) ?_ ?_
      · unfold m_X8_cell
        rw [e11, mrd_p hp, ob_s, q_hasCell e0 (by omega), ob_s, bI_t ha, if_neg (by decide)]
        simp (disch := omega) only [zA, x_eql]
        rcases (by omega : w = 0 ∨ w = 1 ∨ w = 2 ∨ w = 3) with rfl | rfl | rfl | rfl
        · rw [if_pos rfl]
          refine ok_b (p_heat pn19 x1 hnc hcc) ?_
          rintro ⟨r, μ1⟩ ⟨g1, g2, g3⟩
          refine ok_s ⟨?_, g3, g2⟩
          simp only at g1 ⊢
          rw [g1, show 12 * 0 + c = c by omega]
        · rw [if_neg (by decide), if_pos rfl, zp_2 pn19, al_P pn19 (by omega) (by omega) (by omega), ob_s]
          exact ok_s ⟨(x1.2.2.2 c hcc).1, FrP.refl 19 ν, x1⟩
        · rw [if_neg (by decide), if_neg (by decide), if_pos rfl, zp_3 pn19, al_P pn19 (by omega) (by omega) (by omega), ob_s]
          exact ok_s ⟨(x1.2.2.2 c hcc).2.1, FrP.refl 19 ν, x1⟩
        · rw [if_neg (by decide), if_neg (by decide), if_neg (by decide), if_pos rfl, p_pull pn19 x1 hnc hcc, ob_s]
          exact ok_s ⟨rfl, FrP.refl 19 ν, x1⟩
      · rintro μ ⟨f, g⟩
        have m106 : μ 106 = ν 106 := f 106 (by omega)
        have m5 : u2 μ 106 0 0 106 5 = nI nc := by rw [u2_r, if_neg (by omega), m106]; exact c6.1
        have f0 : FrX μ (u2 μ 106 0 0) := (FrX.refl μ).w0
        have x4 : StIs μ x := by
          unfold StIs
          rw [m106, f 122 (by omega), f 117 (by omega)]
          exact x3
        unfold m_X9_cell
        rw [ob_s, q_isCell m5 (by omega), ob_s, bI_t ha, if_neg (by decide), gin, ob_s, bI_t hw, if_neg (by decide)]
        refine ok_b (q_layS (st_fr x4 f0)) ?_
        rintro ν3 ⟨g1, g2, g3⟩
        simp only [zA, x_lm, x_a]
        rw [al_119 (by omega), ob_s]
        exact ok_s ⟨g1 _ (by omega), p, d, nc, ns, na, nb, c_x (c_p19 h x2 x3' f g) (f0.trans g2)⟩
    · refine okI_of (a := -1000001) (P := fun μ => μ = ν) ?_ ?_
      · unfold m_X8_cell
        have q0 : ¬ a1 = 0 := fun hq => hw (by rw [hq]; decide)
        have q1 : ¬ a1 = 1 := fun hq => hw (by rw [hq]; decide)
        have q2 : ¬ a1 = 2 := fun hq => hw (by rw [hq]; decide)
        have q3 : ¬ a1 = 3 := fun hq => hw (by rw [hq]; decide)
        rw [e11, mrd_p hp, ob_s, q_hasCell e0 (by omega), ob_s, bI_t ha, if_neg (by decide), if_neg q0, if_neg q1, if_neg q2, if_neg q3]
        exact ok_s ⟨rfl, rfl⟩
      · rintro μ rfl
        have m5 : u2 μ 106 0 0 106 5 = nI nc := c6.1
        unfold m_X9_cell
        rw [ob_s, q_isCell m5 (by omega), ob_s, bI_t ha, if_neg (by decide), gin, ob_s, bI_f hw, if_pos rfl]
        exact ok_s ⟨rfl, p, d, nc, ns, na, nb, c_x h (FrX.refl μ).w0⟩
  · refine okI_of (a := -1000001) (P := fun μ => μ = ν) ?_ ?_
    · unfold m_X8_cell
      rw [e11, mrd_p hp, ob_s, q_hasCell e0 (by omega), ob_s, bI_f ha, if_pos rfl]
      exact ok_s ⟨rfl, rfl⟩
    · rintro μ rfl
      have m5 : u2 μ 106 0 0 106 5 = nI nc := c6.1
      unfold m_X9_cell
      rw [ob_s, q_isCell m5 (by omega), ob_s, bI_f ha, if_pos rfl]
      exact ok_s ⟨rfl, p, d, nc, ns, na, nb, c_x h (FrX.refl μ).w0⟩
theorem op_open {ν : MT} (h : Inv ν) (a0 a1 : Int32) : OkI Inv (m_X8_open Zc 127 0 a0 a1 ν) (fun μ => m_X9_open Zc 106 a0 a1 μ) := by
  obtain ⟨p, d, nc, ns, na, nb, h⟩ := h
  obtain ⟨c1, c2, c3, ⟨hp, hd, hpd, e11, e12⟩, c5, c6, c7, c8, c9, c10, c11, c12, c13⟩ := id h
  obtain ⟨hnc, hns, hna, hnb⟩ := pl_bd c5
  have hpl := isPl_le hp
  have e0 := c5.1.1
  have gin : ∀ μ : MT, m_X9_in Zc a1.toInt64 (-40) 40 μ = some (bI (-40 ≤ a1.toInt ∧ a1.toInt ≤ 40)) := fun μ => by
    rw [q_in, Int32.toInt_toInt64, show (-40 : Int64).toInt = -40 from rfl, show (40 : Int64).toInt = 40 from rfl]
  by_cases ha : 0 ≤ a0.toInt ∧ a0.toInt < nc
  · by_cases hw : -40 ≤ a1.toInt ∧ a1.toInt ≤ 40
    · obtain ⟨c, hcc, rfl⟩ := nI_ex (n := nc) ha.1 ha.2
      refine okI_of (a := ν 117 c) (P := fun μ => (∀ k, k ≠ 16 → k ≠ 33 → k < 19 ∨ 25 < k → μ k = ν k) ∧ μ 16 = upd (ν 16) c a1 ∧ μ 33 4 = 0 ∧ ((ν 0 13 = 1 ∧ ∀ k, 19 ≤ k → k < 26 → μ k = ν k) ∨ (ν 0 13 = 0 ∧ PIs μ 19 nc (bgA (upd (ν 16) c a1))))) ?_ ?_
      · unfold m_X8_open m_X5_forget
        have g13 : u2 (u2 ν 16 c a1) 33 4 0 0 13 = ν 0 13 := rfl
        have g11 : u2 (u2 ν 16 c a1) 33 4 0 0 11 = nI p := e11
        have gp : u2 (u2 ν 16 c a1) 33 4 0 p 0 = nI nc := by
          rw [u2_r, if_neg (by omega), u2_r, if_neg (by omega)]; exact e0
        rw [e11, mrd_p hp, ob_s, q_hasCell e0 (by omega), ob_s, bI_t ha, if_neg (by decide), if_neg (show ¬ a1 < -40 by rw [fa_lt]; show ¬ _ < (-40 : Int); omega), if_pos (show a1 ≤ 40 by rw [fa_le]; show _ ≤ (40 : Int); omega)]
        simp only [zA, ob_s]
        rw [al_16 (by omega), ob_s, as_16 (by omega), ob_s, g13, g11, mrd_p hp, ob_s, gp, (c7 c (by omega)).1]
        have h16 : u2 (u2 ν 16 c a1) 33 4 0 16 = upd (ν 16) c a1 := rfl
        have hf : ∀ k, k ≠ 16 → k ≠ 33 → u2 (u2 ν 16 c a1) 33 4 0 k = ν k := fun k h1 h2 => by rw [u2_w, if_neg h2, u2_w, if_neg h1]
        by_cases hr : ν 0 13 = 0
        · rw [if_pos hr]
          refine ok_b (p_begin pn19 (by simp only [zA]) (by omega) hnc) ?_
          rintro μ1 ⟨g1, g2⟩
          rw [h16] at g1
          refine ok_s ⟨rfl, fun k h1 h2 h3 => ?_, ?_, ?_, Or.inr ⟨hr, g1⟩⟩
          · show μ1 k = ν k
            rw [g2 k (by omega), hf k h1 h2]
          · show μ1 16 = _
            rw [g2 16 (by omega), h16]
          · show μ1 33 4 = 0
            rw [g2 33 (by omega)]; rfl
        · rw [if_neg hr]
          have hr1 : ν 0 13 = 1 := by
            obtain ⟨_, _, _, ⟨q, _⟩ | ⟨q, _⟩⟩ := c9
            · exact q
            · exact absurd q hr
          exact ok_s ⟨rfl, fun k h1 h2 h3 => hf k h1 h2, h16, rfl, Or.inl ⟨hr1, fun k h1 h2 => hf k (by omega) (by omega)⟩⟩
      · rintro μ ⟨f, f16, f33, f19⟩
        have m106 : μ 106 = ν 106 := f 106 (by omega) (by omega) (by omega)
        have m5 : u2 μ 106 0 0 106 5 = nI nc := by rw [u2_r, if_neg (by omega), m106]; exact c6.1
        have m117 : u2 μ 106 0 0 117 = ν 117 := by rw [u2_w, if_neg (by omega)]; exact f 117 (by omega) (by omega) (by omega)
        unfold m_X9_open
        rw [ob_s, q_isCell m5 (by omega), ob_s, bI_t ha, if_neg (by decide), gin, ob_s, bI_t hw, if_neg (by decide)]
        simp only [zA]
        rw [al_117 (by omega), ob_s, as_117 (by omega), ob_s, m117]
        refine ok_s ⟨rfl, p, d, nc, ns, na, nb, ?_⟩
        simp only
        have n117 : u2 (u2 μ 106 0 0) 117 c a1 117 = upd (ν 117) c a1 := by rw [u2_w, if_pos rfl, m117]
        have nk : ∀ k, k ≠ 106 → k ≠ 117 → u2 (u2 μ 106 0 0) 117 c a1 k = μ k := fun k h1 h2 => by rw [u2_w, if_neg h2, u2_w, if_neg h1]
        have n106 : ∀ j, j ≠ 0 → u2 (u2 μ 106 0 0) 117 c a1 106 j = ν 106 j := fun j hj => by rw [u2_r, if_neg (by omega), u2_r, if_neg (by omega), m106]
        have n0 : u2 (u2 μ 106 0 0) 117 c a1 0 = ν 0 := by rw [nk 0 (by omega) (by omega)]; exact f 0 (by omega) (by omega) (by omega)
        have fk : ∀ k, k ≠ 16 → k ≠ 33 → k < 19 ∨ 25 < k → k ≠ 106 → k ≠ 117 → u2 (u2 μ 106 0 0) 117 c a1 k = ν k := fun k h1 h2 h3 h4 h5 => by rw [nk k h4 h5, f k h1 h2 h3]
        have n16 : u2 (u2 μ 106 0 0) 117 c a1 16 = upd (ν 16) c a1 := by rw [nk 16 (by omega) (by omega)]; exact f16
        have nnew : ∀ q, q < 12 → upd (ν 16) c a1 q = upd (ν 117) c a1 q ∧ -40 ≤ (upd (ν 117) c a1 q).toInt ∧ (upd (ν 117) c a1 q).toInt ≤ 40 := fun q hq => by
          unfold upd
          by_cases hqc : q = c
          · rw [if_pos hqc, if_pos hqc]; exact ⟨rfl, hw⟩
          · rw [if_neg hqc, if_neg hqc]; exact c7 q hq
        refine c_mk h (Or.inl ⟨?_, ?_, ?_, ?_, ?_, ?_⟩) ?_ (Or.inl ⟨?_, ?_⟩) (Or.inl ⟨?_, ?_, ?_, ?_⟩) ⟨?_, ?_⟩ ?_ ⟨?_, ?_, ?_⟩ ⟨?_, ?_, ?_, ?_⟩ (Or.inr ?_) (Or.inl ⟨?_, ?_⟩) (Or.inr ?_) (Or.inr (Or.inl ?_)) (Or.inl ⟨?_, ?_⟩) (Or.inl ⟨?_, ?_, ?_, ?_⟩) ⟨?_, ?_, ?_, ?_⟩
        case refine_7 => rw [n0, n106 1 (by omega)]; exact c2.1
        case refine_16 => exact fun i hi => fk _ (by omega) (by omega) (by omega) (by omega) (by omega)
        case refine_24 => rw [n16, n117]; exact nnew
        case refine_27 =>
          rw [n0, n106 31 (by omega), n106 37 (by omega), fk 122 (by omega) (by omega) (by omega) (by omega) (by omega), n117]
          obtain ⟨x, x1, x2, x3⟩ := c9
          rcases f19 with ⟨r1, r2⟩ | ⟨r1, r2⟩
          · refine ⟨x, ?_, x2, ?_⟩
            · rw [nk 19 (by omega) (by omega), nk 20 (by omega) (by omega), nk 21 (by omega) (by omega), nk 22 (by omega) (by omega), nk 23 (by omega) (by omega), nk 24 (by omega) (by omega), nk 25 (by omega) (by omega), r2 19 (by omega) (by omega), r2 20 (by omega) (by omega), r2 21 (by omega) (by omega), r2 22 (by omega) (by omega), r2 23 (by omega) (by omega), r2 24 (by omega) (by omega), r2 25 (by omega) (by omega)]
              exact x1
            · rcases x3 with x3 | ⟨q, _⟩
              · exact Or.inl x3
              · rw [r1] at q; exact absurd q (by decide)
          · have hbg : bgA (upd (ν 16) c a1) = bgA (upd (ν 117) c a1) := bgA_c (fun q hq => (nnew q hq).1)
            rw [hbg] at r2
            refine ⟨bgA (upd (ν 117) c a1), ?_, bd_mono (bd_bg hnc (fun q hq => (nnew q hq).2)) (by omega), ?_⟩
            · rw [nk 19 (by omega) (by omega), nk 20 (by omega) (by omega), nk 21 (by omega) (by omega), nk 22 (by omega) (by omega), nk 23 (by omega) (by omega), nk 24 (by omega) (by omega), nk 25 (by omega) (by omega)]
              exact r2
            · rcases x3 with ⟨q, _⟩ | ⟨q1, q2, _⟩
              · rw [r1] at q; exact absurd q (by decide)
              · exact Or.inr ⟨q1, q2, rfl⟩
        case refine_28 => rw [nk 33 (by omega) (by omega)]; exact f33
        all_goals first
          | exact fk _ (by omega) (by omega) (by omega) (by omega) (by omega)
          | exact fun s hs => fk _ (by omega) (by omega) (by omega) (by omega) (by omega)
          | exact n106 _ (by omega)
          | rw [n0]
          | exact congrFun (fk _ (by omega) (by omega) (by omega) (by omega) (by omega)) _
    · refine okI_of (a := -1000001) (P := fun μ => μ = ν) ?_ ?_
      · unfold m_X8_open
        rw [e11, mrd_p hp, ob_s, q_hasCell e0 (by omega), ob_s, bI_t ha, if_neg (by decide)]
        by_cases h1 : a1 < -40
        · rw [if_pos h1]
          exact ok_s ⟨rfl, rfl⟩
        · rw [if_neg h1, if_neg (show ¬ a1 ≤ 40 by rw [fa_le, show (40 : Int32).toInt = 40 from rfl]; rw [fa_lt, show (-40 : Int32).toInt = -40 from rfl] at h1; omega)]
          exact ok_s ⟨rfl, rfl⟩
      · rintro μ rfl
        have m5 : u2 μ 106 0 0 106 5 = nI nc := c6.1
        unfold m_X9_open
        rw [ob_s, q_isCell m5 (by omega), ob_s, bI_t ha, if_neg (by decide), gin, ob_s, bI_f hw, if_pos rfl]
        exact ok_s ⟨rfl, p, d, nc, ns, na, nb, c_x h (FrX.refl μ).w0⟩
  · refine okI_of (a := -1000001) (P := fun μ => μ = ν) ?_ ?_
    · unfold m_X8_open
      rw [e11, mrd_p hp, ob_s, q_hasCell e0 (by omega), ob_s, bI_f ha, if_pos rfl]
      exact ok_s ⟨rfl, rfl⟩
    · rintro μ rfl
      have m5 : u2 μ 106 0 0 106 5 = nI nc := c6.1
      unfold m_X9_open
      rw [ob_s, q_isCell m5 (by omega), ob_s, bI_f ha, if_pos rfl]
      exact ok_s ⟨rfl, p, d, nc, ns, na, nb, c_x h (FrX.refl μ).w0⟩
