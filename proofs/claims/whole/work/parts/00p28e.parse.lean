/-! ===== reading a plan, over plain texts ===== -/
/-- an act: kind, place, strength, seam -/
abbrev AC : Type := Nat × Nat × Nat × Nat
def aZ : AC := (0, 0, 0, 0)
def rgB (lo hi v : Nat) : Bool := decide (lo ≤ v) && decide (v < hi)
def pAct (T : Nat → Nat) (N nc kd : Nat) (k : PT) : (Nat × Nat) ⊕ ((Nat × Nat) × PT) :=
  match pNum T N (if kd = 7 then rgB 1 31 else rgB 0 nc) k with
  | .inl e => .inl e
  | .inr r => if kd < 7 then (match pNum T N (rgB 1 21) r.2 with
      | .inl e => .inl e
      | .inr q => .inr ((r.1, q.1), q.2)) else .inr ((r.1, 0), r.2)
def pTake (T : Nat → Nat) (N nc : Nat) (L : List AC) (sm kd : Nat) (k : PT) : (Nat × Nat) ⊕ (List AC × PT) :=
  if 40 ≤ L.length then .inl (3, k.1) else match pAct T N nc kd (tkA T N k.2.1) with
  | .inl e => .inl e
  | .inr q => .inr (L ++ [(kd, q.1.1, q.1.2, sm)], q.2)
def pActs (T : Nat → Nat) (N nc sm : Nat) : Nat → List AC → PT → (Nat × Nat) ⊕ (List AC × PT)
  | 0, _, k => .inl (3, k.1)
  | n + 1, L, k => match akA T k with
    | none => .inr (L, k)
    | some kd => match pTake T N nc L sm kd k with
      | .inl e => .inl e
      | .inr q => pActs T N nc sm n q.1 q.2
def pSeam (T : Nat → Nat) (N nc : Nat) (L : List AC) (E : List Nat) (k : PT) : (Nat × Nat) ⊕ ((List AC × List Nat) × PT) :=
  if 6 ≤ E.length then .inl (3, k.1) else match pActs T N nc E.length 41 L (tkA T N k.2.1) with
  | .inl e => .inl e
  | .inr q => match pSgn T N q.2 with
    | .inl e => .inl e
    | .inr r => .inr ((q.1, E ++ [q.1.length]), r)
def pSeams (T : Nat → Nat) (N nc : Nat) : Nat → List AC × List Nat → PT → (Nat × Nat) ⊕ ((List AC × List Nat) × PT)
  | 0, _, k => .inl (3, k.1)
  | n + 1, LE, k => if wsB T k 11 = true then (match pSeam T N nc LE.1 LE.2 k with
      | .inl e => .inl e
      | .inr q => pSeams T N nc n q.1 q.2) else .inr (LE, k)
def neB (ns a v : Nat) : Bool := decide (v < ns) && !decide (v = a)
def pBef (T : Nat → Nat) (N ns : Nat) (B : List (Nat × Nat)) (k : PT) : (Nat × Nat) ⊕ (List (Nat × Nat) × PT) :=
  if 10 ≤ B.length then .inl (3, k.1) else match pNum T N (rgB 0 ns) (tkA T N k.2.1) with
  | .inl e => .inl e
  | .inr q => match pNum T N (neB ns q.1) q.2 with
    | .inl e => .inl e
    | .inr r => match pSgn T N r.2 with
      | .inl e => .inl e
      | .inr w => .inr (B ++ [(q.1, r.1)], w)
def pBefs (T : Nat → Nat) (N ns : Nat) : Nat → List (Nat × Nat) → PT → (Nat × Nat) ⊕ (List (Nat × Nat) × PT)
  | 0, _, k => .inl (3, k.1)
  | n + 1, B, k => if wsB T k 12 = true then (match pBef T N ns B k with
      | .inl e => .inl e
      | .inr q => pBefs T N ns n q.1 q.2) else .inr (B, k)
def pPan (T : Nat → Nat) (N : Nat) (k : PT) : (Nat × Nat) ⊕ (Nat × PT) :=
  if wsB T k 10 = true then (match pNum T N (rgB 4 13) (tkA T N k.2.1) with
    | .inl e => .inl e
    | .inr q => match pSgn T N q.2 with
      | .inl e => .inl e
      | .inr r => .inr (q.1, r)) else .inl (1, k.1)
def pPlan (T : Nat → Nat) (N : Nat) : (Nat × Nat) ⊕ (Nat × (List AC × List Nat) × List (Nat × Nat)) :=
  match pPan T N (tkA T N 0) with
  | .inl e => .inl e
  | .inr q => match pSeams T N q.1 7 ([], []) q.2 with
    | .inl e => .inl e
    | .inr r => match pBefs T N r.1.2.length 11 [] r.2 with
      | .inl e => .inl e
      | .inr w => if w.2.2.2 = 0 then .inr (q.1, r.1, w.1) else .inl (1, w.2.1)
/-! what is sure of what was read -/
theorem getD_app {α : Type} {L : List α} {x z : α} {a : Nat} : (L ++ [x]).getD a z = if a = L.length then x else L.getD a z := by
  by_cases h : a = L.length
  · rw [if_pos h, h]; simp [List.getD]
  · rw [if_neg h]
    by_cases h2 : a < L.length
    · simp [List.getD, List.getElem?_append_left h2]
    · have h3 : L.length + 1 ≤ a := by omega
      simp [List.getD, List.getElem?_eq_none (show (L ++ [x]).length ≤ a by simp; omega), List.getElem?_eq_none (show L.length ≤ a by omega)]
def eE (E : List Nat) (s : Nat) : Nat := if s = 0 then 0 else E.getD (s - 1) 0
def GdA (nc : Nat) (L : List AC) : Prop := ∀ a, a < L.length → (L.getD a aZ).1 < 10 ∧ ((L.getD a aZ).1 = 7 → (L.getD a aZ).2.1 ≤ 30) ∧ ((L.getD a aZ).1 ≠ 7 → (L.getD a aZ).2.1 < nc) ∧ ((L.getD a aZ).1 < 7 → 1 ≤ (L.getD a aZ).2.2.1 ∧ (L.getD a aZ).2.2.1 ≤ 20)
def SgA (L : List AC) (E : List Nat) : Prop := (∀ s, s < E.length → eE E s ≤ eE E (s + 1) ∧ eE E (s + 1) ≤ L.length ∧ ∀ a, eE E s ≤ a → a < eE E (s + 1) → (L.getD a aZ).2.2.2 = s) ∧ eE E E.length ≤ L.length ∧ ∀ a, eE E E.length ≤ a → a < L.length → (L.getD a aZ).2.2.2 = E.length
theorem rg_i {lo hi v : Nat} : rgB lo hi v = true ↔ lo ≤ v ∧ v < hi := by
  unfold rgB
  simp
theorem ne_i {ns a v : Nat} : neB ns a v = true ↔ v < ns ∧ ¬ v = a := by
  unfold neB
  simp
theorem pNum_r {T : Nat → Nat} {N : Nat} {P : Nat → Bool} {k : PT} {r : Nat × PT} (h : pNum T N P k = .inr r) : P r.1 = true ∧ k.2.2 = 2 ∧ r.2 = tkA T N k.2.1 ∧ r.1 = nvA T k := by
  unfold pNum at h
  by_cases h1 : k.2.2 = 2
  · rw [if_pos h1] at h
    by_cases h2 : P (nvA T k) = true
    · rw [if_pos h2] at h
      have := Sum.inr.inj h
      rw [← this]
      exact ⟨h2, h1, rfl, rfl⟩
    · rw [if_neg h2] at h; cases h
  · rw [if_neg h1] at h; cases h
theorem pNum_l {T : Nat → Nat} {N : Nat} {P : Nat → Bool} {k : PT} {e : Nat × Nat} (h : pNum T N P k = .inl e) : 1 ≤ e.1 ∧ e.1 ≤ 3 ∧ e.2 = k.1 := by
  unfold pNum at h
  by_cases h1 : k.2.2 = 2
  · rw [if_pos h1] at h
    by_cases h2 : P (nvA T k) = true
    · rw [if_pos h2] at h; cases h
    · rw [if_neg h2] at h
      have := Sum.inl.inj h
      rw [← this]
      exact ⟨by simp, by simp, rfl⟩
  · rw [if_neg h1] at h
    have := Sum.inl.inj h
    rw [← this]
    exact ⟨by simp, by simp, rfl⟩
theorem pSgn_r {T : Nat → Nat} {N : Nat} {k r : PT} (h : pSgn T N k = .inr r) : k.2.2 = 3 ∧ r = tkA T N k.2.1 := by
  unfold pSgn at h
  by_cases h1 : k.2.2 = 3
  · rw [if_pos h1] at h
    exact ⟨h1, (Sum.inr.inj h).symm⟩
  · rw [if_neg h1] at h; cases h
theorem pAct_r {T : Nat → Nat} {N nc kd : Nat} {k : PT} {r : (Nat × Nat) × PT} (hk : TkOK T N k) (h : pAct T N nc kd k = .inr r) : (kd = 7 → r.1.1 ≤ 30) ∧ (kd ≠ 7 → r.1.1 < nc) ∧ (kd < 7 → 1 ≤ r.1.2 ∧ r.1.2 ≤ 20) ∧ TkOK T N r.2 := by
  unfold pAct at h
  cases h1 : pNum T N (if kd = 7 then rgB 1 31 else rgB 0 nc) k with
  | inl e => rw [h1] at h; cases h
  | inr q =>
    rw [h1] at h
    simp only [] at h
    obtain ⟨a1, a2, a3, a4⟩ := pNum_r h1
    have hq : TkOK T N q.2 := by rw [a3]; exact tk_ok hk.2.1
    have b1 : (kd = 7 → q.1 ≤ 30) ∧ (kd ≠ 7 → q.1 < nc) := by
      by_cases h7 : kd = 7
      · rw [if_pos h7, rg_i] at a1
        exact ⟨fun _ => by omega, fun hq => absurd h7 hq⟩
      · rw [if_neg h7, rg_i] at a1
        exact ⟨fun hq => absurd hq h7, fun _ => by omega⟩
    by_cases h7 : kd < 7
    · rw [if_pos h7] at h
      cases h2 : pNum T N (rgB 1 21) q.2 with
      | inl e => rw [h2] at h; cases h
      | inr w =>
        rw [h2] at h
        have := Sum.inr.inj h
        rw [← this]
        obtain ⟨c1, c2, c3, c4⟩ := pNum_r h2
        rw [rg_i] at c1
        refine ⟨b1.1, b1.2, fun _ => ⟨by simp only []; omega, by simp only []; omega⟩, ?_⟩
        simp only []
        rw [c3]; exact tk_ok hq.2.1
    · rw [if_neg h7] at h
      have := Sum.inr.inj h
      rw [← this]
      exact ⟨b1.1, b1.2, fun hh => absurd hh h7, hq⟩
theorem pTake_r {T : Nat → Nat} {N nc sm kd : Nat} {L : List AC} {E : List Nat} {k : PT} {r : List AC × PT} (hk : TkOK T N k) (hkd : kd < 10) (hsm : sm = E.length) (hg : GdA nc L) (hs : SgA L E) (h : pTake T N nc L sm kd k = .inr r) : r.1.length = L.length + 1 ∧ L.length < 40 ∧ TkOK T N r.2 ∧ GdA nc r.1 ∧ SgA r.1 E := by
  unfold pTake at h
  by_cases h40 : 40 ≤ L.length
  · rw [if_pos h40] at h; cases h
  · rw [if_neg h40] at h
    cases h1 : pAct T N nc kd (tkA T N k.2.1) with
    | inl e => rw [h1] at h; cases h
    | inr q =>
      rw [h1] at h
      have h2 := Sum.inr.inj h
      obtain ⟨a1, a2, a3, a4⟩ := pAct_r (tk_ok hk.2.1) h1
      rw [← h2]
      refine ⟨by simp, by omega, a4, fun a ha => ?_, ?_⟩
      · simp only [getD_app]
        by_cases hal : a = L.length
        · simp only [if_pos hal]
          exact ⟨hkd, a1, a2, a3⟩
        · simp only [if_neg hal]
          simp at ha
          exact hg a (by omega)
      · obtain ⟨s1, s2, s3⟩ := hs
        refine ⟨fun s hsl => ?_, by simp; omega, fun a h3 h4 => ?_⟩
        · obtain ⟨t1, t2, t3⟩ := s1 s hsl
          refine ⟨t1, by simp; omega, fun a h3 h4 => ?_⟩
          rw [getD_app, if_neg (by omega)]
          exact t3 a h3 h4
        · rw [getD_app]
          by_cases hal : a = L.length
          · rw [if_pos hal]; exact hsm
          · rw [if_neg hal]
            simp at h4
            exact s3 a h3 (by omega)
theorem pActs_r {T : Nat → Nat} {N nc sm : Nat} {E : List Nat} (hsm : sm = E.length) : ∀ (n : Nat) (L : List AC) (k : PT) (r : List AC × PT), TkOK T N k → L.length ≤ 40 → GdA nc L → SgA L E → pActs T N nc sm n L k = .inr r → r.1.length ≤ 40 ∧ TkOK T N r.2 ∧ GdA nc r.1 ∧ SgA r.1 E
  | 0, L, k, r, _, _, _, _, h => by rw [pActs] at h; cases h
  | n + 1, L, k, r, hk, hl, hg, hs, h => by
    rw [pActs] at h
    cases h1 : akA T k with
    | none =>
      rw [h1] at h
      have := Sum.inr.inj h
      rw [← this]
      exact ⟨hl, hk, hg, hs⟩
    | some kd =>
      rw [h1] at h
      simp only [] at h
      have hkd : kd < 10 := by
        have := ak_lt 10 0 h1
        omega
      cases h2 : pTake T N nc L sm kd k with
      | inl e => rw [h2] at h; cases h
      | inr q =>
        rw [h2] at h
        simp only [] at h
        obtain ⟨a1, a2, a3, a4, a5⟩ := pTake_r hk hkd hsm hg hs h2
        exact pActs_r hsm n q.1 q.2 r a3 (by omega) a4 a5 h
theorem pSeam_r {T : Nat → Nat} {N nc : Nat} {L : List AC} {E : List Nat} {k : PT} {r : (List AC × List Nat) × PT} (hk : TkOK T N k) (hl : L.length ≤ 40) (hg : GdA nc L) (hs : SgA L E) (hE : eE E E.length = L.length) (h : pSeam T N nc L E k = .inr r) : r.1.1.length ≤ 40 ∧ r.1.2.length = E.length + 1 ∧ E.length < 6 ∧ TkOK T N r.2 ∧ GdA nc r.1.1 ∧ SgA r.1.1 r.1.2 ∧ eE r.1.2 r.1.2.length = r.1.1.length := by
  unfold pSeam at h
  by_cases h6 : 6 ≤ E.length
  · rw [if_pos h6] at h; cases h
  · rw [if_neg h6] at h
    cases h1 : pActs T N nc E.length 41 L (tkA T N k.2.1) with
    | inl e => rw [h1] at h; cases h
    | inr q =>
      rw [h1] at h
      simp only [] at h
      obtain ⟨a1, a2, a3, a4⟩ := pActs_r rfl 41 L _ q (tk_ok hk.2.1) hl hg hs h1
      cases h2 : pSgn T N q.2 with
      | inl e => rw [h2] at h; cases h
      | inr w =>
        rw [h2] at h
        have h3 := Sum.inr.inj h
        rw [← h3]
        obtain ⟨c1, c2⟩ := pSgn_r h2
        obtain ⟨s1, s2, s3⟩ := a4
        have e1 : ∀ s, s ≤ E.length → eE (E ++ [q.1.length]) s = eE E s := fun s hs => by
          unfold eE
          by_cases h0 : s = 0
          · rw [if_pos h0, if_pos h0]
          · rw [if_neg h0, if_neg h0, getD_app, if_neg (by omega)]
        have e2 : eE (E ++ [q.1.length]) (E.length + 1) = q.1.length := by
          unfold eE
          rw [if_neg (by omega), getD_app, if_pos (by omega)]
        refine ⟨a1, by simp, by omega, by simp only []; rw [c2]; exact tk_ok a2.2.1, a3, ⟨fun s hsl => ?_, ?_, fun a h4 h5 => ?_⟩, ?_⟩
        · simp only [List.length_append, List.length_cons, List.length_nil] at hsl
          by_cases hse : s = E.length
          · rw [hse, e1 E.length (Nat.le_refl _), e2]
            exact ⟨s2, Nat.le_refl _, fun a h4 h5 => s3 a h4 h5⟩
          · rw [e1 s (by omega), e1 (s + 1) (by omega)]
            exact s1 s (by omega)
        · simp only [List.length_append, List.length_cons, List.length_nil]
          rw [e2]; exact Nat.le_refl _
        · simp only [List.length_append, List.length_cons, List.length_nil] at h4 h5
          rw [e2] at h4
          omega
        · simp only [List.length_append, List.length_cons, List.length_nil]
          exact e2
theorem pSeams_r {T : Nat → Nat} {N nc : Nat} : ∀ (n : Nat) (LE : List AC × List Nat) (k : PT) (r : (List AC × List Nat) × PT), TkOK T N k → LE.1.length ≤ 40 → LE.2.length ≤ 6 → GdA nc LE.1 → SgA LE.1 LE.2 → eE LE.2 LE.2.length = LE.1.length → pSeams T N nc n LE k = .inr r → r.1.1.length ≤ 40 ∧ r.1.2.length ≤ 6 ∧ TkOK T N r.2 ∧ GdA nc r.1.1 ∧ SgA r.1.1 r.1.2 ∧ eE r.1.2 r.1.2.length = r.1.1.length
  | 0, LE, k, r, _, _, _, _, _, _, h => by rw [pSeams] at h; cases h
  | n + 1, LE, k, r, hk, hl, h6, hg, hs, hE, h => by
    rw [pSeams] at h
    by_cases hw : wsB T k 11 = true
    · rw [if_pos hw] at h
      cases h2 : pSeam T N nc LE.1 LE.2 k with
      | inl e => rw [h2] at h; cases h
      | inr q =>
        rw [h2] at h
        simp only [] at h
        obtain ⟨a1, a2, a3, a4, a5, a6, a7⟩ := pSeam_r hk hl hg hs hE h2
        exact pSeams_r n q.1 q.2 r a4 a1 (by omega) a5 a6 a7 h
    · rw [if_neg hw] at h
      have := Sum.inr.inj h
      rw [← this]
      exact ⟨hl, h6, hk, hg, hs, hE⟩
def BfA (ns : Nat) (B : List (Nat × Nat)) : Prop := ∀ b, b < B.length → (B.getD b (0, 0)).1 < ns ∧ (B.getD b (0, 0)).2 < ns ∧ (B.getD b (0, 0)).1 ≠ (B.getD b (0, 0)).2
theorem pBef_r {T : Nat → Nat} {N ns : Nat} {B : List (Nat × Nat)} {k : PT} {r : List (Nat × Nat) × PT} (hk : TkOK T N k) (hb : BfA ns B) (h : pBef T N ns B k = .inr r) : r.1.length = B.length + 1 ∧ B.length < 10 ∧ TkOK T N r.2 ∧ BfA ns r.1 := by
  unfold pBef at h
  by_cases h10 : 10 ≤ B.length
  · rw [if_pos h10] at h; cases h
  · rw [if_neg h10] at h
    cases h1 : pNum T N (rgB 0 ns) (tkA T N k.2.1) with
    | inl e => rw [h1] at h; cases h
    | inr q =>
      rw [h1] at h
      simp only [] at h
      obtain ⟨a1, a2, a3, a4⟩ := pNum_r h1
      have hq : TkOK T N q.2 := by rw [a3]; exact tk_ok (tk_ok hk.2.1).2.1
      cases h2 : pNum T N (neB ns q.1) q.2 with
      | inl e => rw [h2] at h; cases h
      | inr w =>
        rw [h2] at h
        simp only [] at h
        obtain ⟨b1, b2, b3, b4⟩ := pNum_r h2
        have hw : TkOK T N w.2 := by rw [b3]; exact tk_ok hq.2.1
        cases h3 : pSgn T N w.2 with
        | inl e => rw [h3] at h; cases h
        | inr v =>
          rw [h3] at h
          have h4 := Sum.inr.inj h
          rw [← h4]
          obtain ⟨c1, c2⟩ := pSgn_r h3
          rw [rg_i] at a1
          rw [ne_i] at b1
          refine ⟨by simp, by omega, by simp only []; rw [c2]; exact tk_ok hw.2.1, fun b hb2 => ?_⟩
          simp only [getD_app]
          by_cases hbl : b = B.length
          · simp only [if_pos hbl]
            exact ⟨by omega, by omega, fun hq => b1.2 hq.symm⟩
          · simp only [if_neg hbl]
            simp at hb2
            exact hb b (by omega)
theorem pBefs_r {T : Nat → Nat} {N ns : Nat} : ∀ (n : Nat) (B : List (Nat × Nat)) (k : PT) (r : List (Nat × Nat) × PT), TkOK T N k → B.length ≤ 10 → BfA ns B → pBefs T N ns n B k = .inr r → r.1.length ≤ 10 ∧ TkOK T N r.2 ∧ BfA ns r.1
  | 0, B, k, r, _, _, _, h => by rw [pBefs] at h; cases h
  | n + 1, B, k, r, hk, hl, hb, h => by
    rw [pBefs] at h
    by_cases hw : wsB T k 12 = true
    · rw [if_pos hw] at h
      cases h2 : pBef T N ns B k with
      | inl e => rw [h2] at h; cases h
      | inr q =>
        rw [h2] at h
        simp only [] at h
        obtain ⟨a1, a2, a3, a4⟩ := pBef_r hk hb h2
        exact pBefs_r n q.1 q.2 r a3 (by omega) a4 h
    · rw [if_neg hw] at h
      have := Sum.inr.inj h
      rw [← this]
      exact ⟨hl, hk, hb⟩
