/-! ===== the reference's parts of a plan ===== -/
def RPl (μ : MT) (nc : Nat) (L : List AC) (E : List Nat) (B : List (Nat × Nat)) : Prop :=
  (μ 106 12 = nI nc ∧ μ 106 13 = nI E.length ∧ μ 106 14 = nI L.length ∧ μ 106 15 = nI B.length) ∧
  (∀ a, a < L.length → μ 113 (4 * a) = nI ((L.getD a aZ).1 + 1) ∧ μ 113 (4 * a + 1) = nI (L.getD a aZ).2.1 ∧ μ 113 (4 * a + 2) = (if (L.getD a aZ).1 < 7 then nI (L.getD a aZ).2.2.1 else -1000000) ∧ μ 113 (4 * a + 3) = nI (L.getD a aZ).2.2.2) ∧
  (∀ b, b < B.length → μ 114 b = nI (B.getD b (0, 0)).1 ∧ μ 115 b = nI (B.getD b (0, 0)).2)
def FrQ (μ ν : MT) : Prop := (∀ q, q ≠ 106 → q < 113 ∨ 115 < q → ν q = μ q) ∧ (∀ j, j < 12 ∨ (15 < j ∧ j < 23) ∨ 28 < j → ν 106 j = μ 106 j)
theorem FrQ.refl (μ : MT) : FrQ μ μ := ⟨fun _ _ _ => rfl, fun _ _ => rfl⟩
theorem FrQ.trans {μ ν ω : MT} (h : FrQ μ ν) (h2 : FrQ ν ω) : FrQ μ ω := ⟨fun q a b => (h2.1 q a b).trans (h.1 q a b), fun j a => (h2.2 j a).trans (h.2 j a)⟩
theorem FrQ.of {μ ν : MT} (h : FrU μ ν) : FrQ μ ν := ⟨fun q a _ => h.1 q a, fun j a => h.2 j (by omega)⟩
theorem FrQ.tr {μ ν : MT} {T : Nat → Nat} {N : Nat} (h : FrQ μ ν) (g : TrI μ T N) : TrI ν T N := ⟨g.1, by rw [h.2 22 (by omega)]; exact g.2.1, fun j hj => by rw [h.1 116 (by omega) (by omega)]; exact g.2.2 j hj⟩
theorem FrQ.w {μ ν : MT} (h : FrQ μ ν) {q j : Nat} {v : Int32} (hq : 113 ≤ q ∧ q ≤ 115) : FrQ μ (u2 ν q j v) := ⟨fun q' a b => by rw [u2_w, if_neg (by omega)]; exact h.1 q' a b, fun i a => by rw [u2_r, if_neg (by omega)]; exact h.2 i a⟩
theorem FrQ.w6 {μ ν : MT} (h : FrQ μ ν) {j : Nat} {v : Int32} (hj : 12 ≤ j ∧ j ≤ 15) : FrQ μ (u2 ν 106 j v) := ⟨fun q' a b => by rw [u2_w, if_neg a]; exact h.1 q' a b, fun i a => by rw [u2_r, if_neg (by omega)]; exact h.2 i a⟩
theorem RPl.fr {μ ν : MT} {nc : Nat} {L : List AC} {E : List Nat} {B : List (Nat × Nat)} (h : FrU μ ν) (g : RPl μ nc L E B) : RPl ν nc L E B := by
  unfold RPl
  rw [h.1 113 (by omega), h.1 114 (by omega), h.1 115 (by omega), h.2 12 (by omega), h.2 13 (by omega), h.2 14 (by omega), h.2 15 (by omega)]
  exact g
def RRs {α : Type} (T : Nat → Nat) (N : Nat) (ν : MT) (o : (Nat × Nat) ⊕ α) (Q : α → MT → Prop) : Prop :=
  match o with
  | .inl e => FsI ν T N e.1 e.2
  | .inr x => ν 106 27 = 0 ∧ Q x ν
theorem rg_Q {lo hi : Nat} {a b : Int32} (ha : a = nI lo) (hl : lo < 1000) (hh : hi < 1000) (hb : b = nI hi - 1) : ∀ v, v ≤ 99 → (rgB lo hi v = true ↔ ((a.toInt ≤ v ∧ (v : Int) ≤ b.toInt) ∧ ¬ nI v = -1000000)) := fun v hv => by
  rw [rg_i, ha, hb, ti_n (by omega), ti_n1 (by omega)]
  have : ¬ nI v = -1000000 := mNn (by omega)
  constructor
  · intro h; exact ⟨by omega, this⟩
  · intro h; omega
theorem ne_Q {ns w : Nat} {b : Int32} (hh : ns < 1000) (hw : w < 1000) (hb : b = nI ns - 1) : ∀ v, v ≤ 99 → (neB ns w v = true ↔ (((0 : Int32).toInt ≤ v ∧ (v : Int) ≤ b.toInt) ∧ ¬ nI v = nI w)) := fun v hv => by
  rw [ne_i, hb, ti_n1 (by omega), x_eq (by omega) (by omega), show (0 : Int32).toInt = 0 from rfl]
  omega
theorem fs_fr {μ ν : MT} {T : Nat → Nat} {N c pl : Nat} (h : FsI μ T N c pl) (f : ∀ q, q = 116 → ν q = μ q) (f6 : ∀ j, 22 ≤ j → j ≤ 28 → ν 106 j = μ 106 j) : FsI ν T N c pl := by
  obtain ⟨h1, h2, h3, h4, h5, k, h6, h7⟩ := h
  refine ⟨by rw [f6 27 (by omega) (by omega)]; exact h1, h2, h3, by rw [f6 28 (by omega) (by omega)]; exact h4, ⟨h5.1, by rw [f6 22 (by omega) (by omega)]; exact h5.2.1, fun j hj => by rw [f 116 rfl]; exact h5.2.2 j hj⟩, k, ?_, h7⟩
  obtain ⟨a1, a2, a3, a4⟩ := h6
  exact ⟨by rw [f6 23 (by omega) (by omega)]; exact a1, by rw [f6 24 (by omega) (by omega)]; exact a2, by rw [f6 25 (by omega) (by omega)]; exact a3, by rw [f6 26 (by omega) (by omega)]; exact a4⟩
theorem rk_fr {μ ν : MT} {k : PT} (h : RkI μ k) (f6 : ∀ j, 23 ≤ j → j ≤ 26 → ν 106 j = μ 106 j) : RkI ν k := by
  obtain ⟨a1, a2, a3, a4⟩ := h
  exact ⟨by rw [f6 23 (by omega) (by omega)]; exact a1, by rw [f6 24 (by omega) (by omega)]; exact a2, by rw [f6 25 (by omega) (by omega)]; exact a3, by rw [f6 26 (by omega) (by omega)]; exact a4⟩
theorem r_rAct {μ : MT} {T : Nat → Nat} {N nc kd : Nat} {L : List AC} {E : List Nat} {B : List (Nat × Nat)} {k : PT} (h : TrI μ T N) (hk : RkI μ k) (hok : TkOK T N k) (h27 : μ 106 27 = 0) (hc : RPl μ nc L E B) (hkd : kd < 10) (hl : L.length ≤ 40) (hnc : nc ≤ 12) :
    Ok (m_X9_readAct Zc 106 (nI (kd + 1)) μ) (fun ν => FrQ μ ν ∧ RRs T N ν (pTake T N nc L E.length kd k) (fun r ν => RkI ν r.2 ∧ RPl ν nc r.1 E B)) := by
  unfold m_X9_readAct pTake
  simp only [zA]
  rw [hc.1.2.2.1]
  have hff : ∀ (ν : MT) (c pl : Nat) (z : Int32), FsI ν T N c pl → Ok ((if (8 : Int32) ≤ nI (kd + 1) then some ((-1000000), ν) else (m_X9_numberIn Zc 106 1 20 (-1000000) ν).bind fun (r22, ν23) => some (r22, ν23) : Option (Int32 × MT)).bind (fun (z9, ν10) => (if (ν10 106 27) = 0 then (ast Zc ν10 113 (4 * (ν10 106 14)) (nI (kd + 1))).bind fun ν14 => (ast Zc ν14 113 ((4 * (ν14 106 14)) + 1) z).bind fun ν16 => (ast Zc ν16 113 ((4 * (ν16 106 14)) + 2) z9).bind fun ν18 => (ast Zc ν18 113 ((4 * (ν18 106 14)) + 3) (ν18 106 13)).bind fun ν20 => (some (u2 ν20 106 14 ((ν20 106 14) + 1))).bind fun ν21 => some ν21 else some ν10))) (fun ν' => ν' = ν) := fun ν c pl z hf => by
    rw [r_num_f hf]
    by_cases h8 : (8 : Int32) ≤ nI (kd + 1)
    · rw [if_pos h8, ob_s]
      simp only []
      rw [if_neg hf.ne.1]
      exact ok_s rfl
    · rw [if_neg h8, ob_s, ob_s]
      simp only []
      rw [if_neg hf.ne.1]
      exact ok_s rfl
  by_cases h40 : 40 ≤ L.length
  · rw [if_pos (by rw [show L.length = 40 by omega]; rfl), if_pos h40]
    refine ok_b (R1 := fun ν => FsI ν T N 3 k.1 ∧ FrU μ ν) ?_ ?_
    · refine ok_b (r_bad (c := 3) h hk hok h27 (by omega)) ?_
      rintro ν ⟨g1, g2, g3⟩
      exact ok_s ⟨g1, g2⟩
    · rintro ν1 ⟨g1, g2⟩
      rw [r_must_f g1, ob_s, r_num_f g1, r_num_f g1]
      have hif : (if nI (kd + 1) = (8 : Int32) then (some ((0 : Int32), ν1)).bind (fun (r26, ν27) => some (r26, ν27)) else (some ((0 : Int32), ν1)).bind (fun (r24, ν25) => some (r24, ν25))) = some ((0 : Int32), ν1) := by
        by_cases h8 : nI (kd + 1) = (8 : Int32)
        · rw [if_pos h8]; rfl
        · rw [if_neg h8]; rfl
      rw [hif, ob_s]
      refine ok_m (hff ν1 3 k.1 0 g1) ?_
      rintro ν' rfl
      exact ⟨FrQ.of g2, g1⟩
  · rw [if_neg (by rw [x_eql (by omega) (by omega)]; omega), if_neg h40, ob_s]
    refine ok_b (r_must1 h hk hok h27) ?_
    rintro ν4 ⟨g1, g2, g3⟩
    have h4 := g2.tr h
    have hc4 := hc.fr g2
    have hok1 : TkOK T N (tkA T N k.2.1) := tk_ok hok.2.1
    generalize tkA T N k.2.1 = k1 at g1 hok1 ⊢
    have hn1 : Ok (if nI (kd + 1) = (8 : Int32) then (m_X9_numberIn Zc 106 1 30 (-1000000) ν4).bind fun (r26, ν27) => some (r26, ν27) else (m_X9_numberIn Zc 106 0 ((ν4 106 12) - 1) (-1000000) ν4).bind fun (r24, ν25) => some (r24, ν25)) (fun q => FrU ν4 q.2 ∧ match pNum T N (if kd = 7 then rgB 1 31 else rgB 0 nc) k1 with
        | .inl e => FsI q.2 T N e.1 e.2
        | .inr r => q.1 = nI r.1 ∧ RkI q.2 r.2 ∧ q.2 106 27 = 0) := by
      by_cases h7 : kd = 7
      · rw [if_pos (by rw [h7]; rfl), if_pos h7]
        refine ok_b (r_num (a := 1) (b := 30) (P := rgB 1 31) h4 g1 hok1 g3 (rg_Q (lo := 1) (hi := 31) rfl (by omega) (by omega) (by decide))) ?_
        rintro ⟨r, ν⟩ hq
        exact ok_s hq
      · rw [if_neg (by rw [x_eql (by omega) (by omega)]; omega), if_neg h7]
        refine ok_b (r_num (P := rgB 0 nc) h4 g1 hok1 g3 (rg_Q (lo := 0) (hi := nc) rfl (by omega) (by omega) (by rw [hc4.1.1]))) ?_
        rintro ⟨r, ν⟩ hq
        exact ok_s hq
    refine ok_b hn1 ?_
    rintro ⟨r, ν6⟩ ⟨f6, q6⟩
    have fU6 := g2.trans f6
    simp only [] at f6 q6 fU6 ⊢
    unfold pAct
    cases h1 : pNum T N (if kd = 7 then rgB 1 31 else rgB 0 nc) k1 with
    | inl e =>
      rw [h1] at q6
      refine ok_m (hff ν6 e.1 e.2 r q6) ?_
      rintro ν' rfl
      exact ⟨FrQ.of fU6, q6⟩
    | inr w =>
      rw [h1] at q6
      obtain ⟨q1, q2, q3⟩ := q6
      subst q1
      simp only []
      have h6 := f6.tr h4
      have hc6 := hc4.fr f6
      have hokw : TkOK T N w.2 := by rw [(pNum_r h1).2.2.1]; exact tk_ok hok1.2.1
      have hadd : ∀ (ν : MT) (st : Nat) (z9 : Int32), FrU μ ν → RPl ν nc L E B → ν 106 27 = 0 → z9 = (if kd < 7 then nI st else -1000000) → Ok (if (ν 106 27) = 0 then (ast Zc ν 113 (4 * (ν 106 14)) (nI (kd + 1))).bind fun ν14 => (ast Zc ν14 113 ((4 * (ν14 106 14)) + 1) (nI w.1)).bind fun ν16 => (ast Zc ν16 113 ((4 * (ν16 106 14)) + 2) z9).bind fun ν18 => (ast Zc ν18 113 ((4 * (ν18 106 14)) + 3) (ν18 106 13)).bind fun ν20 => (some (u2 ν20 106 14 ((ν20 106 14) + 1))).bind fun ν21 => some ν21 else some ν) (fun ν' => FrQ μ ν' ∧ ν' 106 27 = 0 ∧ (∀ j, 23 ≤ j → j ≤ 26 → ν' 106 j = ν 106 j) ∧ RPl ν' nc (L ++ [(kd, w.1, st, E.length)]) E B) := fun ν st z9 fU hR hz hz9 => by
        obtain ⟨⟨c0, c1, c2, c3⟩, c4, c5⟩ := hR
        rw [if_pos hz, c2, x_lm, as_113 (by omega), ob_s]
        have e1 : ∀ (ω : MT) (j : Nat) (v : Int32), u2 ω 113 j v 106 = ω 106 := fun ω j v => by rw [u2_w, if_neg (by omega)]
        simp only [e1, c2, x_lm, x_al, c1]
        rw [as_113 (by omega), ob_s]
        simp only [e1, c2, x_lm, x_al, c1]
        rw [as_113 (by omega), ob_s]
        simp only [e1, c2, x_lm, x_al, c1]
        rw [as_113 (by omega), ob_s]
        simp only [e1, c2, x_lm, x_al, c1, ob_s]
        refine ok_s ⟨((((FrQ.of fU).w (by omega)).w (by omega)).w (by omega)).w (by omega) |>.w6 (by omega), ?_, fun j a b => ?_, ⟨?_, ?_, ?_, ?_⟩, fun a ha => ?_, fun b hb => ?_⟩
        · simp [u2_r, hz]
        · rw [u2_r, if_neg (by omega)]; simp only [e1]
        · simp [u2_r, c0]
        · simp [u2_r, c1]
        · simp [u2_r]
        · simp [u2_r, c3]
        · rw [getD_app]
          by_cases hal : a = L.length
          · subst hal
            rw [if_pos rfl]
            refine ⟨?_, ?_, ?_, ?_⟩ <;> simp [u2_r, hz9]
          · rw [if_neg hal]
            have ha2 : a < L.length := by simp at ha; omega
            obtain ⟨d1, d2, d3, d4⟩ := c4 a ha2
            have n0 : ¬ 4 * a = 4 * L.length := by omega
            have n1 : ¬ 4 * a = 4 * L.length + 1 := by omega
            have n2 : ¬ 4 * a = 4 * L.length + 2 := by omega
            have n3 : ¬ 4 * a = 4 * L.length + 3 := by omega
            have m0 : ¬ 4 * a + 1 = 4 * L.length := by omega
            have m2 : ¬ 4 * a + 1 = 4 * L.length + 2 := by omega
            have m3 : ¬ 4 * a + 1 = 4 * L.length + 3 := by omega
            have p0 : ¬ 4 * a + 2 = 4 * L.length := by omega
            have p1 : ¬ 4 * a + 2 = 4 * L.length + 1 := by omega
            have p3 : ¬ 4 * a + 2 = 4 * L.length + 3 := by omega
            have r0 : ¬ 4 * a + 3 = 4 * L.length := by omega
            have r1 : ¬ 4 * a + 3 = 4 * L.length + 1 := by omega
            have r2 : ¬ 4 * a + 3 = 4 * L.length + 2 := by omega
            refine ⟨?_, ?_, ?_, ?_⟩
            · rw [← d1]; simp only [u2_r, n0, n1, n2, n3, and_false, if_false, Nat.reduceEqDiff, false_and]
            · rw [← d2, u2_r, if_neg (by omega), u2_r, if_neg (by omega), u2_r, if_neg (by omega), u2_r, if_neg (by omega), u2_r, if_neg (by omega)]
            · rw [← d3, u2_r, if_neg (by omega), u2_r, if_neg (by omega), u2_r, if_neg (by omega), u2_r, if_neg (by omega), u2_r, if_neg (by omega)]
            · rw [← d4, u2_r, if_neg (by omega), u2_r, if_neg (by omega), u2_r, if_neg (by omega), u2_r, if_neg (by omega), u2_r, if_neg (by omega)]
        · have := c5 b hb
          simp [u2_r, this]
      by_cases h7 : kd < 7
      · rw [if_neg (by rw [x_lle (by omega) (by omega)]; omega), if_pos h7]
        refine ok_b (R1 := fun (q : Int32 × MT) => FrU ν6 q.2 ∧ match pNum T N (rgB 1 21) w.2 with
          | .inl e => FsI q.2 T N e.1 e.2
          | .inr r => q.1 = nI r.1 ∧ RkI q.2 r.2 ∧ q.2 106 27 = 0) ?_ ?_
        · refine ok_b (r_num (a := 1) (b := 20) (P := rgB 1 21) h6 q2 hokw q3 (rg_Q (lo := 1) (hi := 21) rfl (by omega) (by omega) (by decide))) ?_
          rintro ⟨r, ν⟩ hq
          exact ok_s hq
        · rintro ⟨z9, ν10⟩ ⟨f10, q10⟩
          simp only [] at f10 q10 ⊢
          cases h3 : pNum T N (rgB 1 21) w.2 with
          | inl e =>
            rw [h3] at q10
            rw [if_neg (FsI.ne q10).1]
            exact ok_s ⟨FrQ.of (fU6.trans f10), q10⟩
          | inr v =>
            rw [h3] at q10
            obtain ⟨a1, a2, a3⟩ := q10
            refine ok_m (hadd ν10 v.1 z9 (fU6.trans f10) (hc6.fr f10) a3 (by rw [if_pos h7]; exact a1)) ?_
            rintro ν' ⟨b1, b2, b3, b4⟩
            exact ⟨b1, b2, rk_fr a2 b3, b4⟩
      · rw [if_pos (by rw [x_lle (by omega) (by omega)]; omega), if_neg h7, ob_s]
        simp only []
        refine ok_m (hadd ν6 0 (-1000000) fU6 hc6 q3 (by rw [if_neg h7])) ?_
        rintro ν' ⟨b1, b2, b3, b4⟩
        exact ⟨b1, b2, rk_fr q2 b3, b4⟩
