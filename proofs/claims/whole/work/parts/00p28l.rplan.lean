/-! ===== the reference's plan ===== -/
theorem r_plan {μ : MT} {T : Nat → Nat} {N : Nat} (hN : N ≤ 500) (e20 : μ 106 20 = nI N) (hT : ∀ j, j < N → T j < 256 ∧ μ 116 j = nI (T j)) :
    Ok (m_X9_plan Zc 106 μ) (fun q => FrN μ q.2 ∧ match pPlan T N with
      | .inl e => q.1 = -1000100 - nI e.2 ∧ q.2 106 21 = nI e.1 ∧ (∀ j, (5 ≤ j ∧ j ≤ 8) ∨ j = 31 → q.2 106 j = μ 106 j) ∧ (∀ k, (110 ≤ k ∧ k ≤ 112) ∨ k = 117 ∨ k = 118 → q.2 k = μ k)
      | .inr r => q.1 = nI r.2.1.1.length ∧ RPn q.2 r.1 r.2.1.1 r.2.1.2 r.2.2 ∧ q.2 106 21 = μ 106 21) := by
  obtain ⟨-, -, -, -, -, -, -, -, -, -, c10, -, -⟩ := cw_n
  unfold m_X9_plan
  simp only [zA]
  rw [ob_s, ob_s, ob_s, ob_s, ob_s, ob_s, ob_s, ob_s]
  have k20 : u2 μ 106 0 0 106 20 = nI N := by rw [u2_r, if_neg (by omega)]; exact e20
  rw [k20]
  have g22 : u2 (u2 (u2 (u2 (u2 (u2 (u2 (u2 μ 106 0 0) 106 22 (nI N)) 106 20 0) 106 23 0) 106 27 0) 106 13 0) 106 14 0) 106 15 0 106 22 = nI N := by simp [u2_r]
  have g20 : u2 (u2 (u2 (u2 (u2 (u2 (u2 (u2 μ 106 0 0) 106 22 (nI N)) 106 20 0) 106 23 0) 106 27 0) 106 13 0) 106 14 0) 106 15 0 106 20 = 0 := by simp [u2_r]
  have g23 : u2 (u2 (u2 (u2 (u2 (u2 (u2 (u2 μ 106 0 0) 106 22 (nI N)) 106 20 0) 106 23 0) 106 27 0) 106 13 0) 106 14 0) 106 15 0 106 23 = nI 0 := by simp [u2_r]; rfl
  have g27 : u2 (u2 (u2 (u2 (u2 (u2 (u2 (u2 μ 106 0 0) 106 22 (nI N)) 106 20 0) 106 23 0) 106 27 0) 106 13 0) 106 14 0) 106 15 0 106 27 = 0 := by simp [u2_r]
  have g13 : u2 (u2 (u2 (u2 (u2 (u2 (u2 (u2 μ 106 0 0) 106 22 (nI N)) 106 20 0) 106 23 0) 106 27 0) 106 13 0) 106 14 0) 106 15 0 106 13 = 0 := by simp [u2_r]
  have g14 : u2 (u2 (u2 (u2 (u2 (u2 (u2 (u2 μ 106 0 0) 106 22 (nI N)) 106 20 0) 106 23 0) 106 27 0) 106 13 0) 106 14 0) 106 15 0 106 14 = 0 := by simp [u2_r]
  have g15 : u2 (u2 (u2 (u2 (u2 (u2 (u2 (u2 μ 106 0 0) 106 22 (nI N)) 106 20 0) 106 23 0) 106 27 0) 106 13 0) 106 14 0) 106 15 0 106 15 = 0 := by simp [u2_r]
  have gj : ∀ j, (0 < j ∧ j < 12) ∨ (15 < j ∧ j < 20) ∨ j = 21 ∨ 28 < j → u2 (u2 (u2 (u2 (u2 (u2 (u2 (u2 μ 106 0 0) 106 22 (nI N)) 106 20 0) 106 23 0) 106 27 0) 106 13 0) 106 14 0) 106 15 0 106 j = μ 106 j := fun j hj => by
    rw [u2_r, if_neg (by omega), u2_r, if_neg (by omega), u2_r, if_neg (by omega), u2_r, if_neg (by omega), u2_r, if_neg (by omega), u2_r, if_neg (by omega), u2_r, if_neg (by omega), u2_r, if_neg (by omega)]
  have gk : ∀ k, k ≠ 106 → u2 (u2 (u2 (u2 (u2 (u2 (u2 (u2 μ 106 0 0) 106 22 (nI N)) 106 20 0) 106 23 0) 106 27 0) 106 13 0) 106 14 0) 106 15 0 k = μ k := fun k hk => by
    rw [u2_w, if_neg hk, u2_w, if_neg hk, u2_w, if_neg hk, u2_w, if_neg hk, u2_w, if_neg hk, u2_w, if_neg hk, u2_w, if_neg hk, u2_w, if_neg hk]
  generalize u2 (u2 (u2 (u2 (u2 (u2 (u2 (u2 μ 106 0 0) 106 22 (nI N)) 106 20 0) 106 23 0) 106 27 0) 106 13 0) 106 14 0) 106 15 0 = ν8 at g22 g20 g23 g27 g13 g14 g15 gj gk ⊢
  have htr : TrI ν8 T N := ⟨hN, g22, fun j hj => by rw [gk 116 (by omega)]; exact hT j hj⟩
  have hfrn : ∀ ν, FrQ ν8 ν → FrN μ ν := fun ν f => by
    refine ⟨fun q hq => ?_, fun j hj => ?_, ?_⟩
    · by_cases h6 : q = 106
      · omega
      · rw [f.1 q h6 (by omega), gk q h6]
    · rw [f.2 j (by omega), gj j (by omega)]
    · rw [f.2 20 (by omega)]; exact g20
  refine ok_b (r_tnext htr (by omega) g23) ?_
  rintro ν9 ⟨k1, f9, k27, k28⟩
  rw [g27] at k27
  have h9 := f9.tr htr
  have hok0 : TkOK T N (tkA T N 0) := tk_ok (by omega)
  unfold pPlan
  generalize tkA T N 0 = k0 at k1 hok0 ⊢
  rw [r_word h9 k1 hok0, if_pos k27, ob_s]
  have hwc := wr_c hok0 (show 10 < 13 by omega) c10
  -- the end with a fault
  have hfault : ∀ (ν : MT) (e : Nat × Nat), FrQ ν8 ν → FsI ν T N e.1 e.2 → ∀ {X : Option (Int32 × MT)}, Ok (if (ν 106 27) ≤ 0 then X else (some (u2 ν 106 21 (ν 106 27))).bind fun ν84 => some ((-1000100) - (ν84 106 28), ν84)) (fun q => FrN μ q.2 ∧ (q.1 = -1000100 - nI e.2 ∧ q.2 106 21 = nI e.1 ∧ (∀ j, (5 ≤ j ∧ j ≤ 8) ∨ j = 31 → q.2 106 j = μ 106 j) ∧ (∀ k, (110 ≤ k ∧ k ≤ 112) ∨ k = 117 ∨ k = 118 → q.2 k = μ k))) := fun ν e f hf X => by
    rw [if_neg hf.ne.2, ob_s]
    have hq := hfrn ν f
    refine ok_s ⟨⟨fun q h1 => ?_, fun j h1 => ?_, ?_⟩, ?_, ?_, fun j h1 => ?_, fun k h1 => ?_⟩
    · show u2 ν 106 21 (ν 106 27) q = _
      rw [u2_w, if_neg (by omega)]; exact hq.1 q h1
    · show u2 ν 106 21 (ν 106 27) 106 j = _
      rw [u2_r, if_neg (by omega)]; exact hq.2.1 j h1
    · show u2 ν 106 21 (ν 106 27) 106 20 = _
      rw [u2_r, if_neg (by omega)]; exact hq.2.2
    · show -1000100 - u2 ν 106 21 (ν 106 27) 106 28 = _
      rw [u2_r, if_neg (by omega), hf.2.2.2.1]
    · show u2 ν 106 21 (ν 106 27) 106 21 = _
      rw [u2_r, if_pos ⟨rfl, rfl⟩]; exact hf.1
    · show u2 ν 106 21 (ν 106 27) 106 j = _
      rw [u2_r, if_neg (by omega), f.2 j (by omega), gj j (by omega)]
    · show u2 ν 106 21 (ν 106 27) k = _
      rw [u2_w, if_neg (by omega), f.1 k (by omega) (by omega), gk k (by omega)]
  have fq9 : FrQ ν8 ν9 := FrQ.of f9
  unfold pPan
  by_cases hw : wsB T k0 10 = true
  case neg =>
    rw [if_neg (fun hq => hw (hwc.mp hq)), ob_s, if_neg hw]
    refine ok_b (r_must0 h9 k1 hok0 k27) ?_
    rintro ν14 ⟨a1, a2⟩
    rw [r_num_f a1, ob_s]
    dsimp only
    rw [ob_s]
    have hf17 : FsI (u2 ν14 106 12 0) T N 1 k0.1 := fs_fr a1 (fun q hq => by rw [u2_w, if_neg (by omega)]) (fun j a b => by rw [u2_r, if_neg (by omega)])
    have fq17 : FrQ ν8 (u2 ν14 106 12 0) := (fq9.trans (FrQ.of a2)).w6 (by omega)
    rw [r_end_f hf17, ob_s]
    refine r_seamF hf17 ?_
    refine r_befF hf17 ?_
    exact hfault _ (1, k0.1) fq17 hf17
  rw [if_pos (hwc.mpr hw), ob_s, if_pos hw]
  refine ok_b (r_must1 h9 k1 hok0 k27) ?_
  rintro ν14 ⟨a1, a2, a3⟩
  have h14 := a2.tr h9
  have fq14 := fq9.trans (FrQ.of a2)
  have hok1 : TkOK T N (tkA T N k0.2.1) := tk_ok hok0.2.1
  generalize tkA T N k0.2.1 = k2 at a1 hok1 ⊢
  refine ok_b (r_num (a := 4) (b := 12) (z := -1000000) (P := rgB 4 13) h14 a1 hok1 a3 (rg_Q (lo := 4) (hi := 13) rfl (by omega) (by omega) (by decide))) ?_
  rintro ⟨r15, ν16⟩ ⟨f16, q16⟩
  have fq16 := fq14.trans (FrQ.of f16)
  dsimp only at f16 q16 fq16 ⊢
  rw [ob_s]
  have fq17 : FrQ ν8 (u2 ν16 106 12 r15) := fq16.w6 (by omega)
  cases h1 : pNum T N (rgB 4 13) k2 with
  | inl e =>
    rw [h1] at q16
    have hf17 : FsI (u2 ν16 106 12 r15) T N e.1 e.2 := fs_fr (show FsI ν16 T N e.1 e.2 from q16) (fun q hq => by rw [u2_w, if_neg (by omega)]) (fun j a b => by rw [u2_r, if_neg (by omega)])
    rw [r_end_f hf17, ob_s]
    refine r_seamF hf17 ?_
    refine r_befF hf17 ?_
    exact hfault _ e fq17 hf17
  | inr w =>
    rw [h1] at q16
    obtain ⟨q1, q2, q3⟩ := q16
    subst q1
    obtain ⟨w1, w2, w3, w4⟩ := pNum_r h1
    rw [rg_i] at w1
    have hokw : TkOK T N w.2 := by rw [w3]; exact tk_ok hok1.2.1
    have hR17 : RPl (u2 ν16 106 12 (nI w.1)) w.1 [] [] [] := by
      refine ⟨⟨?_, ?_, ?_, ?_⟩, fun a ha => by simp at ha, fun b hb => by simp at hb⟩
      · rw [u2_r, if_pos ⟨rfl, rfl⟩]
      · rw [u2_r, if_neg (by omega), f16.2 13 (by omega), a2.2 13 (by omega), f9.2 13 (by omega), g13]; rfl
      · rw [u2_r, if_neg (by omega), f16.2 14 (by omega), a2.2 14 (by omega), f9.2 14 (by omega), g14]; rfl
      · rw [u2_r, if_neg (by omega), f16.2 15 (by omega), a2.2 15 (by omega), f9.2 15 (by omega), g15]; rfl
    have hk17 : RkI (u2 ν16 106 12 (nI w.1)) w.2 := rk_fr q2 (fun j a b => by rw [u2_r, if_neg (by omega)])
    have h2717 : u2 ν16 106 12 (nI w.1) 106 27 = 0 := by rw [u2_r, if_neg (by omega)]; exact q3
    generalize u2 ν16 106 12 (nI w.1) = ν17 at fq17 hR17 hk17 h2717 ⊢
    dsimp only
    refine ok_b (r_end (fq17.tr htr) hk17 hokw h2717) ?_
    rintro ν18 ⟨f18, q18⟩
    have fq18 := fq17.trans (FrQ.of f18)
    cases h2 : pSgn T N w.2 with
    | inl e =>
      rw [h2] at q18
      have hf18 : FsI ν18 T N e.1 e.2 := q18
      refine r_seamF hf18 ?_
      refine r_befF hf18 ?_
      exact hfault _ e fq18 hf18
    | inr k3 =>
      rw [h2] at q18
      obtain ⟨s1, s2⟩ := q18
      have hok3 : TkOK T N k3 := by rw [(pSgn_r h2).2]; exact tk_ok hokw.2.1
      dsimp only
      refine r_seamL (fq18.tr htr) s1 hok3 s2 (hR17.fr f18) (by omega) ?_
      intro ν20 f20 q20
      have fq20 := fq18.trans f20
      cases hsm : pSeams T N w.1 7 ([], []) k3 with
      | inl e =>
        rw [hsm] at q20
        have hf20 : FsI ν20 T N e.1 e.2 := q20
        refine r_befF hf20 ?_
        exact hfault _ e fq20 hf20
      | inr v =>
        rw [hsm] at q20
        obtain ⟨d1, d2, d3⟩ := q20
        obtain ⟨t1, t2, t3, t4, t5, t6⟩ := pSeams_r 7 ([], []) k3 v hok3 (by simp) (by simp) (fun a ha => by simp at ha) ⟨fun s hs => by simp at hs, Nat.le_refl _, fun a h1 h2 => by simp at h2⟩ rfl hsm
        dsimp only
        refine r_befL (fq20.tr htr) d2 t3 d1 d3 t2 ?_
        intro ν26 f26 q26
        have fq26 := fq20.trans f26
        cases hbf : pBefs T N v.1.2.length 11 [] v.2 with
        | inl e =>
          rw [hbf] at q26
          have hf26 : FsI ν26 T N e.1 e.2 := q26
          exact hfault _ e fq26 hf26
        | inr u =>
          rw [hbf] at q26
          unfold pEnd at q26
          dsimp only at q26 ⊢
          by_cases h0 : u.2.2.2 = 0
          · rw [if_pos h0] at q26
            rw [if_pos h0]
            obtain ⟨m1, m2⟩ := q26
            obtain ⟨b1, b2, b3⟩ := pBefs_r 11 [] v.2 u t3 (by simp) (fun a ha => by simp at ha) hbf
            refine ok_m (r_keep m2 t1 b1 m1) ?_
            rintro q ⟨z1, z2, z3, z4⟩
            have hq := hfrn ν26 fq26
            refine ⟨⟨fun k hk => ?_, fun j hj => ?_, ?_⟩, z1, z2, ?_⟩
            · rw [z3 k (by omega) (by omega) (by omega) (by omega) (by omega) (by omega)]; exact hq.1 k hk
            · rw [z4 j (by omega) (by omega)]; exact hq.2.1 j hj
            · rw [z4 20 (by omega) (by omega)]; exact hq.2.2
            · rw [z4 21 (by omega) (by omega), fq26.2 21 (by omega), gj 21 (by omega)]
          · rw [if_neg h0] at q26
            rw [if_neg h0]
            exact hfault _ (1, u.2.1) fq26 q26
