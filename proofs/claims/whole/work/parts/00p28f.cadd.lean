/-! ===== the program reads a plan ===== -/
def ndL (B : List (Nat × Nat)) (s : Nat) : Nat := B.foldl (fun m q => if q.2 = s then m ||| 2 ^ q.1 else m) 0
def CPl (μ : MT) (d nc : Nat) (L : List AC) (E : List Nat) (B : List (Nat × Nat)) : Prop :=
  (μ d 0 = nI nc ∧ μ d 1 = nI E.length ∧ μ d 2 = nI L.length ∧ μ d 3 = nI B.length) ∧
  (∀ a, a < L.length → μ (d + 1) a = nI (L.getD a aZ).1 ∧ μ (d + 2) a = nI (L.getD a aZ).2.1 ∧ μ (d + 3) a = nI (L.getD a aZ).2.2.1 ∧ μ (d + 4) a = nI (L.getD a aZ).2.2.2) ∧
  (∀ s, s < E.length → μ (d + 5) s = nI (E.getD s 0)) ∧ (∀ s, s < 6 → μ (d + 6) s = nI (ndL B s))
def FrD (d : Nat) (μ ν : MT) : Prop := (∀ q, q ≠ 13 → q ≠ 15 → q < d ∨ d + 6 < q → ν q = μ q) ∧ ν 13 1 = μ 13 1
theorem FrD.refl (d : Nat) (μ : MT) : FrD d μ μ := ⟨fun _ _ _ _ => rfl, rfl⟩
theorem FrD.trans {d : Nat} {μ ν ω : MT} (h : FrD d μ ν) (h2 : FrD d ν ω) : FrD d μ ω := ⟨fun q a b c => (h2.1 q a b c).trans (h.1 q a b c), h2.2.trans h.2⟩
theorem FrD.of {d : Nat} {μ ν : MT} (h : Fr13 μ ν) : FrD d μ ν := ⟨fun q a _ _ => h.1 q a, h.2⟩
theorem FrD.tx {d : Nat} {μ ν : MT} {T : Nat → Nat} {N : Nat} (hd : isPl d) (h : FrD d μ ν) (g : TxI μ T N) : TxI ν T N := by
  have := isPl_le hd
  exact ⟨g.1, by rw [h.2]; exact g.2.1, fun j hj => by rw [h.1 14 (by omega) (by omega) (by omega)]; exact g.2.2 j hj⟩
/-- token level: rows 13 and 15 -/
def FrE (μ ν : MT) : Prop := (∀ q, q ≠ 13 → q ≠ 15 → ν q = μ q) ∧ ν 13 1 = μ 13 1
theorem FrE.refl (μ : MT) : FrE μ μ := ⟨fun _ _ _ => rfl, rfl⟩
theorem FrE.of {μ ν : MT} (h : Fr13 μ ν) : FrE μ ν := ⟨fun q a _ => h.1 q a, h.2⟩
theorem FrE.trans {μ ν ω : MT} (h : FrE μ ν) (h2 : FrE ν ω) : FrE μ ω := ⟨fun q a b => (h2.1 q a b).trans (h.1 q a b), h2.2.trans h.2⟩
theorem FrE.tx {μ ν : MT} {T : Nat → Nat} {N : Nat} (h : FrE μ ν) (g : TxI μ T N) : TxI ν T N := ⟨g.1, by rw [h.2]; exact g.2.1, fun j hj => by rw [h.1 14 (by omega) (by omega)]; exact g.2.2 j hj⟩
theorem FrE.d {d : Nat} {μ ν : MT} (h : FrE μ ν) : FrD d μ ν := ⟨fun q a b _ => h.1 q a b, h.2⟩
theorem CPl.fr {μ ν : MT} {d nc : Nat} {L : List AC} {E : List Nat} {B : List (Nat × Nat)} (hd : isPl d) (h : FrE μ ν) (g : CPl μ d nc L E B) : CPl ν d nc L E B := by
  have := isPl_le hd
  unfold CPl
  rw [h.1 d (by omega) (by omega), h.1 (d + 1) (by omega) (by omega), h.1 (d + 2) (by omega) (by omega), h.1 (d + 3) (by omega) (by omega), h.1 (d + 4) (by omega) (by omega), h.1 (d + 5) (by omega) (by omega), h.1 (d + 6) (by omega) (by omega)]
  exact g
/-- an answer: a fault with its place, or what was read -/
def CRs {α : Type} (T : Nat → Nat) (N : Nat) (q : Int32 × MT) (o : (Nat × Nat) ⊕ α) (QF : MT → Prop) (Q : α → MT → Prop) : Prop :=
  match o with
  | .inl e => q.1 = nI e.1 ∧ 1 ≤ e.1 ∧ e.1 ≤ 3 ∧ q.2 13 2 = nI e.2 ∧ (∃ k, CtI q.2 k ∧ TkOK T N k) ∧ QF q.2
  | .inr x => q.1 = 0 ∧ Q x q.2
theorem p_tNum {μ : MT} {T : Nat → Nat} {N : Nat} {k : PT} {a b : Int32} {P : Nat → Bool} (h : TxI μ T N) (hk : CtI μ k) (hok : TkOK T N k) (hP : ∀ v, v ≤ 99 → (P v = true ↔ (¬ nI v < a ∧ nI v ≤ b))) :
    Ok (m_X4_takeNumber Zc 15 a b μ) (fun q => FrE μ q.2 ∧ CRs T N q (pNum T N P k) (fun _ => True) (fun r ν => CtI ν r.2 ∧ ν 15 1 = nI r.1)) := by
  have o3 := hok.2.2.1
  unfold m_X4_takeNumber m_X7_atNumber pNum CRs
  simp only [zA]
  rw [hk.2.2]
  by_cases hs : k.2.2 = 2
  · have hnv := nv_le hok hs
    rw [if_pos (by rw [hs]; rfl), ob_s, if_neg (by decide), p_numH h hk hok hs, ob_s, ob_s, if_pos hs]
    generalize nvA T k = v at hnv ⊢
    have hPv := hP v hnv
    have e1 : u2 μ 15 1 (nI v) 15 1 = nI v := by rw [u2_r, if_pos ⟨rfl, rfl⟩]
    have f13 : u2 μ 15 1 (nI v) 13 = μ 13 := by rw [u2_w, if_neg (by omega)]
    have hfr : FrE μ (u2 μ 15 1 (nI v)) := ⟨fun q a b => by rw [u2_w, if_neg b], by rw [f13]⟩
    rw [e1]
    have hk2 : CtI (u2 μ 15 1 (nI v)) k := by unfold CtI; rw [f13]; exact hk
    by_cases hp : P v = true
    · obtain ⟨q1, q2⟩ := hPv.mp hp
      rw [if_pos hp, if_neg q1, if_pos q2]
      refine ok_b (p_toNext (hfr.tx h) hok.2.1 (by rw [f13]; exact hk.2.1)) ?_
      rintro ν ⟨g1, g2⟩
      exact ok_s ⟨hfr.trans (FrE.of g2), rfl, g1, by show ν 15 1 = _; rw [g2.1 15 (by omega)]; exact e1⟩
    · rw [if_neg hp]
      have hfault : Ok (some ((2 : Int32), u2 μ 15 1 (nI v))) (fun q => FrE μ q.2 ∧ (q.1 = nI 2 ∧ 1 ≤ 2 ∧ 2 ≤ 3 ∧ q.2 13 2 = nI k.1 ∧ (∃ k, CtI q.2 k ∧ TkOK T N k) ∧ True)) := ok_s ⟨hfr, rfl, by omega, by omega, hk2.1, ⟨k, hk2, hok⟩, trivial⟩
      by_cases q1 : nI v < a
      · rw [if_pos q1]; exact hfault
      · rw [if_neg q1]
        have q2 : ¬ nI v ≤ b := fun hq => hp (hPv.mpr ⟨q1, hq⟩)
        rw [if_neg q2]; exact hfault
  · rw [if_neg (by rw [x_eql (by omega) (by omega)]; exact hs), ob_s, if_pos rfl, if_neg hs]
    exact ok_s ⟨FrE.refl μ, rfl, by simp, by simp, hk.1, ⟨k, hk, hok⟩, trivial⟩
theorem p_tSgn {μ : MT} {T : Nat → Nat} {N : Nat} {k : PT} (h : TxI μ T N) (hk : CtI μ k) (hok : TkOK T N k) :
    Ok (m_X4_takeSign Zc 15 μ) (fun q => FrE μ q.2 ∧ CRs T N q (pSgn T N k) (fun _ => True) (fun r ν => CtI ν r)) := by
  have o3 := hok.2.2.1
  unfold m_X4_takeSign m_X7_atSign pSgn CRs
  simp only [zA]
  rw [hk.2.2]
  by_cases hs : k.2.2 = 3
  · rw [if_pos (by rw [hs]; rfl), ob_s, if_neg (by decide), if_pos hs]
    refine ok_b (p_toNext h hok.2.1 hk.2.1) ?_
    rintro ν ⟨g1, g2⟩
    exact ok_s ⟨FrE.of g2, rfl, g1⟩
  · rw [if_neg (by rw [x_eql (by omega) (by omega)]; exact hs), ob_s, if_pos rfl, if_neg hs]
    exact ok_s ⟨FrE.refl μ, rfl, by simp, by simp, hk.1, ⟨k, hk, hok⟩, trivial⟩
theorem rg_P {lo hi : Nat} {a b : Int32} (ha : a = nI lo) (hl : lo < 1000) (hh : hi < 1000) (hb : b = nI hi - 1) : ∀ v, v ≤ 99 → (rgB lo hi v = true ↔ (¬ nI v < a ∧ nI v ≤ b)) := fun v hv => by
  rw [rg_i, ha, hb, x_lt (by omega) (by omega), fa_le, ti_n (by omega), ti_n1 (by omega)]
  omega
/-! adding to the draft -/
theorem as_p {μ : MT} {p i j : Nat} {v : Int32} (hp : isPl p) (hj : 1 ≤ j) (hj2 : j ≤ 4) (hi : i < 40) : ast Zc μ (p + j) (nI i) v = some (u2 μ (p + j) i v) := by
  obtain ⟨l1, l2, l3, l4, l5, l6⟩ := zql hp
  rcases (by omega : j = 1 ∨ j = 2 ∨ j = 3 ∨ j = 4) with rfl | rfl | rfl | rfl
  · exact ast_n l1 hi (by omega)
  · exact ast_n l2 hi (by omega)
  · exact ast_n l3 hi (by omega)
  · exact ast_n l4 hi (by omega)
theorem as_p5 {μ : MT} {p i j : Nat} {v : Int32} (hp : isPl p) (hj : 5 ≤ j) (hj2 : j ≤ 6) (hi : i < 6) : ast Zc μ (p + j) (nI i) v = some (u2 μ (p + j) i v) := by
  obtain ⟨l1, l2, l3, l4, l5, l6⟩ := zql hp
  rcases (by omega : j = 5 ∨ j = 6) with rfl | rfl
  · exact ast_n l5 hi (by omega)
  · exact ast_n l6 hi (by omega)
theorem FrD.w {d : Nat} {μ ν : MT} (h : FrD d μ ν) (hd : isPl d) {k j : Nat} {v : Int32} (hk : d ≤ k ∧ k ≤ d + 6) : FrD d μ (u2 ν k j v) := by
  have := isPl_le hd
  exact ⟨fun q a b c => by rw [u2_w, if_neg (by omega)]; exact h.1 q a b c, by rw [u2_r, if_neg (by omega)]; exact h.2⟩
theorem p_addAct {μ : MT} {d nc kd pl st : Nat} {L : List AC} {E : List Nat} {B : List (Nat × Nat)} (hd : isPl d) (hc : CPl μ d nc L E B) (hl : L.length < 40) : Ok (m_X3_addAct Zc d (nI kd) (nI pl) (nI st) μ) (fun ν => CPl ν d nc (L ++ [(kd, pl, st, E.length)]) E B ∧ FrD d μ ν ∧ ν 13 = μ 13) := by
  have hdl := isPl_le hd
  obtain ⟨⟨c0, c1, c2, c3⟩, c4, c5, c6⟩ := hc
  unfold m_X3_addAct
  rw [c2, if_neg (by rw [x_lle (by omega) (by omega)]; omega), zq_4 hd, zq_5 hd, zq_6 hd, zq_7 hd, as_p hd (by omega) (by omega) hl, ob_s]
  have e2 : u2 μ (d + 1) L.length (nI kd) d 2 = nI L.length := by rw [u2_r, if_neg (by omega)]; exact c2
  rw [e2, as_p hd (by omega) (by omega) hl, ob_s]
  have e3 : u2 (u2 μ (d + 1) L.length (nI kd)) (d + 2) L.length (nI pl) d 2 = nI L.length := by rw [u2_r, if_neg (by omega)]; exact e2
  rw [e3, as_p hd (by omega) (by omega) hl, ob_s]
  have e4 : u2 (u2 (u2 μ (d + 1) L.length (nI kd)) (d + 2) L.length (nI pl)) (d + 3) L.length (nI st) d = μ d := by rw [u2_w, if_neg (by omega), u2_w, if_neg (by omega), u2_w, if_neg (by omega)]
  rw [e4, c2, c1, as_p hd (by omega) (by omega) hl, ob_s]
  have e5 : u2 (u2 (u2 (u2 μ (d + 1) L.length (nI kd)) (d + 2) L.length (nI pl)) (d + 3) L.length (nI st)) (d + 4) L.length (nI E.length) d = μ d := by rw [u2_w, if_neg (by omega)]; exact e4
  rw [e5, c2, n1, ob_s]
  refine ok_s ⟨⟨⟨?_, ?_, ?_, ?_⟩, fun a ha => ?_, fun s hs => ?_, fun s hs => ?_⟩, (((((FrD.refl d μ).w hd (by omega)).w hd (by omega)).w hd (by omega)).w hd (by omega)).w hd (by omega), ?_⟩
  · rw [u2_r, if_neg (by omega), e5]; exact c0
  · rw [u2_r, if_neg (by omega), e5]; exact c1
  · rw [u2_r, if_pos ⟨rfl, rfl⟩]; simp
  · rw [u2_r, if_neg (by omega), e5]; exact c3
  · rw [getD_app]
    by_cases hal : a = L.length
    · subst hal
      rw [if_pos rfl]
      refine ⟨?_, ?_, ?_, ?_⟩ <;> simp [u2_r]
    · rw [if_neg hal]
      have ha2 : a < L.length := by simp at ha; omega
      obtain ⟨d1, d2, d3, d4⟩ := c4 a ha2
      refine ⟨?_, ?_, ?_, ?_⟩ <;> simp [u2_r, hal, d1, d2, d3, d4]
  · have := c5 s hs
    simp [u2_r, this]
  · have := c6 s hs
    simp [u2_r, this]
  · rw [u2_w, if_neg (by omega), u2_w, if_neg (by omega), u2_w, if_neg (by omega), u2_w, if_neg (by omega), u2_w, if_neg (by omega)]
theorem p_endSeam {μ : MT} {d nc : Nat} {L : List AC} {E : List Nat} {B : List (Nat × Nat)} (hd : isPl d) (hc : CPl μ d nc L E B) (hl : E.length < 6) : Ok (m_X3_endSeam Zc d μ) (fun ν => CPl ν d nc L (E ++ [L.length]) B ∧ FrD d μ ν ∧ ν 13 = μ 13) := by
  have hdl := isPl_le hd
  obtain ⟨⟨c0, c1, c2, c3⟩, c4, c5, c6⟩ := hc
  unfold m_X3_endSeam
  rw [c1, if_neg (by rw [x_lle (by omega) (by omega)]; omega), zq_8 hd, c2, as_p5 hd (by omega) (by omega) hl, ob_s]
  have e5 : u2 μ (d + 5) E.length (nI L.length) d = μ d := by rw [u2_w, if_neg (by omega)]
  rw [e5, c1, n1, ob_s]
  refine ok_s ⟨⟨⟨?_, ?_, ?_, ?_⟩, fun a ha => ?_, fun s hs => ?_, fun s hs => ?_⟩, ((FrD.refl d μ).w hd (by omega)).w hd (by omega), ?_⟩
  · rw [u2_r, if_neg (by omega), e5]; exact c0
  · rw [u2_r, if_pos ⟨rfl, rfl⟩]; simp
  · rw [u2_r, if_neg (by omega), e5]; exact c2
  · rw [u2_r, if_neg (by omega), e5]; exact c3
  · obtain ⟨d1, d2, d3, d4⟩ := c4 a ha
    refine ⟨?_, ?_, ?_, ?_⟩ <;> simp [u2_r, d1, d2, d3, d4]
  · rw [getD_app]
    by_cases hse : s = E.length
    · subst hse
      rw [if_pos rfl]
      simp [u2_r]
    · rw [if_neg hse]
      have := c5 s (by simp at hs; omega)
      simp [u2_r, hse, this]
  · have := c6 s hs
    simp [u2_r, this]
  · rw [u2_w, if_neg (by omega), u2_w, if_neg (by omega)]
theorem ndL_s {B : List (Nat × Nat)} {x : Nat × Nat} {s : Nat} : ndL (B ++ [x]) s = if x.2 = s then ndL B s ||| 2 ^ x.1 else ndL B s := by
  unfold ndL
  rw [List.foldl_append]
  rfl
theorem p_addBef {μ : MT} {d nc f l : Nat} {L : List AC} {E : List Nat} {B : List (Nat × Nat)} (hd : isPl d) (hc : CPl μ d nc L E B) (hE : E.length ≤ 6) (hf : f < E.length) (hl : l < E.length) (hB : B.length < 100) : Ok (m_X3_addBefore Zc d (nI f) (nI l) μ) (fun ν => CPl ν d nc L E (B ++ [(f, l)]) ∧ FrD d μ ν ∧ ν 13 = μ 13) := by
  have hdl := isPl_le hd
  obtain ⟨⟨c0, c1, c2, c3⟩, c4, c5, c6⟩ := hc
  unfold m_X3_addBefore
  rw [q_hasSeam c1 (by omega), ob_s, bI_t (by rw [ti_n (by omega)]; omega), if_neg (by decide), q_hasSeam c1 (by omega), ob_s, bI_t (by rw [ti_n (by omega)]; omega), if_neg (by decide), zq_9 hd, al_p5 hd (by omega) (by omega) (by omega), ob_s, as_p5 hd (by omega) (by omega) (by omega), ob_s, c6 l (by omega), or_n (by omega)]
  have e5 : u2 μ (d + 6) l (nI (ndL B l ||| 2 ^ f)) d = μ d := by rw [u2_w, if_neg (by omega)]
  rw [e5, c3, n1, ob_s]
  refine ok_s ⟨⟨⟨?_, ?_, ?_, ?_⟩, fun a ha => ?_, fun s hs => ?_, fun s hs => ?_⟩, ((FrD.refl d μ).w hd (by omega)).w hd (by omega), ?_⟩
  · rw [u2_r, if_neg (by omega), e5]; exact c0
  · rw [u2_r, if_neg (by omega), e5]; exact c1
  · rw [u2_r, if_neg (by omega), e5]; exact c2
  · rw [u2_r, if_pos ⟨rfl, rfl⟩]; simp
  · obtain ⟨d1, d2, d3, d4⟩ := c4 a ha
    refine ⟨?_, ?_, ?_, ?_⟩ <;> simp [u2_r, d1, d2, d3, d4]
  · have := c5 s hs
    simp [u2_r, this]
  · have := c6 s hs
    rw [ndL_s, u2_r, if_neg (by omega), u2_r]
    by_cases hsl : s = l
    · rw [if_pos ⟨rfl, hsl⟩, if_pos hsl.symm, hsl]
    · rw [if_neg (fun hq => hsl hq.2), if_neg (fun hq => hsl hq.symm)]; exact this
  · rw [u2_w, if_neg (by omega), u2_w, if_neg (by omega)]
