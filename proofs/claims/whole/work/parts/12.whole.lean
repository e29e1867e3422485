/-! ===== the law from its entry, if the functions of class and reference answer alike ===== -/
theorem ro_len : ∀ i, i < 4 → (roT.getD i []).length < 2 ^ 31 := by decide
set_option maxRecDepth 100000 in
set_option maxHeartbeats 8000000 in
theorem whole_open (hpure : ∀ (ss : Nat → Int32) (L : Nat), L ≤ 3072 → ∃ ν, m_L_law Zf 127 ss L 0 106 μf = some (1, ν)) {p : Program} {e : Env} {s : State} {m : MethodId} {below : List Frame} {meth : Method} {c : Code} (l : Launch) {b L : Nat} {xs : Nat → Int32} (hL : L ≤ 3072) (C0 : lw_At p s m meth c b L xs) : W p l e room_1 s m #[Value.ref b] below meth c s.heap [] 0 0 (lw_Z below #[Value.ref b] s) (entryFrame m ([Value.ref b] : List Value).toArray 4) := by
  obtain ⟨hx, hb, hr, hml, hown, hts, hX, hbl, hlocks, hgv⟩ := id C0
  have hfl : ∀ c ∈ FLT, c.before #[Value.ref b] s = true := flat_of_before _ hgv
  have hA : ∀ a : Nat, a < s.heap.size → ¬ (fun q : Nat => s.heap.size ≤ q) a := fun a h => Nat.not_le.mpr h
  obtain ⟨c0, i0, k0⟩ := u_known (C := RX0) (T := TX0) (N := 2) (n := 2) hts (fun w h => bg_tbl w (inbX0 w h)) (hts (.instantiable RX0 2) (bg_tbl _ (w3 4 rfl)))
  obtain ⟨c1, i1, k1⟩ := u_known (C := RX1) (T := TX1) (N := 3) (n := 3) hts (fun w h => bg_tbl w (inbX1 w h)) (hts (.instantiable RX1 3) (bg_tbl _ (w2 57 rfl)))
  obtain ⟨c2, i2, k2⟩ := u_known (C := RX2) (T := TX2) (N := 10) (n := 10) hts (fun w h => bg_tbl w (inbX2 w h)) (hts (.instantiable RX2 10) (bg_tbl _ (w2 11 rfl)))
  obtain ⟨c3, i3, k3⟩ := u_known (C := RX3) (T := TX3) (N := 10) (n := 10) hts (fun w h => bg_tbl w (inbX3 w h)) (hts (.instantiable RX3 10) (bg_tbl _ (w3 13 rfl)))
  obtain ⟨c4, i4, k4⟩ := u_known (C := RX4) (T := TX4) (N := 2) (n := 2) hts (fun w h => bg_tbl w (inbX4 w h)) (hts (.instantiable RX4 2) (bg_tbl _ (w2 1 rfl)))
  obtain ⟨c5, i5, k5⟩ := u_known (C := RX5) (T := TX5) (N := 7) (n := 7) hts (fun w h => bg_tbl w (inbX5 w h)) (hts (.instantiable RX5 7) (bg_tbl _ (w2 36 rfl)))
  obtain ⟨c6, i6, k6⟩ := u_known (C := RX6) (T := TX6) (N := 3) (n := 3) hts (fun w h => bg_tbl w (inbX6 w h)) (hts (.instantiable RX6 3) (bg_tbl _ (w1 32 rfl)))
  obtain ⟨c7, i7, k7⟩ := u_known (C := RX7) (T := TX7) (N := 5) (n := 5) hts (fun w h => bg_tbl w (inbX7 w h)) (hts (.instantiable RX7 5) (bg_tbl _ (w1 49 rfl)))
  obtain ⟨c8, i8, k8⟩ := u_known (C := RX8) (T := TX8) (N := 16) (n := 16) hts (fun w h => bg_tbl w (inbX8 w h)) (hts (.instantiable RX8 16) (bg_tbl _ (w1 24 rfl)))
  obtain ⟨c9, i9, k9⟩ := u_known (C := RX9) (T := TX9) (N := 43) (n := 43) hts (fun w h => bg_tbl w (inbX9 w h)) (hts (.instantiable RX9 43) (bg_tbl _ (w12 42 rfl)))
  obtain ⟨dC, dI, hKc⟩ : ∃ (dC : Nat → ClassId) (dI : Nat → Nat → Nat), ∀ (k : Nat) (q : vw_C), vwCl[k]? = some q → u_Kn s q.1 q.2.1 q.2.2 (dC k) (dI k) := by
    refine ⟨fun k => [c0, c1, c2, c3, c4, c5, c6, c7, c8, c9].getD k c0, fun k => [i0, i1, i2, i3, i4, i5, i6, i7, i8, i9].getD k i0, ?_⟩
    intro k q hq
    match k, hq with
    | 0, hq => cases hq; exact k0
    | 1, hq => cases hq; exact k1
    | 2, hq => cases hq; exact k2
    | 3, hq => cases hq; exact k3
    | 4, hq => cases hq; exact k4
    | 5, hq => cases hq; exact k5
    | 6, hq => cases hq; exact k6
    | 7, hq => cases hq; exact k7
    | 8, hq => cases hq; exact k8
    | 9, hq => cases hq; exact k9
    | k + 10, hq => simp [vwCl] at hq
  obtain ⟨tb1, tb2, tb3, tb4, tb5, tb6, tb7, tb8, tb9⟩ := tb_misc
  obtain ⟨cI, hI1, hI2⟩ := arr_class (hts _ tb7) (fun C h => by cases h)
  obtain ⟨cB, hB1, hB2⟩ := arr_class (hts _ tb8) (fun C h => by cases h)
  obtain ⟨cZ, hZ1, hZ2⟩ := arr_class (hts _ tb9) (fun C h => by cases h)
  obtain ⟨cy, cII, kII, -, -, q3, q4, q5⟩ := arrayOverA_spec (hts _ tb5)
  obtain ⟨cq, cP, kP, r1, -, r3, r4, r5⟩ := Cond.arrayOver_spec (hts _ tb6)
  have hII1 : ArrOfT s cII (.array .int) := fun N z => ⟨(fun q hq => by cases hq), kII, q3, cy, q4⟩
  have hP1 : ArrOfT s cP (.object "SeamPull$Panel") := fun N z => ⟨(fun q hq => by cases hq), kP, r3, cq, r4⟩
  obtain ⟨adK, adV, hvk, hev⟩ := vk_Sof (args := #[Value.ref b]) (s := s) (N := 14) (tm := tmS) (len := txL) (byt := txB) (A := fun q : Nat => s.heap.size ≤ q) (by decide) (fun i hi => hfl _ (fl_ex i hi)) (fun i hi => hfl _ (fl_co i hi)) (fun i hi => hfl _ (fl_ar i hi)) (fun i hi => hfl _ (fl_le i hi)) (fun i hi j hj => hfl _ (fl_el i hi j hj)) (fun i j hi hj hne => (fl_ne i hi j hj hne).imp (hfl _) (hfl _)) hA
  have hst : ∀ i : Nat, ∃ t : Nat, i < 4 → (Term.static (stC i) (stN i) "[I").eval #[Value.ref b] s none [] s = some (.ref t) ∧ va_T .int t (roT.getD i []).length (fun j => .int (roR i j)) (fun q : Nat => s.heap.size ≤ q) s s.heap := by
    intro i
    by_cases hi : i < 4
    · obtain ⟨t, h1, h2⟩ := va_Tof (f := fun j => .int (roR i j)) (A := fun q : Nat => s.heap.size ≤ q) (ro_len i hi) (hfl _ (fl_ta i hi)) (va_eqt (hfl _ (fl_tl i hi))) (fun j hj => va_eqt (hfl _ (fl_te i hi j hj))) hA
      exact ⟨t, fun _ => ⟨h1, h2⟩⟩
    · exact ⟨0, fun h => absurd h hi⟩
  obtain ⟨tS, htS⟩ := Classical.axiomOfChoice hst
  obtain ⟨oth, ho0, ho1, ho2, ho3⟩ : ∃ oth : Nat → Nat, oth 3000 = b ∧ (∀ i, i < 4 → oth (1000 + i) = tS i) ∧ (∀ i, i < 14 → oth (2000 + i) = adK i) ∧ (∀ i, i < 14 → oth (2100 + i) = adV i) := by
    refine ⟨fun k => if k = 3000 then b else if k < 2000 then tS (k - 1000) else if k < 2100 then adK (k - 2000) else adV (k - 2100), if_pos rfl, fun i hi => ?_, fun i hi => ?_, fun i hi => ?_⟩
    · simp only []
      rw [if_neg (by omega), if_pos (by omega), show 1000 + i - 1000 = i by omega]
    · simp only []
      rw [if_neg (by omega), if_neg (by omega), if_pos (by omega), show 2000 + i - 2000 = i by omega]
    · simp only []
      rw [if_neg (by omega), if_neg (by omega), if_neg (by omega), show 2100 + i - 2100 = i by omega]
  obtain ⟨gcf, hg0, hg1, hg2, hg3, hg4⟩ : ∃ g : Nat → ClassId, g 20 = cI ∧ g 21 = cB ∧ g 22 = cZ ∧ g 23 = cII ∧ g 24 = cP := ⟨fun t => if t = 20 then cI else if t = 21 then cB else if t = 22 then cZ else if t = 23 then cII else cP, rfl, rfl, rfl, rfl, rfl⟩
  obtain ⟨B, hBe⟩ : ∃ B : BT, B = ((dC, dI), 4, oth, gcf, s.heap.size) := ⟨_, rfl⟩
  have hbb : bb B = s.heap.size := by rw [hBe]
  have hB4 : B.2.1 = 4 := by rw [hBe]
  have hn : ∀ k, 1000 ≤ k → nad B k = oth k := fun k hk => by
    unfold nad
    rw [if_neg (by omega), hBe]
  have hn1 : ∀ i, i < 4 → nad B (1000 + i) = tS i := fun i hi => by rw [hn _ (by omega), ho1 i hi]
  have hn2 : ∀ i, i < 14 → nad B (2000 + i) = adK i := fun i hi => by rw [hn _ (by omega), ho2 i hi]
  have hn3 : ∀ i, i < 14 → nad B (2100 + i) = adV i := fun i hi => by rw [hn _ (by omega), ho3 i hi]
  have hnb : nad B 3000 = b := by rw [hn _ (by omega), ho0]
  have hAe : bA B = fun q : Nat => s.heap.size ≤ q := by
    funext q
    show (bb B ≤ q) = _
    rw [hbb]
  have hK : va_K B.1 vwCl (ats (gN B 0)) s := by
    have hat : ats (gN B 0) = [(cI, .int), (cB, .byte), (cZ, .boolean), (cII, .array .int), (cP, .object "SeamPull$Panel")] := by
      show [(B.2.2.2.1 20, _), (B.2.2.2.1 21, _), (B.2.2.2.1 22, _), (B.2.2.2.1 23, _), (B.2.2.2.1 24, _)] = _
      rw [hBe]
      show [(gcf 20, _), (gcf 21, _), (gcf 22, _), (gcf 23, _), (gcf 24, _)] = _
      rw [hg0, hg1, hg2, hg3, hg4]
    rw [hat, hBe]
    refine ⟨hKc, fun k q hq => ?_⟩
    match k, hq with
    | 0, hq => cases hq; exact ⟨hI1, hI2⟩
    | 1, hq => cases hq; exact ⟨hB1, hB2⟩
    | 2, hq => cases hq; exact ⟨hZ1, hZ2⟩
    | 3, hq => cases hq; exact ⟨hII1, q5⟩
    | 4, hq => cases hq; exact ⟨hP1, kP, cq, r3, r4, r1, r5⟩
    | k + 5, hq => simp at hq
  have hKS : KS (gN B 0) s := ⟨hK, fun w hw => va_Nw.of (nest_tab w hw) (hts w (tb_nest w hw)), fun i hi => by
    show vk_R _ _ _ (nad B (2000 + i)) s
    rw [hn2 i hi]
    exact vk_R.of (hts _ (tb_str i hi)) (hev i hi)⟩
  have hZi : ∀ i, i < 4 → va_Z (stC i) (stN i) "[I" (.ref (nad B (1000 + i))) (bA B) s s.heap := fun i hi => by
    rw [hAe, hn1 i hi]
    exact va_Zref (hts _ (tb_ls i hi).1) (hts _ (tb_ls i hi).2) (htS i hi).1 hA
  have hKH : KH (gN B 127) s s.heap := by
    refine ⟨hZi 0 (by decide), hZi 1 (by decide), hZi 2 (by decide), hZi 3 (by decide), ?_, ?_, ?_⟩
    · show va_Z _ _ _ _ (bA B) s s.heap
      rw [hAe]
      exact va_Zof (hts _ tb1) (hts _ tb2) (va_eqi (hfl _ fl_misc.1)) hA
    · show vk_S 14 txL txB (fun i => nad B (2000 + i)) (fun i => nad B (2100 + i)) (bA B) s s.heap
      rw [hAe]
      refine ⟨fun i hi => ?_, fun i j hi hj e => ?_⟩
      · have h := hvk.1 i hi
        simp only []
        rw [hn2 i hi, hn3 i hi]
        exact h
      · simp only [] at e
        rw [hn2 i hi, hn2 j hj] at e
        exact hvk.2 i j hi hj e
    · show va_Zq _ _ _ (bA B) s s.heap
      rw [hAe]
      exact va_Zqof (hts _ tb3) (hts _ tb4) (hfl _ fl_misc.2) hA
  have hKT : KT (gN B 127) s s.heap := by
    intro i hi
    have hi : i < 4 := by
      have : i < B.2.1 := hi
      omega
    show va_T .int (nad B (1000 + i)) _ _ (bA B) s s.heap
    rw [hAe, hn1 i hi]
    exact (htS i hi).2
  have C : CN (p, l, e, room_1, s, m, #[Value.ref b], below, meth, c) B code 4 RL := ⟨hx, hb, hml, hown, fun w hw => hts w (bg_tbl w hw), hKS, hlocks, Nat.le_of_eq hbb, va_AO.of (hts _ tb6), hts _ tb5⟩
  obtain ⟨ν, hν⟩ := hpure xs L hL
  have CFx : CF (p, l, e, room_1, s, m, #[Value.ref b], below, meth, c) (gN B 127) Zf code 4 BG RL := ⟨hx, hb, hml, hown, fun w hw => hts w (bg_tbl w hw), hKS, hKH, gN_DA (by decide), wt_of hB4, hlocks, hKT⟩
  have hS3 : SCR (p, l, e, room_1, s, m, #[Value.ref b], below, meth, c) (gN B 127) xs L := by
    show va_X (nad B 3000) L xs s s.heap ∧ nad B 3000 < s.heap.size ∧ ¬ bb B ≤ nad B 3000
    rw [hnb, hbb]
    exact ⟨hX, hbl, Nat.not_le.mpr hbl⟩
  have hzk : zk Zf 0 = 8 ∧ zk Zf 106 = 9 := by decide +kernel
  have V := s_L_law (cs := (127, 3554)) (b := b) (μ := μf) (gN_DA (by decide)) (wt_of hB4) CFx hS3 (kx := 0) (km := 106) ⟨hzk.1, by show 0 < 127; decide⟩ ⟨hzk.2, by show 106 < 127; decide⟩ ⟨show 46 ≤ room_1.frames by decide, show 64 * 46 ≤ room_1.locals by decide, show 127 ≤ room_1.cells by decide, show 3554 ≤ room_1.slots by decide⟩ hbb rfl rfl (by decide) (by decide) hr
  have hl := lv_entry ([.ref b]) (n := 4) (Nat.le_of_ble_eq_true rfl)
  rw [lg_entry_eq]
  refine law_pre (B := B) (σ := σst) (b := b) C rfl (by decide) ?_ s.heap [] _ ⟨fun k q h => ?_, ?_, by decide⟩ va_S.rf hl
  · intro H locs ls hW hS hl
    have hW : NW B (c_L_law σst) H := hW
    have hW1 : va_P B.1 vwCl (wd (gN B 127) Zf μf) H := by
      have h := hW.1
      rw [zf_n] at h
      exact h
    have hl' : lv_has ls 4 [(2, .ref (ga (gN B 127) 106)), (1, .ref (ga (gN B 127) 0)), (0, .ref (ga (gN B 127) 3000))] := by
      show lv_has ls 4 [(2, .ref (nad B 106)), (1, .ref (nad B 0)), (0, .ref (nad B 3000))]
      rw [hnb]
      exact hl
    have w := V (1, ν) (by rw [ob_r]; exact hν) H locs ls ⟨hW1, hS, ro_of hB4⟩ hl'
    intro T hT X
    obtain ⟨t, a1, b1⟩ := w T hT X
    exact ⟨t, a1, b1 rfl⟩
  · have hk : k < 0 := by
      have h1 := (List.getElem?_eq_some_iff.mp h).1
      have h2 : k < (wd (gN B 0) Zst μst).length := h1
      unfold wd at h2
      rw [List.length_map, List.length_range] at h2
      exact h2
    omega
  · rw [hbb]
    rfl
