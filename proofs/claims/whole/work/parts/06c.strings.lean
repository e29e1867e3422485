/-! ===== String constants (cells 2000 on; their bytes 2100 on) ===== -/
section VSTR
variable {α β γ : Type} {x : CX} {G : GT} {Z : ZT} {cs : Nat × Nat} {nL : Nat} {Q : Option Value → MT → State → Prop} {J : α → Option Value × MT} {pc : Nat} {lv : List (Nat × Value)} {st : List Value} {μ : MT} {o : Option β} {f : β → Option α} {cc : ByteArray} {Ts : List Cond} {own : String}
theorem CF.strs (C : CF x G Z cc nL Ts own) : vk_S 14 txL txB (fun i => ga G (2000 + i)) (fun i => ga G (2100 + i)) (gA G) (xs x) (xs x).heap := C.2.2.2.2.2.2.1.2.2.2.2.2.1
theorem v_cz {y : Int32} {g : Int32 → Option β} (h : (y.toUInt32 % 65536).toInt32 = y → VK x G Z cs nL Q J pc lv st μ (g y) f) : VK x G Z cs nL Q J pc lv st μ ((cz y).bind g) f := by
  intro a ha
  unfold cz at ha
  by_cases hk : (y.toUInt32 % 65536).toInt32 = y
  · rw [if_pos hk] at ha
    exact h hk a ha
  · rw [if_neg hk] at ha
    cases ha
theorem cz_n {y : Int32} (h : (y.toUInt32 % 65536).toInt32 = y) : narrow .char (.int y) = .int y := by
  rw [← h]
  exact pk_nc y
theorem v_stc {k : Nat} {g : Nat → Option β} (h : 2000 ≤ k ∧ k < 2014 → VK x G Z cs nL Q J pc lv st μ (g k) f) : VK x G Z cs nL Q J pc lv st μ ((stc k).bind g) f := by
  intro a ha
  unfold stc at ha
  by_cases hk : 2000 ≤ k ∧ k < 2014
  · rw [if_pos hk] at ha
    exact h hk a ha
  · rw [if_neg hk] at ha
    cases ha
theorem v_lds (C : CF x G Z cc nL Ts "SeamPull$Tape") {index i : Nat} (hi : i < 14) (hx : txK.getD i 0 = index) (hd : decode cc pc = .ok (.ldc index, 2)) (kk : VK x G Z cs nL Q J (pc + 2) lv (.ref (ga G (2000 + i)) :: st) μ o f) : VK x G Z cs nL Q J pc lv st μ o f := by
  subst hx
  exact fun a ha H locs ls hP hl => va_ldcS C.1 C.2.1 C.2.2.2.1 (C.2.2.2.2.2.1.2.2 i hi) hd (kk a ha H locs ls hP hl)
theorem v_compact (C : CF x G Z cc nL BG own) {index : Nat} (hl : Cond.fieldLink own index "java/lang/String" "COMPACT_STRINGS" "Z" ∈ BG) (hd : decode cc pc = .ok (.getstatic index, 3)) (kk : VK x G Z cs nL Q J (pc + 3) lv (.int 1 :: st) μ o f) : VK x G Z cs nL Q J pc lv st μ o f :=
  fun a ha H locs ls hP hl2 => va_gets C.1 C.2.1 C.2.2.2.2.2.2.1.2.2.2.2.1 hP.2.1 C.2.2.2.1 (C.2.2.2.2.1 _ hl) (fun _ h => h) hd (kk a ha H locs ls hP hl2)
theorem v_strv (C : CF x G Z cc nL BG own) {index k : Nat} (hk : 2000 ≤ k ∧ k < 2014) (hl : Cond.fieldLink own index "java/lang/String" "value" "[B" ∈ BG) (hd : decode cc pc = .ok (.getfield index, 3)) (kk : VK x G Z cs nL Q J (pc + 3) lv (.ref (ga G (k + 100)) :: st) μ o f) : VK x G Z cs nL Q J pc lv (.ref (ga G k) :: st) μ o f := by
  intro a ha H locs ls hP hl2
  have h := (C.strs.1 (k - 2000) (by omega)).2.2.1
  have e1 : 2000 + (k - 2000) = k := by omega
  have e2 : 2100 + (k - 2000) = k + 100 := by omega
  simp only [e1, e2] at h
  exact vk_getf C.1 C.2.1 h hP.2.1 C.2.2.2.1 (C.2.2.2.2.1 _ hl) (fun _ h => h) hd (kk a ha H locs ls hP hl2)
theorem v_strc (C : CF x G Z cc nL BG own) {index k : Nat} (hk : 2000 ≤ k ∧ k < 2014) (hl : Cond.fieldLink own index "java/lang/String" "coder" "B" ∈ BG) (hd : decode cc pc = .ok (.getfield index, 3)) (kk : VK x G Z cs nL Q J (pc + 3) lv (.int 0 :: st) μ o f) : VK x G Z cs nL Q J pc lv (.ref (ga G k) :: st) μ o f := by
  intro a ha H locs ls hP hl2
  have h := (C.strs.1 (k - 2000) (by omega)).2.1
  have e1 : 2000 + (k - 2000) = k := by omega
  simp only [e1] at h
  exact vk_getf C.1 C.2.1 h hP.2.1 C.2.2.2.1 (C.2.2.2.2.1 _ hl) (fun _ h => h) hd (kk a ha H locs ls hP hl2)
theorem CF.strT (C : CF x G Z cc nL Ts own) {k : Nat} (hk : 2100 ≤ k ∧ k < 2114) : va_T .byte (ga G k) (slen k) (fun j => .int (sch k j)) (gA G) (xs x) (xs x).heap := by
  have h := (C.strs.1 (k - 2100) (by omega)).2.2.2
  have e1 : 2100 + (k - 2100) = k := by omega
  simp only [e1] at h
  exact h
theorem v_strl (C : CF x G Z cc nL Ts own) {k : Nat} (hk : 2100 ≤ k ∧ k < 2114) (hd : decode cc pc = .ok (.arraylength, 1)) (kk : VK x G Z cs nL Q J (pc + 1) lv (.int (Int32.ofNat (slen k)) :: st) μ o f) : VK x G Z cs nL Q J pc lv (.ref (ga G k) :: st) μ o f := by
  intro a ha H locs ls hP hl
  obtain ⟨cell, h1, h2, h3, h4, h5, h6, h7⟩ := C.strT hk
  exact W.alen (n := Int32.ofNat (slen k)) C.1 C.2.1 (by rw [hP.2.1.2.1 _ (Array.getElem?_eq_some_iff.mp h1).1 h7]; exact h1) h2 h5 rfl rfl hd (kk a ha H locs ls hP hl)
theorem v_strb (C : CF x G Z cc nL Ts own) {k : Nat} {i : Int32} {g : Int32 → Option β} (hk : 2100 ≤ k ∧ k < 2114) (hd : decode cc pc = .ok (.baload, 1)) (kk : ∀ v, VK x G Z cs nL Q J (pc + 1) lv (.int v :: st) μ (g v) f) : VK x G Z cs nL Q J pc lv (.int i :: .ref (ga G k) :: st) μ ((sld k i).bind g) f := by
  intro a ha H locs ls hP hl
  unfold sld at ha
  by_cases hi : inb i (slen k) = true
  · rw [if_pos hi] at ha
    exact va_tb C.1 C.2.1 (C.strT hk) hP.2.1 (inb_vp.mp hi) rfl hd (kk _ a ha H locs ls hP hl)
  · rw [if_neg hi] at ha
    cases ha
theorem v_i2c (C : CF x G Z cc nL Ts own) {y v : Int32} (hv : (y.toUInt32 % 65536).toInt32 = v) (hd : decode cc pc = .ok (.i2c, 1)) (kk : VK x G Z cs nL Q J (pc + 1) lv (.int v :: st) μ o f) : VK x G Z cs nL Q J pc lv (.int y :: st) μ o f :=
  fun a ha H locs ls hP hl => lv_i2c C.1 C.2.1 hd hv (kk a ha H locs ls hP hl)
theorem v_cret (C : CF x G Z cc nL Ts own) {v : Int32} {ty : FieldType} (hn : narrow ty (.int v) = .int v) (hr : (xM x).sig.returnType = some ty) (hd : decode cc pc = .ok (.ireturn, 1)) (ho : ∀ a, o.bind f = some a → J a = (some (.int v), μ)) : VK x G Z (0, 0) nL (QM x G Z) J pc lv [.int v] μ o f := by
  intro a ha H locs ls hP hl
  rw [ho a ha]
  exact W.zret C.1 C.2.1 hr hn (fun t ht hW => ⟨rfl, by rw [ht]; exact hP.1, hP.2.2, hP.2.1.F ht⟩) hP.2.1.2.2 hd (hlocks := C.2.2.2.2.2.2.2.2.2.1)
theorem v_aret (C : CF x G Z cc nL Ts own) {k : Nat} {N : String} (hr : (xM x).sig.returnType = some (.object N)) (hd : decode cc pc = .ok (.areturn, 1)) (ho : ∀ a, o.bind f = some a → J a = (some (.ref (ga G k)), μ)) : VK x G Z (0, 0) nL (QM x G Z) J pc lv [.ref (ga G k)] μ o f := by
  intro a ha H locs ls hP hl
  rw [ho a ha]
  exact W.aret C.1 C.2.1 hr (Or.inl ⟨_, rfl⟩) (Or.inr ⟨_, rfl⟩) (fun t ht hW => ⟨rfl, by rw [ht]; exact hP.1, hP.2.2, hP.2.1.F ht⟩) hP.2.1.2.2 hd (hlocks := C.2.2.2.2.2.2.2.2.2.1)
/-- a call on a String constant -/
theorem v_cvS (C : CF x G Z cc nL BG own) {d np : Nat} (hR : RO x cs (d + 1)) {y : MethodName} {bytes : ByteArray} {n : Nat} {rt : Option FieldType} {index : Nat} (cw : CWv own index "java/lang/String" y bytes n rt np) (hn40 : n ≤ 40) {k : Nat} (hk : 2000 ≤ k ∧ k < 2014) (av : List Value) (hnp : av.length = np) {oc : Option Int32} {g : Int32 → Option β}
    (hM : ∀ r, oc = some r → MZ x.2.1 G Z y bytes n rt d (.ref (ga G k) :: av) μ (some (.int r)) μ) (hst : (st.map fun v => v.category).sum ≤ 8) (hd : decode cc pc = .ok (.invokevirtual index, 3)) {st0 : List Value} (hs : st0 = av.reverse ++ .ref (ga G k) :: st)
    (kk : ∀ r, VK x G Z cs nL Q J (pc + 3) lv (.int r :: st) μ (g r) f) : VK x G Z cs nL Q J pc lv st0 μ (oc.bind g) f := by
  subst hs
  intro a ha H locs ls hP hl
  obtain ⟨b, hb, ha⟩ := ob_iff ha
  have hG : GoodIn BG (wsV own index "java/lang/String" y (Cond.code y bytes n rt :: BG)) := cw_good (fun w hw => by
    rcases List.mem_append.mp hw with h | h
    · simp only [List.mem_cons, List.not_mem_nil, or_false] at h
      exact cw.1 w (by rcases h with h | h | h | h <;> simp [h])
    · rcases List.mem_cons.mp h with rfl | h
      · exact cw.1 _ (by simp)
      · exact h)
  have hrv := vk_recv C.strs (i := k - 2000) (by omega) hP.2.1
  have e1 : 2000 + (k - 2000) = k := by omega
  simp only [e1] at hrv
  have hR' := hR
  obtain ⟨r1, r2, r3, r4⟩ := hR'
  exact v_back (J' := fun r : Int32 => (some (.int r), μ)) ha hP hl (va_runV (As := av) (rest := st) ⟨C.1, C.2.1, C.2.2.1, C.2.2.2.1, C.2.2.2.2.1⟩ (hM b hb) (cwV np C.2.2.2.2.1 hG rfl rfl rfl cw.2 ⟨by show d + 1 ≤ _; exact r1, by show 8 + (n + 11) + 64 * d ≤ _; omega⟩) ⟨PZ.blind, hrv, fun U hU hW => pz_pre C hP hU hW⟩ rfl hnp hl.1 rfl (lv_room hst) hd ⟨by show _ + 0 ≤ _; exact r3, by show _ + 0 ≤ _; exact r4⟩) (fun b => kk b)
theorem v_csRr (C : CF x G Z cc nL BG own) {d np : Nat} (hR : RO x cs (d + 1)) {y : MethodName} {bytes : ByteArray} {n : Nat} {rt : Option FieldType} {index : Nat} (cw : CWs own index y bytes n rt np) (hn40 : n ≤ 40) (av : List Value) (hnp : av.length = np) {oc : Option Nat} {g : Nat → Option β}
    (hM : ∀ r : Nat, oc = some r → MZ x.2.1 G Z y bytes n rt d av μ (some (.ref (ga G r))) μ) (hst : (st.map fun v => v.category).sum ≤ 8) (hd : decode cc pc = .ok (.invokestatic index, 3)) {st0 : List Value} (hs : st0 = av.reverse ++ st)
    (kk : ∀ r, VK x G Z cs nL Q J (pc + 3) lv (.ref (ga G r) :: st) μ (g r) f) : VK x G Z cs nL Q J pc lv st0 μ (oc.bind g) f :=
  v_cs C hR cw hn40 (J' := fun r : Nat => (some (.ref (ga G r)), μ)) hnp hM hst hd (fun b => kk b) hs
theorem v_tout2 (C : CF x G Z cc nL Ts own) {y : Int32} {dflt lo hi : Int} {offs : Array Int} {len t : Nat} (hd : decode cc pc = .ok (.tableswitch dflt lo hi offs, len)) (h : (y.toInt < lo ∨ hi < y.toInt) ∨ (¬ y.toInt < lo ∧ ¬ hi < y.toInt ∧ offs[(y.toInt - lo).toNat]? = some dflt)) (ht : (pc : Int) + dflt = (t : Int)) (kk : VK x G Z cs nL Q J t lv st μ o f) : VK x G Z cs nL Q J pc lv (.int y :: st) μ o f := by
  intro a ha H locs ls hP hl
  rcases h with h | ⟨h1, h2, h3⟩
  · exact lv_tableOut C.1 C.2.1 hd h ht (kk a ha H locs ls hP hl)
  · exact lv_tableIn C.1 C.2.1 hd h1 h2 h3 ht (kk a ha H locs ls hP hl)
end VSTR
