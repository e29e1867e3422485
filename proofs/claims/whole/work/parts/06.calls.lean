/-! ===== methods and calls over the plain memory ===== -/
abbrev rmd (d : Nat) : Room := { frames := d, cells := 0, slots := 0, locals := 64 * d }
def PZ (G : GT) (Z : ZT) (av : List Value) (μ : MT) : Array Value → State → Prop := va_Pc av (fun U => va_P (gD G) vwCl (wd G Z μ) U.heap ∧ KS G U ∧ KH G U U.heap ∧ KT G U U.heap ∧ ROk G μ)
def QZ (G : GT) (Z : ZT) (rv : Option Value) (ν : MT) : Array Value → State → Outcome → State → Prop := fun _ st oc t => oc = .returned rv ∧ va_P (gD G) vwCl (wd G Z ν) t.heap ∧ ROk G ν ∧ va_F (gA G) st t
def MZ (l : Launch) (G : GT) (Z : ZT) (y : MethodName) (c : ByteArray) (n : Nat) (r : Option FieldType) (d : Nat) (av : List Value) (μ : MT) (rv : Option Value) (ν : MT) : Prop := Met l y (Cond.code y c n r :: BG) (rmd d) (PZ G Z av μ) (QZ G Z rv ν) 0 0 (gA G)
def QM (x : CX) (G : GT) (Z : ZT) : Option Value → MT → State → Prop := fun rv ν => MQ (xb x) (QZ G Z rv ν) (xa x) (xs x) 0 0 (gA G)
/-- the room that is left -/
def RO (x : CX) (cs : Nat × Nat) (d : Nat) : Prop := d ≤ (xR x).frames ∧ 64 * d ≤ (xR x).locals ∧ cs.1 ≤ (xR x).cells ∧ cs.2 ≤ (xR x).slots
def isNest : Cond → Bool
  | .fieldLinkNest .. => true
  | .methodLinkNest .. => true
  | _ => false
theorem nest_all : nestW.all isNest = true := by decide +kernel
theorem nest_warm {w : Cond} (hw : isNest w = true) {s U : State} (hW : s.WarmedH U.vm) (h : va_Nw w s) : va_Nw w U := by
  cases w <;> first | exact va_Nw.warmF hW h | exact va_Nw.warmM hW h | cases hw
theorem nest_same {w : Cond} (hw : isNest w = true) {s U : State} (hv : s.vm = U.vm) (h : va_Nw w s) : va_Nw w U := by
  cases w <;> first | exact va_Nw.same rfl hv h | cases hw
theorem KS.warm {G : GT} {s U : State} (hW : s.WarmedH U.vm) (h : KS G s) : KS G U :=
  ⟨va_K.moved hW.alike h.1, fun w hw => nest_warm (List.all_eq_true.mp nest_all w hw) hW (h.2.1 w hw), fun i hi => (h.2.2 i hi).warm hW⟩
theorem KS.same {G : GT} {s U : State} (hv : U.vm = s.vm) (h : KS G s) : KS G U :=
  ⟨va_K.moved (by rw [hv]; exact Vm.Alike.refl _) h.1, fun w hw => nest_same (List.all_eq_true.mp nest_all w hw) hv.symm (h.2.1 w hw), fun i hi => vk_R.same hv (h.2.2 i hi)⟩
theorem KH.to {G : GT} {s U : State} {H H1 : Heap} (hvm : s.vm.Alike U.vm) (hq : ∀ a : Nat, a < H.size → ¬ gA G a → H1[a]? = H[a]?) (h : KH G s H) : KH G U H1 :=
  ⟨(h.1.moved hvm).kept hq, (h.2.1.moved hvm).kept hq, (h.2.2.1.moved hvm).kept hq, (h.2.2.2.1.moved hvm).kept hq, (h.2.2.2.2.1.moved hvm).kept hq, (h.2.2.2.2.2.1.moved hvm).kept hq, (h.2.2.2.2.2.2.moved hvm).kept hq⟩
theorem KT.to {G : GT} {s U : State} {H H1 : Heap} (hvm : s.vm.Alike U.vm) (hq : ∀ a : Nat, a < H.size → ¬ gA G a → H1[a]? = H[a]?) (h : KT G s H) : KT G U H1 :=
  fun i hi => ((h i hi).moved hvm).kept hq
theorem PZ.blind {G : GT} {Z : ZT} {av : List Value} {μ : MT} : FrameBlind (PZ G Z av μ) := by
  intro a U g mk h
  obtain ⟨h1, h2, h3, h4, h5, h6⟩ := h
  exact ⟨h1, h2, KS.same (s := U) (U := U.calling g mk a) rfl h3, KH.to (U := U.calling g mk a) (Vm.Alike.refl U.vm) (fun _ _ _ => rfl) h4, KT.to (U := U.calling g mk a) (Vm.Alike.refl U.vm) (fun _ _ _ => rfl) h5, h6⟩
section VCALLS
variable {α β γ : Type} {x : CX} {G : GT} {Z : ZT} {cs : Nat × Nat} {nL : Nat} {Q : Option Value → MT → State → Prop} {J : α → Option Value × MT} {pc : Nat} {lv : List (Nat × Value)} {st : List Value} {μ : MT} {o : Option β} {f : β → Option α} {cc : ByteArray} {Ts : List Cond} {own : String}
/-- a method's contract out of its walk -/
theorem v_met {l : Launch} {y : MethodName} {nL : Nat} {r : Option FieldType} {d : Nat} {av : List Value} {o : Option α} {a : α} (hG : DA G) (hZ : WT G Z) (hy : plainName y.cls = true) (hn : (lg_sl av).length ≤ nL) (ho : o = some a)
    (h : ∀ x : CX, CF x G Z cc nL BG y.cls → RO x (0, 0) d → x.2.1 = l → (xM x).sig.returnType = r → VK x G Z (0, 0) nL (QM x G Z) J 0 (lv_args 0 av) [] μ o some) : MZ l G Z y cc nL r d av μ (J a).1 (J a).2 := by
  refine Met.ofW (cc := cc) (maxL := nL) (ret := r) hy rfl ?_
  intro p e s m args below meth c s₁ B hml hv
  obtain ⟨rfl, hP, hKS, hKH, hKT, hRO⟩ := hv
  have hts := atoms_spec (ws := Cond.code y cc nL r :: BG) B.pre
  have hown : s.vm.findClass y.cls = some m.cls := findClass_of_methodNamed B.named
  have hl := lv_entry av (n := nL) hn
  rw [lg_entry_eq]
  exact h (p, l, e, (headSpec (Cond.code y cc nL r :: BG) (rmd d)).room, s, m, av.toArray, below, meth, c) ⟨B.exec, B.bytes, hml, hown, fun w hw => hts w (List.mem_cons_of_mem _ hw), hKS, hKH, hG, hZ, B.notSynchronized, hKT⟩ ⟨Nat.le_refl _, Nat.le_refl _, Nat.le_refl _, Nat.le_refl _⟩ rfl B.returns a (by rw [ob_r]; exact ho) s.heap [] _ ⟨hP, va_S.rf, hRO⟩ hl
theorem v_iret (C : CF x G Z cc nL Ts own) {v : Int32} (hr : (xM x).sig.returnType = some .int) (hd : decode cc pc = .ok (.ireturn, 1)) (ho : ∀ a, o.bind f = some a → J a = (some (.int v), μ)) : VK x G Z (0, 0) nL (QM x G Z) J pc lv [.int v] μ o f := by
  intro a ha H locs ls hP hl
  rw [ho a ha]
  exact W.iret C.1 C.2.1 hr (fun t ht hW => ⟨rfl, by rw [ht]; exact hP.1, hP.2.2, hP.2.1.F ht⟩) hP.2.1.2.2 hd (hlocks := C.2.2.2.2.2.2.2.2.2.1)
theorem v_lret (C : CF x G Z cc nL Ts own) {v : Int64} (hr : (xM x).sig.returnType = some .long) (hd : decode cc pc = .ok (.lreturn, 1)) (ho : ∀ a, o.bind f = some a → J a = (some (.long v), μ)) : VK x G Z (0, 0) nL (QM x G Z) J pc lv [.long v] μ o f := by
  intro a ha H locs ls hP hl
  rw [ho a ha]
  exact W.lret C.1 C.2.1 hr (fun t ht hW => ⟨rfl, by rw [ht]; exact hP.1, hP.2.2, hP.2.1.F ht⟩) hP.2.1.2.2 hd (hlocks := C.2.2.2.2.2.2.2.2.2.1)
theorem v_zret (C : CF x G Z cc nL Ts own) {v : Int32} (hv : v = 0 ∨ v = 1) (hr : (xM x).sig.returnType = some .boolean) (hd : decode cc pc = .ok (.ireturn, 1)) (ho : ∀ a, o.bind f = some a → J a = (some (.int v), μ)) : VK x G Z (0, 0) nL (QM x G Z) J pc lv [.int v] μ o f := by
  intro a ha H locs ls hP hl
  rw [ho a ha]
  exact W.zret C.1 C.2.1 hr (by rcases hv with rfl | rfl <;> rfl) (fun t ht hW => ⟨rfl, by rw [ht]; exact hP.1, hP.2.2, hP.2.1.F ht⟩) hP.2.1.2.2 hd (hlocks := C.2.2.2.2.2.2.2.2.2.1)
/-- a boolean that isn't a constant -/
theorem v_zretb (C : CF x G Z cc nL Ts own) {v : Int32} {g : Int32 → Option β} (hr : (xM x).sig.returnType = some .boolean) (hd : decode cc pc = .ok (.ireturn, 1)) (ho : ∀ a, (g v).bind f = some a → J a = (some (.int v), μ)) : VK x G Z (0, 0) nL (QM x G Z) J pc lv [.int v] μ ((bz v).bind g) f := by
  intro a ha H locs ls hP hl
  rw [Option.bind_assoc] at ha
  obtain ⟨hv, ha⟩ := bz_iff ha
  rw [ho a ha]
  exact W.zret C.1 C.2.1 hr (by rcases hv with rfl | rfl <;> rfl) (fun t ht hW => ⟨rfl, by rw [ht]; exact hP.1, hP.2.2, hP.2.1.F ht⟩) hP.2.1.2.2 hd (hlocks := C.2.2.2.2.2.2.2.2.2.1)
theorem v_vret (C : CF x G Z cc nL Ts own) (hr : (xM x).sig.returnType = none) (hd : decode cc pc = .ok (.return_, 1)) (ho : ∀ a, o.bind f = some a → J a = (none, μ)) : VK x G Z (0, 0) nL (QM x G Z) J pc lv [] μ o f := by
  intro a ha H locs ls hP hl
  rw [ho a ha]
  exact W.vret C.1 C.2.1 hr (fun t ht hW => ⟨rfl, by rw [ht]; exact hP.1, hP.2.2, hP.2.1.F ht⟩) hP.2.1.2.2 hd (hlocks := C.2.2.2.2.2.2.2.2.2.1)
theorem pz_pre (C : CF x G Z cc nL Ts own) {H : Heap} {locs : List Loc} (hP : PW G Z μ (xs x) H locs) {av : List Value} {U : State} (hU : U.heap = H) (hW : (xs x).WarmedH U.vm) : PZ G Z av μ av.toArray U :=
  ⟨rfl, by rw [hU]; exact hP.1, C.2.2.2.2.2.1.warm hW, by rw [hU]; exact C.2.2.2.2.2.2.1.to hW.alike hP.2.1.2.1, by rw [hU]; exact C.2.2.2.2.2.2.2.2.2.2.to hW.alike hP.2.1.2.1, hP.2.2⟩
/-- behind a call -/
theorem v_back {J' : γ → Option Value × MT} {b : γ} {g : γ → Option β} {a : α} {H : Heap} {locs : List Loc} {ls : Array Slot} {st0 : List Value} {av : Array Value} (ha : (g b).bind f = some a) (hP : PW G Z μ (xs x) H locs) (hl : lv_has ls nL lv)
    (hr : va_Run x.1 x.2.1 x.2.2.1 (xR x) (xs x) (xm x) (xa x) (xb x) (xM x) (xc x) H locs cs.1 cs.2 0 0 (F0 (xm x) pc ls st0) st (QZ G Z (J' b).1 (J' b).2 av) (gA G))
    (kk : ∀ b, VK x G Z cs nL Q J (pc + 3) lv ((J' b).1.toList ++ st) (J' b).2 (g b) f) : W x.1 x.2.1 x.2.2.1 (xR x) (xs x) (xm x) (xa x) (xb x) (xM x) (xc x) H locs cs.1 cs.2 (Q (J a).1 (J a).2) (F0 (xm x) pc ls st0) := by
  intro T hT X
  obtain ⟨v, st₀, t, T', L, h0, X', hL, e1, e2, ⟨hv, hPt, hRt, hz, hk⟩, step⟩ := hr T hT X
  cases hv
  rw [h0] at hz hk
  obtain ⟨t2, a1, b1⟩ := kk b a ha T'.heap (locs ++ L) ls ⟨by rw [e1]; exact hPt, ⟨Nat.le_trans hP.2.1.1 (by rw [e1]; exact hz), fun q h1 h2 => by rw [e1, hk q (Nat.lt_of_lt_of_le h1 hP.2.1.1) h2]; exact hP.2.1.2.1 q h1 h2, fun q hq => by
      rcases List.mem_append.mp hq with h | h
      · exact hP.2.1.2.2 q h
      · exact hL q h⟩, hRt⟩ hl T' rfl X'
  exact ⟨t2, step t2 a1, b1⟩
theorem ob_iff {oc : Option γ} {g : γ → Option β} {a : α} (h : (oc.bind g).bind f = some a) : ∃ b, oc = some b ∧ (g b).bind f = some a := by
  cases oc with
  | none => cases h
  | some b => exact ⟨b, rfl, h⟩
/-- what a call needs of the words: a method's link, its code -/
def CWv (own : String) (index : Nat) (C : String) (y : MethodName) (c : ByteArray) (n : Nat) (r : Option FieldType) (np : Nat) : Prop := (∀ w ∈ ([.methodLink own index y, .instanceMethod y, .selects C y y, .initialized C, .code y c n r] : List Cond), w ∈ BG) ∧ y.cls = C ∧ y.cls ≠ "java/lang/invoke/MethodHandle" ∧ y.cls ≠ "java/lang/invoke/VarHandle" ∧ (parseMethodDescriptor y.desc).map (fun d => d.parameters.length) = some np
def CWs (own : String) (index : Nat) (y : MethodName) (c : ByteArray) (n : Nat) (r : Option FieldType) (np : Nat) : Prop := (∀ w ∈ ([.methodLink own index y, .static y, .initialized y.cls, .code y c n r] : List Cond), w ∈ BG) ∧ y.cls ≠ "java/lang/invoke/MethodHandle" ∧ y.cls ≠ "java/lang/invoke/VarHandle" ∧ (parseMethodDescriptor y.desc).map (fun d => d.parameters.length) = some np
theorem cw_good {ws : List Cond} (h : ∀ w ∈ ws, w ∈ BG) : GoodIn BG ws := fun w hw => ⟨h w hw, good_of_word (bg_good w (h w hw))⟩
theorem v_cv (C : CF x G Z cc nL BG own) {d np : Nat} (hR : RO x cs (d + 1)) {c : Nat} {N : String} {T : u_T} {n0 : Nat} (hc : vwCl[c]? = some (N, T, n0)) {y : MethodName} {bytes : ByteArray} {n : Nat} {r : Option FieldType} {index : Nat} (cw : CWv own index N y bytes n r np) (hn40 : n ≤ 40) {J' : γ → Option Value × MT} {k : Nat} (hk : Ob G Z k c) (hc20 : c < 20) {av : List Value} (hnp : av.length = np) {oc : Option γ} {g : γ → Option β}
    (hM : ∀ b, oc = some b → MZ x.2.1 G Z y bytes n r d (.ref (ga G k) :: av) μ (J' b).1 (J' b).2) (hst : (st.map fun v => v.category).sum ≤ 8) (hd : decode cc pc = .ok (.invokevirtual index, 3))
    (kk : ∀ b, VK x G Z cs nL Q J (pc + 3) lv ((J' b).1.toList ++ st) (J' b).2 (g b) f) {st0 : List Value} (hs : st0 = av.reverse ++ .ref (ga G k) :: st) : VK x G Z cs nL Q J pc lv st0 μ (oc.bind g) f := by
  subst hs
  intro a ha H locs ls hP hl
  obtain ⟨b, hb, ha⟩ := ob_iff ha
  have hG : GoodIn BG (wsV own index N y (Cond.code y bytes n r :: BG)) := cw_good (fun w hw => by
    rcases List.mem_append.mp hw with h | h
    · simp only [List.mem_cons, List.not_mem_nil, or_false] at h
      exact cw.1 w (by rcases h with h | h | h | h <;> simp [h])
    · rcases List.mem_cons.mp h with rfl | h
      · exact cw.1 _ (by simp)
      · exact h)
  have hR' := hR
  obtain ⟨r1, r2, r3, r4⟩ := hR'
  exact v_back ha hP hl (va_runV (As := av) (rest := st) ⟨C.1, C.2.1, C.2.2.1, C.2.2.2.1, C.2.2.2.2.1⟩ (hM b hb) (cwV np C.2.2.2.2.1 hG rfl rfl rfl cw.2 ⟨by show d + 1 ≤ _; exact r1, by show 8 + (n + 11) + 64 * d ≤ _; omega⟩) ⟨PZ.blind, va_recv C.2.2.2.2.2.1.1 hP.1 hc (q0 := k) (by rw [wd_get hk.2, ce_obj hk.1 hc20]), fun U hU hW => pz_pre C hP hU hW⟩ rfl hnp hl.1 rfl (lv_room hst) hd ⟨by show _ + 0 ≤ _; exact r3, by show _ + 0 ≤ _; exact r4⟩) kk
theorem v_cs (C : CF x G Z cc nL BG own) {d np : Nat} (hR : RO x cs (d + 1)) {y : MethodName} {bytes : ByteArray} {n : Nat} {r : Option FieldType} {index : Nat} (cw : CWs own index y bytes n r np) (hn40 : n ≤ 40) {J' : γ → Option Value × MT} {av : List Value} (hnp : av.length = np) {oc : Option γ} {g : γ → Option β}
    (hM : ∀ b, oc = some b → MZ x.2.1 G Z y bytes n r d av μ (J' b).1 (J' b).2) (hst : (st.map fun v => v.category).sum ≤ 8) (hd : decode cc pc = .ok (.invokestatic index, 3))
    (kk : ∀ b, VK x G Z cs nL Q J (pc + 3) lv ((J' b).1.toList ++ st) (J' b).2 (g b) f) {st0 : List Value} (hs : st0 = av.reverse ++ st) : VK x G Z cs nL Q J pc lv st0 μ (oc.bind g) f := by
  subst hs
  intro a ha H locs ls hP hl
  obtain ⟨b, hb, ha⟩ := ob_iff ha
  have hG : GoodIn BG (va_wsS own index y (Cond.code y bytes n r :: BG)) := cw_good (fun w hw => by
    rcases List.mem_append.mp hw with h | h
    · simp only [List.mem_cons, List.not_mem_nil, or_false] at h
      exact cw.1 w (by rcases h with h | h | h <;> simp [h])
    · rcases List.mem_cons.mp h with rfl | h
      · exact cw.1 _ (by simp)
      · exact h)
  have hR' := hR
  obtain ⟨r1, r2, r3, r4⟩ := hR'
  exact v_back ha hP hl (va_runS (As := av) (rest := st) ⟨C.1, C.2.1, C.2.2.1, C.2.2.2.1, C.2.2.2.2.1⟩ (hM b hb) (va_cwS np C.2.2.2.2.1 hG rfl rfl rfl cw.2 ⟨by show d + 1 ≤ _; exact r1, by show 8 + (n + 11) + 64 * d ≤ _; omega⟩) ⟨PZ.blind, fun U hU hW => pz_pre C hP hU hW⟩ rfl hnp hl.1 rfl (lv_room hst) hd ⟨by show _ + 0 ≤ _; exact r3, by show _ + 0 ≤ _; exact r4⟩) kk
theorem v_loop {σ τ : Type} {body : σ → Option (σ ⊕ τ)} {F : τ → Option α} {P : σ → List (Nat × Value)} {S : σ → List Value} {M : σ → MT}
    (h : ∀ X : σ → Option α, (∀ s, VK x G Z cs nL Q J pc (P s) (S s) (M s) (X s) some) → ∀ s, VK x G Z cs nL Q J pc (P s) (S s) (M s) (body s) (fun q => match q with
      | .inl s' => X s'
      | .inr t => F t)) : ∀ (N : Nat) (s : σ), VK x G Z cs nL Q J pc (P s) (S s) (M s) (loop body N s) F := by
  intro N
  induction N with
  | zero =>
    intro s a ha
    cases ha
  | succ N ih =>
    intro s a ha
    refine h (fun s => (loop body N s).bind F) (fun s a ha => ih s a (by rw [ob_r] at ha; exact ha)) s a ?_
    rw [← ha]
    show _ = ((body s).bind _).bind F
    rw [Option.bind_assoc]
    congr 1
    funext q
    cases q <;> rfl
end VCALLS
