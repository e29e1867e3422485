/-! ===== the walk over the plain memory: one rule an instruction ===== -/
abbrev xR (x : CX) : Room := x.2.2.2.1
abbrev xs (x : CX) : State := x.2.2.2.2.1
abbrev xm (x : CX) : MethodId := x.2.2.2.2.2.1
abbrev xa (x : CX) : Array Value := x.2.2.2.2.2.2.1
abbrev xb (x : CX) : List Frame := x.2.2.2.2.2.2.2.1
abbrev xM (x : CX) : Method := x.2.2.2.2.2.2.2.2.1
abbrev xc (x : CX) : Code := x.2.2.2.2.2.2.2.2.2
/-- the String constants -/
abbrev txK : List Nat := [45, 47, 49, 51, 53, 55, 57, 59, 61, 63, 65, 67, 69, 71]
abbrev txS : List String := ["tack", "on", "back", "skip", "second", "turned", "flame", "wait", "clamp", "free", "panel", "seam", "before", ""]
/-- the words on nest mates -/
def nestW : List Cond := [.methodLinkNest "SeamPull" 18 ⟨"SeamPull$Tape", "<init>", "()V"⟩ "SeamPull", .fieldLinkNest "SeamPull" 335 "SeamPull$Tape" "size" "I" "SeamPull", .methodLinkNest "SeamPull" 44 ⟨"SeamPull$Panel", "<init>", "()V"⟩ "SeamPull", .fieldLinkNest "SeamPull" 233 "SeamPull$Panel" "hold" "[I" "SeamPull", .fieldLinkNest "SeamPull$Beforehand" 46 "SeamPull$Panel" "bend" "[I" "SeamPull", .fieldLinkNest "SeamPull" 236 "SeamPull$Panel" "bend" "[I" "SeamPull", .fieldLinkNest "SeamPull$Beforehand" 42 "SeamPull$Panel" "cells" "I" "SeamPull", .fieldLinkNest "SeamPull" 245 "SeamPull$Panel" "minutes" "I" "SeamPull", .methodLinkNest "SeamPull$Search" 38 ⟨"SeamPull$Panel", "<init>", "()V"⟩ "SeamPull", .fieldLinkNest "SeamPull" 261 "SeamPull$Search" "nearest" "[I" "SeamPull", .fieldLinkNest "SeamPull" 255 "SeamPull$Search" "fits" "Z" "SeamPull", .fieldLinkNest "SeamPull" 258 "SeamPull$Search" "leastOff" "I" "SeamPull", .methodLinkNest "SeamPull" 61 ⟨"SeamPull$Beforehand", "<init>", "()V"⟩ "SeamPull", .fieldLinkNest "SeamPull" 270 "SeamPull$Beforehand" "bends" "[I" "SeamPull", .methodLinkNest "SeamPull" 68 ⟨"SeamPull$Asks", "<init>", "()V"⟩ "SeamPull", .methodLinkNest "SeamPull" 75 ⟨"SeamPull$Plan", "<init>", "()V"⟩ "SeamPull", .fieldLinkNest "SeamPull$Search" 39 "SeamPull$Plan" "cells" "I" "SeamPull", .fieldLinkNest "SeamPull$Reader" 54 "SeamPull$Plan" "cells" "I" "SeamPull", .fieldLinkNest "SeamPull$Panel" 61 "SeamPull$Plan" "cells" "I" "SeamPull", .fieldLinkNest "SeamPull" 172 "SeamPull$Plan" "cells" "I" "SeamPull", .fieldLinkNest "SeamPull$Reader" 61 "SeamPull$Plan" "seams" "I" "SeamPull", .fieldLinkNest "SeamPull$Search" 52 "SeamPull$Plan" "seams" "I" "SeamPull", .fieldLinkNest "SeamPull$Panel" 68 "SeamPull$Plan" "seams" "I" "SeamPull", .fieldLinkNest "SeamPull" 210 "SeamPull$Plan" "seams" "I" "SeamPull", .fieldLinkNest "SeamPull$Reader" 74 "SeamPull$Plan" "acts" "I" "SeamPull", .fieldLinkNest "SeamPull" 154 "SeamPull$Plan" "acts" "I" "SeamPull", .fieldLinkNest "SeamPull$Reader" 81 "SeamPull$Plan" "befores" "I" "SeamPull", .fieldLinkNest "SeamPull" 332 "SeamPull$Plan" "befores" "I" "SeamPull", .fieldLinkNest "SeamPull$Panel" 88 "SeamPull$Plan" "actKind" "[I" "SeamPull", .fieldLinkNest "SeamPull" 186 "SeamPull$Plan" "actKind" "[I" "SeamPull", .fieldLinkNest "SeamPull$Panel" 85 "SeamPull$Plan" "actPlace" "[I" "SeamPull", .fieldLinkNest "SeamPull" 189 "SeamPull$Plan" "actPlace" "[I" "SeamPull", .fieldLinkNest "SeamPull$Panel" 95 "SeamPull$Plan" "actStrength" "[I" "SeamPull", .fieldLinkNest "SeamPull$Asks" 53 "SeamPull$Plan" "actStrength" "[I" "SeamPull", .fieldLinkNest "SeamPull" 195 "SeamPull$Plan" "actStrength" "[I" "SeamPull", .fieldLinkNest "SeamPull" 199 "SeamPull$Plan" "actSeam" "[I" "SeamPull", .fieldLinkNest "SeamPull$Beforehand" 29 "SeamPull" "BY_NUMBERS" "[I" "SeamPull"]
/-- what the tables say, at a state -/
def KS (G : GT) (U : State) : Prop := va_K (gD G) vwCl (ats G) U ∧ (∀ w ∈ nestW, va_Nw w U) ∧ (∀ i, i < 14 → vk_R "SeamPull$Tape" (txK.getD i 0) (txS.getD i "") (ga G (2000 + i)) U)
/-- the given statics, at a state and a heap -/
def KH (G : GT) (U : State) (H : Heap) : Prop := va_Z "SeamPull" "BY_NUMBERS" "[I" (.ref (ga G 1000)) (gA G) U H ∧ va_Z "SeamPull$Asks" "NEAREST" "[I" (.ref (ga G 1001)) (gA G) U H ∧ va_Z "SeamPull$Asks" "SIZE_BODY" "[I" (.ref (ga G 1002)) (gA G) U H ∧ va_Z "SeamPull$Asks" "MARK_BODY" "[I" (.ref (ga G 1003)) (gA G) U H ∧ va_Z "java/lang/String" "COMPACT_STRINGS" "Z" (.int 1) (gA G) U H ∧ vk_S 14 txL txB (fun i => ga G (2000 + i)) (fun i => ga G (2100 + i)) (gA G) U H ∧ va_Zq "jdk/internal/util/Preconditions" "SIOOBE_FORMATTER" "Ljava/util/function/BiFunction;" (gA G) U H
def KT (G : GT) (U : State) (H : Heap) : Prop := ∀ i, i < gt G → va_T .int (ga G (1000 + i)) (roT.getD i []).length (fun j => .int (roR i j)) (gA G) U H
/-- the given tables' rows stand in the memory -/
def ROk (G : GT) (μ : MT) : Prop := ∀ i, i < gt G → μ (1000 + i) = roR i
def DA (G : GT) : Prop := (∀ i j, i < gn G → j < gn G → ga G i = ga G j → i = j) ∧ (∀ k, k < gn G → gb G ≤ ga G k) ∧ gn G ≤ 900
/-- the kind that a class's field points to -/
def tgt (c j : Nat) : Nat := match c, j with
  | 0, 0 => 20
  | 1, 0 => 20
  | 1, 1 => 20
  | 2, 0 => 20
  | 2, 1 => 20
  | 2, 2 => 20
  | 2, 3 => 20
  | 2, 4 => 20
  | 2, 5 => 20
  | 3, 4 => 20
  | 3, 5 => 20
  | 3, 6 => 20
  | 3, 7 => 20
  | 3, 8 => 20
  | 3, 9 => 20
  | 4, 0 => 7
  | 5, 0 => 24
  | 5, 1 => 20
  | 5, 2 => 20
  | 5, 3 => 20
  | 6, 0 => 20
  | 6, 1 => 20
  | 6, 2 => 23
  | 7, 0 => 21
  | 8, 0 => 6
  | 8, 1 => 7
  | 8, 2 => 4
  | 8, 3 => 20
  | 8, 4 => 20
  | 8, 5 => 20
  | 8, 6 => 2
  | 8, 7 => 2
  | 8, 8 => 5
  | 8, 9 => 1
  | 8, 10 => 0
  | 8, 11 => 3
  | 8, 12 => 3
  | 9, 2 => 20
  | 9, 3 => 20
  | 9, 4 => 20
  | 9, 9 => 20
  | 9, 10 => 20
  | 9, 11 => 20
  | 9, 16 => 20
  | 9, 17 => 20
  | 9, 18 => 20
  | 9, 19 => 20
  | 9, 29 => 20
  | 9, 30 => 20
  | 9, 32 => 20
  | 9, 33 => 20
  | 9, 34 => 22
  | 9, 36 => 20
  | 9, 38 => 20
  | 9, 39 => 20
  | 9, 40 => 20
  | 9, 41 => 20
  | _, _ => 99
def WT (G : GT) (Z : ZT) : Prop := (∀ c j k, c < 20 → rk c j = 1 → j < nfl c → Ob G Z k c → Ob G Z (zr Z k j) (tgt c j)) ∧ (∀ k i, Ob G Z k 23 → i < zl Z k → Ob G Z (zr Z k i) 20) ∧ (∀ k i, Ob G Z k 24 → i < zl Z k → Ob G Z (zr Z k i) 2) ∧ (∀ i, i < gt G → zl Z (1000 + i) = (roT.getD i []).length) ∧ (∀ i, i < 4 → Oa G Z (1000 + i))
def CF (x : CX) (G : GT) (Z : ZT) (cc : ByteArray) (nL : Nat) (Ts : List Cond) (own : String) : Prop :=
  x.1.tables.exec = Jvm.exec ∧ (xc x).code = cc ∧ (xc x).maxLocals = nL ∧ (xs x).vm.findClass own = some (xm x).cls ∧ (∀ w ∈ Ts, w.before (xa x) (xs x) = true) ∧ KS G (xs x) ∧ KH G (xs x) (xs x).heap ∧ DA G ∧ WT G Z ∧ (xM x).locks = false ∧ KT G (xs x) (xs x).heap
def PW (G : GT) (Z : ZT) (μ : MT) (s : State) (H : Heap) (locs : List Loc) : Prop := va_P (gD G) vwCl (wd G Z μ) H ∧ va_S (gA G) s.heap H locs ∧ ROk G μ
def VK {α β : Type} (x : CX) (G : GT) (Z : ZT) (cs : Nat × Nat) (nL : Nat) (Q : Option Value → MT → State → Prop) (J : α → Option Value × MT) (pc : Nat) (lv : List (Nat × Value)) (st : List Value) (μ : MT) (o : Option β) (f : β → Option α) : Prop :=
  ∀ a, o.bind f = some a → ∀ (H : Heap) (locs : List Loc) (ls : Array Slot), PW G Z μ (xs x) H locs → lv_has ls nL lv → W x.1 x.2.1 x.2.2.1 (xR x) (xs x) (xm x) (xa x) (xb x) (xM x) (xc x) H locs cs.1 cs.2 (Q (J a).1 (J a).2) (F0 (xm x) pc ls st)
theorem DA.vd {G : GT} (h : DA G) (Z : ZT) (μ : MT) : va_D (gA G) (wd G Z μ) := by
  have key : ∀ (i : Nat) (q : Nat × va_E), (wd G Z μ)[i]? = some q → i < gn G ∧ q.1 = ga G i := by
    intro i q hi
    have hl : i < gn G := by
      have := (List.getElem?_eq_some_iff.mp hi).1
      simpa [wd] using this
    rw [wd_get hl] at hi
    cases hi
    exact ⟨hl, rfl⟩
  refine ⟨fun i j p q hi hj hpq => ?_, fun k q hk => ?_⟩
  · obtain ⟨h1, h2⟩ := key i p hi
    obtain ⟨h3, h4⟩ := key j q hj
    exact h.1 i j h1 h3 (by rw [← h2, ← h4]; exact hpq)
  · obtain ⟨h1, h2⟩ := key k q hk
    show gb G ≤ q.1
    rw [h2]
    exact h.2.1 k h1
theorem ROk.u2 {G : GT} {μ ν : MT} (h : ROk G μ) (ho : ∀ q, 1000 ≤ q → ν q = μ q) : ROk G ν := by
  intro i hi
  rw [ho (1000 + i) (by omega)]
  exact h i hi
theorem DA.ne {G : GT} {Z : ZT} (h : DA G) {k c : Nat} (hk : Ob G Z k c) : k ≠ 999 := by
  have h1 := hk.2
  have h2 := h.2.2
  omega
theorem ob_r {α : Type} (o : Option α) : o.bind some = o := by cases o <;> rfl
section VRULES
variable {α β γ : Type} {x : CX} {G : GT} {Z : ZT} {cs : Nat × Nat} {nL : Nat} {Q : Option Value → MT → State → Prop} {J : α → Option Value × MT} {pc : Nat} {lv : List (Nat × Value)} {st : List Value} {μ : MT} {o : Option β} {f : β → Option α} {cc : ByteArray} {Ts : List Cond} {own : String}
theorem v_enter {o : Option γ} {g : γ → Option β} (h : VK x G Z cs nL Q J pc lv st μ o (fun t => (g t).bind f)) : VK x G Z cs nL Q J pc lv st μ (o.bind g) f := by
  intro a ha
  refine h a ?_
  rw [Option.bind_assoc] at ha
  exact ha
theorem v_leaf {t : γ} {F : γ → Option α} (h : VK x G Z cs nL Q J pc lv st μ (F t) some) : VK x G Z cs nL Q J pc lv st μ (some t) F := by
  intro a ha
  exact h a (by rw [ob_r]; exact ha)
/-- what the rest is, by its value alone -/
theorem v_unb {o' : Option α} (h : VK x G Z cs nL Q J pc lv st μ o f) (e : o.bind f = o') : VK x G Z cs nL Q J pc lv st μ o' some := by
  intro a ha
  rw [ob_r] at ha
  exact h a (by rw [e]; exact ha)
theorem v_none {F : γ → Option α} : VK x G Z cs nL Q J pc lv st μ none F := by
  intro a ha
  cases ha
theorem v_case {c : Prop} [Decidable c] {o1 o2 : Option β} (h1 : c → VK x G Z cs nL Q J pc lv st μ o1 f) (h2 : ¬ c → VK x G Z cs nL Q J pc lv st μ o2 f) : VK x G Z cs nL Q J pc lv st μ (if c then o1 else o2) f := by
  by_cases h : c
  · rw [if_pos h]
    exact h1 h
  · rw [if_neg h]
    exact h2 h
theorem v_sub {lv' : List (Nat × Value)} (ks : List Nat) (hl : lv_pick lv ks = lv') (h : VK x G Z cs nL Q J pc lv' st μ o f) : VK x G Z cs nL Q J pc lv st μ o f :=
  fun a ha H locs ls hP hL => h a ha H locs ls hP (lv_sub hL ks hl)
/-- a value gets a name -/
theorem v_let {y : γ} {pc : Nat} {g : γ → Option β} (P : γ → List (Nat × Value)) (S : γ → List Value) (h : ∀ z, VK x G Z cs nL Q J pc (P z) (S z) μ (g z) f) : VK x G Z cs nL Q J pc (P y) (S y) μ ((some y).bind g) f := h y
theorem v_iconst (C : CF x G Z cc nL Ts own) {n : Int} {v : Int32} (hv : Int32.ofInt n = v) (hd : decode cc pc = .ok (.iconst n, 1))
    (k : VK x G Z cs nL Q J (pc + 1) lv (.int v :: st) μ o f) : VK x G Z cs nL Q J pc lv st μ o f :=
  fun a ha H locs ls hP hl => lv_iconst C.1 C.2.1 hd hv (k a ha H locs ls hP hl)
theorem v_bipush (C : CF x G Z cc nL Ts own) {n : Int} {v : Int32} (hv : (Int8.ofInt n).toInt32 = v) (hd : decode cc pc = .ok (.bipush n, 2))
    (k : VK x G Z cs nL Q J (pc + 2) lv (.int v :: st) μ o f) : VK x G Z cs nL Q J pc lv st μ o f :=
  fun a ha H locs ls hP hl => lv_bipush C.1 C.2.1 hd hv (k a ha H locs ls hP hl)
theorem v_sipush (C : CF x G Z cc nL Ts own) {n : Int} {v : Int32} (hv : (Int16.ofInt n).toInt32 = v) (hd : decode cc pc = .ok (.sipush n, 3))
    (k : VK x G Z cs nL Q J (pc + 3) lv (.int v :: st) μ o f) : VK x G Z cs nL Q J pc lv st μ o f :=
  fun a ha H locs ls hP hl => lv_sipush C.1 C.2.1 hd hv (k a ha H locs ls hP hl)
theorem v_lconst (C : CF x G Z cc nL Ts own) {n : Fin 2} {v : Int64} (hv : Int64.ofNat (n : Nat) = v) (hd : decode cc pc = .ok (.lconst n, 1))
    (k : VK x G Z cs nL Q J (pc + 1) lv (.long v :: st) μ o f) : VK x G Z cs nL Q J pc lv st μ o f :=
  fun a ha H locs ls hP hl => lv_lconst C.1 C.2.1 hd hv (k a ha H locs ls hP hl)
theorem v_ldc (C : CF x G Z cc nL Ts own) {index : Nat} {v : Int32} (hv : Cond.constant own index v ∈ Ts) (hd : decode cc pc = .ok (.ldc index, 2))
    (k : VK x G Z cs nL Q J (pc + 2) lv (.int v :: st) μ o f) : VK x G Z cs nL Q J pc lv st μ o f :=
  fun a ha H locs ls hP hl => lv_ldc C.1 C.2.1 C.2.2.2.1 (C.2.2.2.2.1 _ hv) hd (k a ha H locs ls hP hl)
theorem v_ldcw (C : CF x G Z cc nL Ts own) {index : Nat} {v : Int32} (hv : Cond.constant own index v ∈ Ts) (hd : decode cc pc = .ok (.ldc_w index, 3))
    (k : VK x G Z cs nL Q J (pc + 3) lv (.int v :: st) μ o f) : VK x G Z cs nL Q J pc lv st μ o f :=
  fun a ha H locs ls hP hl => lv_ldcw C.1 C.2.1 C.2.2.2.1 (C.2.2.2.2.1 _ hv) hd (k a ha H locs ls hP hl)
theorem v_ldc2 (C : CF x G Z cc nL Ts own) {index : Nat} {v : Int64} (hv : Cond.constantLong own index v ∈ Ts) (hd : decode cc pc = .ok (.ldc2_w index, 3))
    (k : VK x G Z cs nL Q J (pc + 3) lv (.long v :: st) μ o f) : VK x G Z cs nL Q J pc lv st μ o f :=
  fun a ha H locs ls hP hl => lv_ldc2 C.1 C.2.1 C.2.2.2.1 (C.2.2.2.2.1 _ hv) hd (k a ha H locs ls hP hl)
theorem v_iload_n (C : CF x G Z cc nL Ts own) {q : Fin 4} {i n : Nat} {y : Int32} (hi : (q : Nat) = i) (hy : lv[n]? = some (i, .int y)) (hd : decode cc pc = .ok (.iload_n q, 1))
    (k : VK x G Z cs nL Q J (pc + 1) lv (.int y :: st) μ o f) : VK x G Z cs nL Q J pc lv st μ o f :=
  fun a ha H locs ls hP hl => lv_iload_n C.1 C.2.1 hd hi (lv_at hl n hy) (k a ha H locs ls hP hl)
theorem v_iload (C : CF x G Z cc nL Ts own) {i n : Nat} {y : Int32} (hy : lv[n]? = some (i, .int y)) (hd : decode cc pc = .ok (.iload i, 2))
    (k : VK x G Z cs nL Q J (pc + 2) lv (.int y :: st) μ o f) : VK x G Z cs nL Q J pc lv st μ o f :=
  fun a ha H locs ls hP hl => lv_iload C.1 C.2.1 hd (lv_at hl n hy) (k a ha H locs ls hP hl)
theorem v_lload_n (C : CF x G Z cc nL Ts own) {q : Fin 4} {i n : Nat} {y : Int64} (hi : (q : Nat) = i) (hy : lv[n]? = some (i, .long y)) (hd : decode cc pc = .ok (.lload_n q, 1))
    (k : VK x G Z cs nL Q J (pc + 1) lv (.long y :: st) μ o f) : VK x G Z cs nL Q J pc lv st μ o f :=
  fun a ha H locs ls hP hl => lv_lload_n C.1 C.2.1 hd hi (lv_at hl n hy) (k a ha H locs ls hP hl)
theorem v_lload (C : CF x G Z cc nL Ts own) {i n : Nat} {y : Int64} (hy : lv[n]? = some (i, .long y)) (hd : decode cc pc = .ok (.lload i, 2))
    (k : VK x G Z cs nL Q J (pc + 2) lv (.long y :: st) μ o f) : VK x G Z cs nL Q J pc lv st μ o f :=
  fun a ha H locs ls hP hl => lv_lload C.1 C.2.1 hd (lv_at hl n hy) (k a ha H locs ls hP hl)
theorem v_aload_n (C : CF x G Z cc nL Ts own) {q : Fin 4} {i n : Nat} {y : Nat} (hi : (q : Nat) = i) (hy : lv[n]? = some (i, .ref y)) (hd : decode cc pc = .ok (.aload_n q, 1))
    (k : VK x G Z cs nL Q J (pc + 1) lv (.ref y :: st) μ o f) : VK x G Z cs nL Q J pc lv st μ o f :=
  fun a ha H locs ls hP hl => lv_aload_n C.1 C.2.1 hd hi (lv_at hl n hy) (k a ha H locs ls hP hl)
theorem v_aload (C : CF x G Z cc nL Ts own) {i n : Nat} {y : Nat} (hy : lv[n]? = some (i, .ref y)) (hd : decode cc pc = .ok (.aload i, 2))
    (k : VK x G Z cs nL Q J (pc + 2) lv (.ref y :: st) μ o f) : VK x G Z cs nL Q J pc lv st μ o f :=
  fun a ha H locs ls hP hl => lv_aload C.1 C.2.1 hd (lv_at hl n hy) (k a ha H locs ls hP hl)
theorem v_istore_n (C : CF x G Z cc nL Ts own) {q : Fin 4} {i : Nat} {y : Int32} {lv' : List (Nat × Value)} (hi : (q : Nat) = i) (hn : i < nL) (hv : (i, Value.int y) :: lv.filter (fun q => !(q.1 == i) && !(q.1 + 1 == i && q.2.category == 2)) = lv') (hd : decode cc pc = .ok (.istore_n q, 1))
    (k : VK x G Z cs nL Q J (pc + 1) lv' st μ o f) : VK x G Z cs nL Q J pc lv (.int y :: st) μ o f :=
  fun a ha H locs ls hP hl => lv_istore_n C.1 C.2.1 hd hi hl hn hv (fun ls hl => k a ha H locs ls hP hl)
theorem v_istore (C : CF x G Z cc nL Ts own) {i : Nat} {y : Int32} {lv' : List (Nat × Value)} (hn : i < nL) (hv : (i, Value.int y) :: lv.filter (fun q => !(q.1 == i) && !(q.1 + 1 == i && q.2.category == 2)) = lv') (hd : decode cc pc = .ok (.istore i, 2))
    (k : VK x G Z cs nL Q J (pc + 2) lv' st μ o f) : VK x G Z cs nL Q J pc lv (.int y :: st) μ o f :=
  fun a ha H locs ls hP hl => lv_istore C.1 C.2.1 hd hl hn hv (fun ls hl => k a ha H locs ls hP hl)
theorem v_lstore_n (C : CF x G Z cc nL Ts own) {q : Fin 4} {i : Nat} {y : Int64} {lv' : List (Nat × Value)} (hi : (q : Nat) = i) (hn : i + 1 < nL) (hv : (i, Value.long y) :: lv.filter (fun q => !(q.1 == i) && (!(q.1 == i + 1) && !(q.1 + 1 == i && q.2.category == 2))) = lv') (hd : decode cc pc = .ok (.lstore_n q, 1))
    (k : VK x G Z cs nL Q J (pc + 1) lv' st μ o f) : VK x G Z cs nL Q J pc lv (.long y :: st) μ o f :=
  fun a ha H locs ls hP hl => lv_lstore_n C.1 C.2.1 hd hi hl hn hv (fun ls hl => k a ha H locs ls hP hl)
theorem v_lstore (C : CF x G Z cc nL Ts own) {i : Nat} {y : Int64} {lv' : List (Nat × Value)} (hn : i + 1 < nL) (hv : (i, Value.long y) :: lv.filter (fun q => !(q.1 == i) && (!(q.1 == i + 1) && !(q.1 + 1 == i && q.2.category == 2))) = lv') (hd : decode cc pc = .ok (.lstore i, 2))
    (k : VK x G Z cs nL Q J (pc + 2) lv' st μ o f) : VK x G Z cs nL Q J pc lv (.long y :: st) μ o f :=
  fun a ha H locs ls hP hl => lv_lstore C.1 C.2.1 hd hl hn hv (fun ls hl => k a ha H locs ls hP hl)
theorem v_astore_n (C : CF x G Z cc nL Ts own) {q : Fin 4} {i : Nat} {y : Nat} {lv' : List (Nat × Value)} (hi : (q : Nat) = i) (hn : i < nL) (hv : (i, Value.ref y) :: lv.filter (fun q => !(q.1 == i) && !(q.1 + 1 == i && q.2.category == 2)) = lv') (hd : decode cc pc = .ok (.astore_n q, 1))
    (k : VK x G Z cs nL Q J (pc + 1) lv' st μ o f) : VK x G Z cs nL Q J pc lv (.ref y :: st) μ o f :=
  fun a ha H locs ls hP hl => lv_astore_n C.1 C.2.1 hd hi hl hn hv (fun ls hl => k a ha H locs ls hP hl)
theorem v_astore (C : CF x G Z cc nL Ts own) {i : Nat} {y : Nat} {lv' : List (Nat × Value)} (hn : i < nL) (hv : (i, Value.ref y) :: lv.filter (fun q => !(q.1 == i) && !(q.1 + 1 == i && q.2.category == 2)) = lv') (hd : decode cc pc = .ok (.astore i, 2))
    (k : VK x G Z cs nL Q J (pc + 2) lv' st μ o f) : VK x G Z cs nL Q J pc lv (.ref y :: st) μ o f :=
  fun a ha H locs ls hP hl => lv_astore C.1 C.2.1 hd hl hn hv (fun ls hl => k a ha H locs ls hP hl)
theorem v_iinc (C : CF x G Z cc nL Ts own) {i n : Nat} {z : Int} {y v : Int32} {lv' : List (Nat × Value)} (hy : lv[n]? = some (i, .int y)) (hz : y + Int32.ofInt z = v) (hn : i < nL) (hv : (i, Value.int v) :: lv.filter (fun q => !(q.1 == i) && !(q.1 + 1 == i && q.2.category == 2)) = lv') (hd : decode cc pc = .ok (.iinc i z, 3))
    (k : VK x G Z cs nL Q J (pc + 3) lv' st μ o f) : VK x G Z cs nL Q J pc lv st μ o f :=
  fun a ha H locs ls hP hl => lv_iinc C.1 C.2.1 hd hl hy hz hn hv (fun ls hl => k a ha H locs ls hP hl)
theorem v_iadd (C : CF x G Z cc nL Ts own) {y z : Int32} (hd : decode cc pc = .ok (.iadd, 1))
    (k : VK x G Z cs nL Q J (pc + 1) lv (.int (y + z) :: st) μ o f) : VK x G Z cs nL Q J pc lv (.int z :: .int y :: st) μ o f :=
  fun a ha H locs ls hP hl => lv_iadd C.1 C.2.1 hd (k a ha H locs ls hP hl)
theorem v_isub (C : CF x G Z cc nL Ts own) {y z : Int32} (hd : decode cc pc = .ok (.isub, 1))
    (k : VK x G Z cs nL Q J (pc + 1) lv (.int (y - z) :: st) μ o f) : VK x G Z cs nL Q J pc lv (.int z :: .int y :: st) μ o f :=
  fun a ha H locs ls hP hl => lv_isub C.1 C.2.1 hd (k a ha H locs ls hP hl)
theorem v_imul (C : CF x G Z cc nL Ts own) {y z : Int32} (hd : decode cc pc = .ok (.imul, 1))
    (k : VK x G Z cs nL Q J (pc + 1) lv (.int (y * z) :: st) μ o f) : VK x G Z cs nL Q J pc lv (.int z :: .int y :: st) μ o f :=
  fun a ha H locs ls hP hl => lv_imul C.1 C.2.1 hd (k a ha H locs ls hP hl)
theorem v_iand (C : CF x G Z cc nL Ts own) {y z : Int32} (hd : decode cc pc = .ok (.iand, 1))
    (k : VK x G Z cs nL Q J (pc + 1) lv (.int (y &&& z) :: st) μ o f) : VK x G Z cs nL Q J pc lv (.int z :: .int y :: st) μ o f :=
  fun a ha H locs ls hP hl => lv_iand C.1 C.2.1 hd (k a ha H locs ls hP hl)
theorem v_ior (C : CF x G Z cc nL Ts own) {y z : Int32} (hd : decode cc pc = .ok (.ior, 1))
    (k : VK x G Z cs nL Q J (pc + 1) lv (.int (y ||| z) :: st) μ o f) : VK x G Z cs nL Q J pc lv (.int z :: .int y :: st) μ o f :=
  fun a ha H locs ls hP hl => lv_ior C.1 C.2.1 hd (k a ha H locs ls hP hl)
theorem v_ixor (C : CF x G Z cc nL Ts own) {y z : Int32} (hd : decode cc pc = .ok (.ixor, 1))
    (k : VK x G Z cs nL Q J (pc + 1) lv (.int (y ^^^ z) :: st) μ o f) : VK x G Z cs nL Q J pc lv (.int z :: .int y :: st) μ o f :=
  fun a ha H locs ls hP hl => lv_ixor C.1 C.2.1 hd (k a ha H locs ls hP hl)
theorem v_ishl (C : CF x G Z cc nL Ts own) {y z : Int32} (hd : decode cc pc = .ok (.ishl, 1))
    (k : VK x G Z cs nL Q J (pc + 1) lv (.int (y <<< (z &&& 31)) :: st) μ o f) : VK x G Z cs nL Q J pc lv (.int z :: .int y :: st) μ o f :=
  fun a ha H locs ls hP hl => lv_ishl C.1 C.2.1 hd (k a ha H locs ls hP hl)
theorem v_ishr (C : CF x G Z cc nL Ts own) {y z : Int32} (hd : decode cc pc = .ok (.ishr, 1))
    (k : VK x G Z cs nL Q J (pc + 1) lv (.int (y >>> (z &&& 31)) :: st) μ o f) : VK x G Z cs nL Q J pc lv (.int z :: .int y :: st) μ o f :=
  fun a ha H locs ls hP hl => lv_ishr C.1 C.2.1 hd (k a ha H locs ls hP hl)
theorem v_iushr (C : CF x G Z cc nL Ts own) {y z v : Int32} (hv : (y.toUInt32 >>> (z.toUInt32 &&& Int32.toUInt32 31)).toInt32 = v) (hd : decode cc pc = .ok (.iushr, 1))
    (k : VK x G Z cs nL Q J (pc + 1) lv (.int v :: st) μ o f) : VK x G Z cs nL Q J pc lv (.int z :: .int y :: st) μ o f :=
  fun a ha H locs ls hP hl => lv_iushr C.1 C.2.1 hd hv (k a ha H locs ls hP hl)
theorem v_ladd (C : CF x G Z cc nL Ts own) {y z : Int64} (hd : decode cc pc = .ok (.ladd, 1))
    (k : VK x G Z cs nL Q J (pc + 1) lv (.long (y + z) :: st) μ o f) : VK x G Z cs nL Q J pc lv (.long z :: .long y :: st) μ o f :=
  fun a ha H locs ls hP hl => lv_ladd C.1 C.2.1 hd (k a ha H locs ls hP hl)
theorem v_lsub (C : CF x G Z cc nL Ts own) {y z : Int64} (hd : decode cc pc = .ok (.lsub, 1))
    (k : VK x G Z cs nL Q J (pc + 1) lv (.long (y - z) :: st) μ o f) : VK x G Z cs nL Q J pc lv (.long z :: .long y :: st) μ o f :=
  fun a ha H locs ls hP hl => lv_lsub C.1 C.2.1 hd (k a ha H locs ls hP hl)
theorem v_land (C : CF x G Z cc nL Ts own) {y z : Int64} (hd : decode cc pc = .ok (.land, 1))
    (k : VK x G Z cs nL Q J (pc + 1) lv (.long (y &&& z) :: st) μ o f) : VK x G Z cs nL Q J pc lv (.long z :: .long y :: st) μ o f :=
  fun a ha H locs ls hP hl => lv_land C.1 C.2.1 hd (k a ha H locs ls hP hl)
theorem v_lor (C : CF x G Z cc nL Ts own) {y z : Int64} (hd : decode cc pc = .ok (.lor, 1))
    (k : VK x G Z cs nL Q J (pc + 1) lv (.long (y ||| z) :: st) μ o f) : VK x G Z cs nL Q J pc lv (.long z :: .long y :: st) μ o f :=
  fun a ha H locs ls hP hl => lv_lor C.1 C.2.1 hd (k a ha H locs ls hP hl)
theorem v_lshl (C : CF x G Z cc nL Ts own) {y v : Int64} {z : Int32} (hv : y <<< (z.toInt64 &&& 63) = v) (hd : decode cc pc = .ok (.lshl, 1))
    (k : VK x G Z cs nL Q J (pc + 1) lv (.long v :: st) μ o f) : VK x G Z cs nL Q J pc lv (.int z :: .long y :: st) μ o f :=
  fun a ha H locs ls hP hl => lv_lshl C.1 C.2.1 hd hv (k a ha H locs ls hP hl)
theorem v_lshr (C : CF x G Z cc nL Ts own) {y v : Int64} {z : Int32} (hv : y >>> (z.toInt64 &&& 63) = v) (hd : decode cc pc = .ok (.lshr, 1))
    (k : VK x G Z cs nL Q J (pc + 1) lv (.long v :: st) μ o f) : VK x G Z cs nL Q J pc lv (.int z :: .long y :: st) μ o f :=
  fun a ha H locs ls hP hl => lv_lshr C.1 C.2.1 hd hv (k a ha H locs ls hP hl)
theorem v_lcmp (C : CF x G Z cc nL Ts own) {y z : Int64} (hd : decode cc pc = .ok (.lcmp, 1))
    (k : VK x G Z cs nL Q J (pc + 1) lv (.int (lg_cmp y z) :: st) μ o f) : VK x G Z cs nL Q J pc lv (.long z :: .long y :: st) μ o f :=
  fun a ha H locs ls hP hl => W.lcmp C.1 C.2.1 hd (k a ha H locs ls hP hl)
theorem v_ineg (C : CF x G Z cc nL Ts own) {y : Int32} (hd : decode cc pc = .ok (.ineg, 1))
    (k : VK x G Z cs nL Q J (pc + 1) lv (.int (-y) :: st) μ o f) : VK x G Z cs nL Q J pc lv (.int y :: st) μ o f :=
  fun a ha H locs ls hP hl => lv_ineg C.1 C.2.1 hd (k a ha H locs ls hP hl)
theorem v_i2l (C : CF x G Z cc nL Ts own) {y : Int32} {v : Int64} (hv : y.toInt64 = v) (hd : decode cc pc = .ok (.i2l, 1))
    (k : VK x G Z cs nL Q J (pc + 1) lv (.long v :: st) μ o f) : VK x G Z cs nL Q J pc lv (.int y :: st) μ o f :=
  fun a ha H locs ls hP hl => lv_i2l C.1 C.2.1 hd hv (k a ha H locs ls hP hl)
theorem v_l2i (C : CF x G Z cc nL Ts own) {y : Int64} {v : Int32} (hv : y.toInt32 = v) (hd : decode cc pc = .ok (.l2i, 1))
    (k : VK x G Z cs nL Q J (pc + 1) lv (.int v :: st) μ o f) : VK x G Z cs nL Q J pc lv (.long y :: st) μ o f :=
  fun a ha H locs ls hP hl => lv_l2i C.1 C.2.1 hd hv (k a ha H locs ls hP hl)
theorem v_i2b (C : CF x G Z cc nL Ts own) {y v : Int32} (hv : y.toInt8.toInt32 = v) (hd : decode cc pc = .ok (.i2b, 1))
    (k : VK x G Z cs nL Q J (pc + 1) lv (.int v :: st) μ o f) : VK x G Z cs nL Q J pc lv (.int y :: st) μ o f :=
  fun a ha H locs ls hP hl => lv_i2b C.1 C.2.1 hd hv (k a ha H locs ls hP hl)
theorem v_i2s (C : CF x G Z cc nL Ts own) {y v : Int32} (hv : y.toInt16.toInt32 = v) (hd : decode cc pc = .ok (.i2s, 1))
    (k : VK x G Z cs nL Q J (pc + 1) lv (.int v :: st) μ o f) : VK x G Z cs nL Q J pc lv (.int y :: st) μ o f :=
  fun a ha H locs ls hP hl => lv_i2s C.1 C.2.1 hd hv (k a ha H locs ls hP hl)
theorem v_dup (C : CF x G Z cc nL Ts own) {v : Value} (hv : v.category = 1) (hd : decode cc pc = .ok (.dup, 1))
    (k : VK x G Z cs nL Q J (pc + 1) lv (v :: v :: st) μ o f) : VK x G Z cs nL Q J pc lv (v :: st) μ o f :=
  fun a ha H locs ls hP hl => lv_dup C.1 C.2.1 hd hv (k a ha H locs ls hP hl)
theorem v_dup2 (C : CF x G Z cc nL Ts own) {v w : Value} (hv : v.category = 1) (hw : w.category = 1) (hd : decode cc pc = .ok (.dup2, 1))
    (k : VK x G Z cs nL Q J (pc + 1) lv (v :: w :: v :: w :: st) μ o f) : VK x G Z cs nL Q J pc lv (v :: w :: st) μ o f :=
  fun a ha H locs ls hP hl => lv_dup2_11 C.1 C.2.1 hd hv hw (k a ha H locs ls hP hl)
theorem v_dupx1 (C : CF x G Z cc nL Ts own) {v w : Value} (hv : v.category = 1) (hw : w.category = 1) (hd : decode cc pc = .ok (.dup_x1, 1))
    (k : VK x G Z cs nL Q J (pc + 1) lv (v :: w :: v :: st) μ o f) : VK x G Z cs nL Q J pc lv (v :: w :: st) μ o f :=
  fun a ha H locs ls hP hl => lv_dup_x1 C.1 C.2.1 hd hv hw (k a ha H locs ls hP hl)
theorem v_pop (C : CF x G Z cc nL Ts own) {v : Value} (hv : v.category = 1) (hd : decode cc pc = .ok (.pop, 1))
    (k : VK x G Z cs nL Q J (pc + 1) lv st μ o f) : VK x G Z cs nL Q J pc lv (v :: st) μ o f :=
  fun a ha H locs ls hP hl => lv_pop C.1 C.2.1 hd hv (k a ha H locs ls hP hl)
theorem v_goto (C : CF x G Z cc nL Ts own) {off : Int} {t : Nat} (ht : (pc : Int) + off = (t : Int)) (hd : decode cc pc = .ok (.goto off, 3))
    (k : VK x G Z cs nL Q J t lv st μ o f) : VK x G Z cs nL Q J pc lv st μ o f :=
  fun a ha H locs ls hP hl => lv_goto C.1 C.2.1 hd ht (k a ha H locs ls hP hl)
theorem v_ifeq (C : CF x G Z cc nL Ts own) {y : Int32} {off : Int} {t : Nat} {o1 o2 : Option β} (hd : decode cc pc = .ok (.ifCond .eq off, 3)) (ht : (pc : Int) + off = (t : Int))
    (k1 : VK x G Z cs nL Q J t lv st μ o1 f) (k2 : VK x G Z cs nL Q J (pc + 3) lv st μ o2 f) : VK x G Z cs nL Q J pc lv (.int y :: st) μ (if y = 0 then o1 else o2) f :=
  fun a ha H locs ls hP hl => lv_if_eq C.1 C.2.1 hd ht (fun c => k1 a (by rw [if_pos c] at ha; exact ha) H locs ls hP hl) (fun c => k2 a (by rw [if_neg c] at ha; exact ha) H locs ls hP hl)
theorem v_iceq (C : CF x G Z cc nL Ts own) {y z : Int32} {off : Int} {t : Nat} {o1 o2 : Option β} (hd : decode cc pc = .ok (.if_icmp .eq off, 3)) (ht : (pc : Int) + off = (t : Int))
    (k1 : VK x G Z cs nL Q J t lv st μ o1 f) (k2 : VK x G Z cs nL Q J (pc + 3) lv st μ o2 f) : VK x G Z cs nL Q J pc lv (.int z :: .int y :: st) μ (if y = z then o1 else o2) f :=
  fun a ha H locs ls hP hl => lv_icmp_eq C.1 C.2.1 hd ht (fun c => k1 a (by rw [if_pos c] at ha; exact ha) H locs ls hP hl) (fun c => k2 a (by rw [if_neg c] at ha; exact ha) H locs ls hP hl)
theorem v_ifne (C : CF x G Z cc nL Ts own) {y : Int32} {off : Int} {t : Nat} {o1 o2 : Option β} (hd : decode cc pc = .ok (.ifCond .ne off, 3)) (ht : (pc : Int) + off = (t : Int))
    (k1 : VK x G Z cs nL Q J t lv st μ o1 f) (k2 : VK x G Z cs nL Q J (pc + 3) lv st μ o2 f) : VK x G Z cs nL Q J pc lv (.int y :: st) μ (if y = 0 then o2 else o1) f :=
  fun a ha H locs ls hP hl => lv_if_ne C.1 C.2.1 hd ht (fun c => k1 a (by rw [if_neg c] at ha; exact ha) H locs ls hP hl) (fun c => k2 a (by rw [if_pos c] at ha; exact ha) H locs ls hP hl)
theorem v_icne (C : CF x G Z cc nL Ts own) {y z : Int32} {off : Int} {t : Nat} {o1 o2 : Option β} (hd : decode cc pc = .ok (.if_icmp .ne off, 3)) (ht : (pc : Int) + off = (t : Int))
    (k1 : VK x G Z cs nL Q J t lv st μ o1 f) (k2 : VK x G Z cs nL Q J (pc + 3) lv st μ o2 f) : VK x G Z cs nL Q J pc lv (.int z :: .int y :: st) μ (if y = z then o2 else o1) f :=
  fun a ha H locs ls hP hl => lv_icmp_ne C.1 C.2.1 hd ht (fun c => k1 a (by rw [if_neg c] at ha; exact ha) H locs ls hP hl) (fun c => k2 a (by rw [if_pos c] at ha; exact ha) H locs ls hP hl)
theorem v_iflt (C : CF x G Z cc nL Ts own) {y : Int32} {off : Int} {t : Nat} {o1 o2 : Option β} (hd : decode cc pc = .ok (.ifCond .lt off, 3)) (ht : (pc : Int) + off = (t : Int))
    (k1 : VK x G Z cs nL Q J t lv st μ o1 f) (k2 : VK x G Z cs nL Q J (pc + 3) lv st μ o2 f) : VK x G Z cs nL Q J pc lv (.int y :: st) μ (if y < 0 then o1 else o2) f :=
  fun a ha H locs ls hP hl => lv_if_lt C.1 C.2.1 hd ht (fun c => k1 a (by rw [if_pos c] at ha; exact ha) H locs ls hP hl) (fun c => k2 a (by rw [if_neg c] at ha; exact ha) H locs ls hP hl)
theorem v_iclt (C : CF x G Z cc nL Ts own) {y z : Int32} {off : Int} {t : Nat} {o1 o2 : Option β} (hd : decode cc pc = .ok (.if_icmp .lt off, 3)) (ht : (pc : Int) + off = (t : Int))
    (k1 : VK x G Z cs nL Q J t lv st μ o1 f) (k2 : VK x G Z cs nL Q J (pc + 3) lv st μ o2 f) : VK x G Z cs nL Q J pc lv (.int z :: .int y :: st) μ (if y < z then o1 else o2) f :=
  fun a ha H locs ls hP hl => lv_icmp_lt C.1 C.2.1 hd ht (fun c => k1 a (by rw [if_pos c] at ha; exact ha) H locs ls hP hl) (fun c => k2 a (by rw [if_neg c] at ha; exact ha) H locs ls hP hl)
theorem v_ifge (C : CF x G Z cc nL Ts own) {y : Int32} {off : Int} {t : Nat} {o1 o2 : Option β} (hd : decode cc pc = .ok (.ifCond .ge off, 3)) (ht : (pc : Int) + off = (t : Int))
    (k1 : VK x G Z cs nL Q J t lv st μ o1 f) (k2 : VK x G Z cs nL Q J (pc + 3) lv st μ o2 f) : VK x G Z cs nL Q J pc lv (.int y :: st) μ (if 0 ≤ y then o1 else o2) f :=
  fun a ha H locs ls hP hl => lv_if_ge C.1 C.2.1 hd ht (fun c => k1 a (by rw [if_pos c] at ha; exact ha) H locs ls hP hl) (fun c => k2 a (by rw [if_neg c] at ha; exact ha) H locs ls hP hl)
theorem v_icge (C : CF x G Z cc nL Ts own) {y z : Int32} {off : Int} {t : Nat} {o1 o2 : Option β} (hd : decode cc pc = .ok (.if_icmp .ge off, 3)) (ht : (pc : Int) + off = (t : Int))
    (k1 : VK x G Z cs nL Q J t lv st μ o1 f) (k2 : VK x G Z cs nL Q J (pc + 3) lv st μ o2 f) : VK x G Z cs nL Q J pc lv (.int z :: .int y :: st) μ (if z ≤ y then o1 else o2) f :=
  fun a ha H locs ls hP hl => lv_icmp_ge C.1 C.2.1 hd ht (fun c => k1 a (by rw [if_pos c] at ha; exact ha) H locs ls hP hl) (fun c => k2 a (by rw [if_neg c] at ha; exact ha) H locs ls hP hl)
theorem v_ifgt (C : CF x G Z cc nL Ts own) {y : Int32} {off : Int} {t : Nat} {o1 o2 : Option β} (hd : decode cc pc = .ok (.ifCond .gt off, 3)) (ht : (pc : Int) + off = (t : Int))
    (k1 : VK x G Z cs nL Q J t lv st μ o1 f) (k2 : VK x G Z cs nL Q J (pc + 3) lv st μ o2 f) : VK x G Z cs nL Q J pc lv (.int y :: st) μ (if 0 < y then o1 else o2) f :=
  fun a ha H locs ls hP hl => lv_if_gt C.1 C.2.1 hd ht (fun c => k1 a (by rw [if_pos c] at ha; exact ha) H locs ls hP hl) (fun c => k2 a (by rw [if_neg c] at ha; exact ha) H locs ls hP hl)
theorem v_icgt (C : CF x G Z cc nL Ts own) {y z : Int32} {off : Int} {t : Nat} {o1 o2 : Option β} (hd : decode cc pc = .ok (.if_icmp .gt off, 3)) (ht : (pc : Int) + off = (t : Int))
    (k1 : VK x G Z cs nL Q J t lv st μ o1 f) (k2 : VK x G Z cs nL Q J (pc + 3) lv st μ o2 f) : VK x G Z cs nL Q J pc lv (.int z :: .int y :: st) μ (if z < y then o1 else o2) f :=
  fun a ha H locs ls hP hl => lv_icmp_gt C.1 C.2.1 hd ht (fun c => k1 a (by rw [if_pos c] at ha; exact ha) H locs ls hP hl) (fun c => k2 a (by rw [if_neg c] at ha; exact ha) H locs ls hP hl)
theorem v_ifle (C : CF x G Z cc nL Ts own) {y : Int32} {off : Int} {t : Nat} {o1 o2 : Option β} (hd : decode cc pc = .ok (.ifCond .le off, 3)) (ht : (pc : Int) + off = (t : Int))
    (k1 : VK x G Z cs nL Q J t lv st μ o1 f) (k2 : VK x G Z cs nL Q J (pc + 3) lv st μ o2 f) : VK x G Z cs nL Q J pc lv (.int y :: st) μ (if y ≤ 0 then o1 else o2) f :=
  fun a ha H locs ls hP hl => lv_if_le C.1 C.2.1 hd ht (fun c => k1 a (by rw [if_pos c] at ha; exact ha) H locs ls hP hl) (fun c => k2 a (by rw [if_neg c] at ha; exact ha) H locs ls hP hl)
theorem v_icle (C : CF x G Z cc nL Ts own) {y z : Int32} {off : Int} {t : Nat} {o1 o2 : Option β} (hd : decode cc pc = .ok (.if_icmp .le off, 3)) (ht : (pc : Int) + off = (t : Int))
    (k1 : VK x G Z cs nL Q J t lv st μ o1 f) (k2 : VK x G Z cs nL Q J (pc + 3) lv st μ o2 f) : VK x G Z cs nL Q J pc lv (.int z :: .int y :: st) μ (if y ≤ z then o1 else o2) f :=
  fun a ha H locs ls hP hl => lv_icmp_le C.1 C.2.1 hd ht (fun c => k1 a (by rw [if_pos c] at ha; exact ha) H locs ls hP hl) (fun c => k2 a (by rw [if_neg c] at ha; exact ha) H locs ls hP hl)
theorem v_idiv (C : CF x G Z cc nL Ts own) {y z : Int32} {g : Int32 → Option β} (hd : decode cc pc = .ok (.idiv, 1)) (k : ∀ v, VK x G Z cs nL Q J (pc + 1) lv (.int v :: st) μ (g v) f) : VK x G Z cs nL Q J pc lv (.int z :: .int y :: st) μ ((idv y z).bind g) f := by
  intro a ha H locs ls hP hl
  unfold idv at ha
  by_cases hz : z = 0
  · rw [if_pos hz] at ha
    cases ha
  · rw [if_neg hz] at ha
    exact lv_idiv C.1 C.2.1 hd hz (k _ a ha H locs ls hP hl)
theorem v_irem (C : CF x G Z cc nL Ts own) {y z : Int32} {g : Int32 → Option β} (hd : decode cc pc = .ok (.irem, 1)) (k : ∀ v, VK x G Z cs nL Q J (pc + 1) lv (.int v :: st) μ (g v) f) : VK x G Z cs nL Q J pc lv (.int z :: .int y :: st) μ ((irm y z).bind g) f := by
  intro a ha H locs ls hP hl
  unfold irm at ha
  by_cases hz : z = 0
  · rw [if_pos hz] at ha
    cases ha
  · rw [if_neg hz] at ha
    exact lv_irem C.1 C.2.1 hd hz (k _ a ha H locs ls hP hl)
theorem inb_vp {i : Int32} {n : Nat} : inb i n = true ↔ vp_in i n := by
  unfold inb vp_in
  simp
theorem ald_iff {Z : ZT} {μ : MT} {k : Nat} {i : Int32} {g : Int32 → Option γ} {a : γ} (h : (ald Z μ k i).bind g = some a) : vp_in i (zl Z k) ∧ g (μ k i.toNatClampNeg) = some a := by
  unfold ald at h
  by_cases hi : inb i (zl Z k) = true
  · rw [if_pos hi] at h
    exact ⟨inb_vp.mp hi, h⟩
  · rw [if_neg hi] at h
    cases h
theorem ast_iff {Z : ZT} {μ : MT} {k : Nat} {i v : Int32} {g : MT → Option γ} {a : γ} (h : (ast Z μ k i v).bind g = some a) : vp_in i (zl Z k) ∧ g (u2 μ k i.toNatClampNeg v) = some a := by
  unfold ast at h
  by_cases hi : inb i (zl Z k) = true
  · rw [if_pos hi] at h
    exact ⟨inb_vp.mp hi, h⟩
  · rw [if_neg hi] at h
    cases h
theorem ard_iff {Z : ZT} {k : Nat} {i : Int32} {g : Nat → Option γ} {a : γ} (h : (ard Z k i).bind g = some a) : vp_in i (zl Z k) ∧ g (zr Z k i.toNatClampNeg) = some a := by
  unfold ard at h
  by_cases hi : inb i (zl Z k) = true
  · rw [if_pos hi] at h
    exact ⟨inb_vp.mp hi, h⟩
  · rw [if_neg hi] at h
    cases h
theorem v_iald (C : CF x G Z cc nL Ts own) {k : Nat} {i : Int32} {g : Int32 → Option β} (hk : Oa G Z k) (hd : decode cc pc = .ok (.iaload, 1)) (kk : ∀ v, VK x G Z cs nL Q J (pc + 1) lv (.int v :: st) μ (g v) f) : VK x G Z cs nL Q J pc lv (.int i :: .ref (ga G k) :: st) μ ((ald Z μ k i).bind g) f := by
  intro a ha H locs ls hP hl
  rw [Option.bind_assoc] at ha
  obtain ⟨hi, ha⟩ := ald_iff ha
  obtain ⟨hkk, hk | ⟨h1, h2⟩⟩ := hk
  · exact va_iald C.1 C.2.1 C.2.2.2.2.2.1.1 hP.1 k 0 (by rw [wd_get hk, ce_arr hkk (by decide) (by decide)]) rfl hi hd (kk _ a ha H locs ls hP hl)
  · have hT := C.2.2.2.2.2.2.2.2.2.2 (k - 1000) (by omega)
    have hr := hP.2.2 (k - 1000) (by omega)
    have hL := C.2.2.2.2.2.2.2.2.1.2.2.2.1 (k - 1000) (by omega)
    rw [show 1000 + (k - 1000) = k by omega] at hT hr hL
    exact va_ti C.1 C.2.1 hT hP.2.1 (by rw [← hL]; exact hi) (v := .int (μ k i.toNatClampNeg)) (by rw [hr]) hd (kk _ a ha H locs ls hP hl)
theorem v_bald (C : CF x G Z cc nL Ts own) {k : Nat} {i : Int32} {g : Int32 → Option β} (hk : Ob G Z k 21) (hd : decode cc pc = .ok (.baload, 1)) (kk : ∀ v, VK x G Z cs nL Q J (pc + 1) lv (.int v :: st) μ (g v) f) : VK x G Z cs nL Q J pc lv (.int i :: .ref (ga G k) :: st) μ ((ald Z μ k i).bind g) f := by
  intro a ha H locs ls hP hl
  rw [Option.bind_assoc] at ha
  obtain ⟨hi, ha⟩ := ald_iff ha
  exact va_bald C.1 C.2.1 C.2.2.2.2.2.1.1 hP.1 k 1 (by rw [wd_get hk.2, ce_arr hk.1 (by decide) (by decide)]) rfl hi hd (kk _ a ha H locs ls hP hl)
theorem v_zald (C : CF x G Z cc nL Ts own) {k : Nat} {i : Int32} {g : Int32 → Option β} (hk : Ob G Z k 22) (hd : decode cc pc = .ok (.baload, 1)) (kk : ∀ v, VK x G Z cs nL Q J (pc + 1) lv (.int v :: st) μ (g v) f) : VK x G Z cs nL Q J pc lv (.int i :: .ref (ga G k) :: st) μ ((ald Z μ k i).bind g) f := by
  intro a ha H locs ls hP hl
  rw [Option.bind_assoc] at ha
  obtain ⟨hi, ha⟩ := ald_iff ha
  exact va_zald C.1 C.2.1 C.2.2.2.2.2.1.1 hP.1 k 2 (by rw [wd_get hk.2, ce_arr hk.1 (by decide) (by decide)]) rfl hi hd (kk _ a ha H locs ls hP hl)
theorem v_aald (C : CF x G Z cc nL Ts own) {k : Nat} {i : Int32} {g : Nat → Option β} (hk : Ob G Z k 24) (hd : decode cc pc = .ok (.aaload, 1)) (kk : ∀ v, Ob G Z v 2 → VK x G Z cs nL Q J (pc + 1) lv (.ref (ga G v) :: st) μ (g v) f) : VK x G Z cs nL Q J pc lv (.int i :: .ref (ga G k) :: st) μ ((ard Z k i).bind g) f := by
  intro a ha H locs ls hP hl
  rw [Option.bind_assoc] at ha
  obtain ⟨hi, ha⟩ := ard_iff ha
  have hlt : i.toNatClampNeg < zl Z k := Nat.not_le.mp fun q => hi (Or.inr q)
  have ho := C.2.2.2.2.2.2.2.2.1.2.2.1 k _ hk hlt
  exact va_aldq (f := fun j => rfo G (zr Z k j)) C.1 C.2.1 C.2.2.2.2.2.1.1 hP.1 k 4 (by rw [wd_get hk.2, ce_ref hk.1 (by decide)]) rfl hi hd (by rw [rfo_r (DA.ne C.2.2.2.2.2.2.2.1 ho)]; exact kk _ ho a ha H locs ls hP hl)
theorem v_aaldI (C : CF x G Z cc nL Ts own) {k : Nat} {i : Int32} {g : Nat → Option β} (hk : Ob G Z k 23) (hd : decode cc pc = .ok (.aaload, 1)) (kk : ∀ v, Ob G Z v 20 → VK x G Z cs nL Q J (pc + 1) lv (.ref (ga G v) :: st) μ (g v) f) : VK x G Z cs nL Q J pc lv (.int i :: .ref (ga G k) :: st) μ ((ard Z k i).bind g) f := by
  intro a ha H locs ls hP hl
  rw [Option.bind_assoc] at ha
  obtain ⟨hi, ha⟩ := ard_iff ha
  have hlt : i.toNatClampNeg < zl Z k := Nat.not_le.mp fun q => hi (Or.inr q)
  have hw : va_at (gD G) vwCl (ga G k, .inl (gc G 23, zl Z k, .inr (.inr (.inr (.inr (fun j => rfo G (zr Z k j)))))) ) H := hP.1 k _ (by rw [wd_get hk.2, ce_ref hk.1 (by decide)])
  have ho := C.2.2.2.2.2.2.2.2.1.2.1 k _ hk hlt
  exact W.aald (v := .ref (ga G (zr Z k i.toNatClampNeg))) (ty := .array .int) C.1 C.2.1 hw ((C.2.2.2.2.2.1.1.2 3 _ rfl).1 (zl Z k) (fun j => va_rf (rfo G (zr Z k j)))) rfl (fun q => by cases q) (by show ¬ (i < 0 ∨ (arrV _ _ _).slots.size ≤ _); rw [arrV_size]; exact hi) (by show (arrV _ _ _).slots[_]? = _; rw [arrV_read _ _ hlt]; show some (va_rf (rfo G (zr Z k i.toNatClampNeg))) = _; rw [rfo_r (DA.ne C.2.2.2.2.2.2.2.1 ho)]; rfl) rfl rfl hd (kk _ ho a ha H locs ls hP hl)
theorem v_iast (C : CF x G Z cc nL Ts own) {k : Nat} {i v : Int32} {g : MT → Option β} (hk : Ob G Z k 20) (hd : decode cc pc = .ok (.iastore, 1)) (kk : ∀ ν, VK x G Z cs nL Q J (pc + 1) lv st ν (g ν) f) : VK x G Z cs nL Q J pc lv (.int v :: .int i :: .ref (ga G k) :: st) μ ((ast Z μ k i v).bind g) f := by
  intro a ha H locs ls hP hl
  rw [Option.bind_assoc] at ha
  obtain ⟨hi, ha⟩ := ast_iff ha
  have hG := C.2.2.2.2.2.2.2.1
  refine va_iast C.1 C.2.1 C.2.2.2.2.2.1.1 hP.1 (hG.vd Z μ) hP.2.1 k 0 (by rw [wd_get hk.2, ce_arr hk.1 (by decide) (by decide)]) rfl hi hd (fun H1 locs1 hP1 _ hS1 => ?_)
  have e := wd_set (ν := u2 μ k i.toNatClampNeg v) hk.2 (by rw [ce_arr hk.1 (by decide) (by decide), u2_s]) (fun q hq => u2_n hq)
  rw [e] at hP1
  exact kk _ a ha H1 locs1 ls ⟨hP1, hS1, hP.2.2.u2 (fun q hq => u2_n (by have := hk.2; have := hG.2.2; omega))⟩ hl
theorem v_bast (C : CF x G Z cc nL Ts own) {k : Nat} {i v : Int32} {g : MT → Option β} (hk : Ob G Z k 21) (hd : decode cc pc = .ok (.bastore, 1)) (kk : ∀ ν, VK x G Z cs nL Q J (pc + 1) lv st ν (g ν) f) : VK x G Z cs nL Q J pc lv (.int v :: .int i :: .ref (ga G k) :: st) μ ((ast Z μ k i (vp_nar .byte v)).bind g) f := by
  intro a ha H locs ls hP hl
  rw [Option.bind_assoc] at ha
  obtain ⟨hi, ha⟩ := ast_iff ha
  have hG := C.2.2.2.2.2.2.2.1
  refine va_bast C.1 C.2.1 C.2.2.2.2.2.1.1 hP.1 (hG.vd Z μ) hP.2.1 k 1 (by rw [wd_get hk.2, ce_arr hk.1 (by decide) (by decide)]) rfl hi hd (fun H1 locs1 hP1 _ hS1 => ?_)
  have e := wd_set (ν := u2 μ k i.toNatClampNeg (vp_nar .byte v)) hk.2 (by rw [ce_arr hk.1 (by decide) (by decide), u2_s]) (fun q hq => u2_n hq)
  rw [e] at hP1
  exact kk _ a ha H1 locs1 ls ⟨hP1, hS1, hP.2.2.u2 (fun q hq => u2_n (by have := hk.2; have := hG.2.2; omega))⟩ hl
theorem v_zast (C : CF x G Z cc nL Ts own) {k : Nat} {i v : Int32} {g : MT → Option β} (hk : Ob G Z k 22) (hd : decode cc pc = .ok (.bastore, 1)) (kk : ∀ ν, VK x G Z cs nL Q J (pc + 1) lv st ν (g ν) f) : VK x G Z cs nL Q J pc lv (.int v :: .int i :: .ref (ga G k) :: st) μ ((ast Z μ k i (vp_nar .boolean v)).bind g) f := by
  intro a ha H locs ls hP hl
  rw [Option.bind_assoc] at ha
  obtain ⟨hi, ha⟩ := ast_iff ha
  have hG := C.2.2.2.2.2.2.2.1
  refine va_zast C.1 C.2.1 C.2.2.2.2.2.1.1 hP.1 (hG.vd Z μ) hP.2.1 k 2 (by rw [wd_get hk.2, ce_arr hk.1 (by decide) (by decide)]) rfl hi hd (fun H1 locs1 hP1 _ hS1 => ?_)
  have e := wd_set (ν := u2 μ k i.toNatClampNeg (vp_nar .boolean v)) hk.2 (by rw [ce_arr hk.1 (by decide) (by decide), u2_s]) (fun q hq => u2_n hq)
  rw [e] at hP1
  exact kk _ a ha H1 locs1 ls ⟨hP1, hS1, hP.2.2.u2 (fun q hq => u2_n (by have := hk.2; have := hG.2.2; omega))⟩ hl
theorem v_alen (C : CF x G Z cc nL Ts own) {k : Nat} (hk : Ob G Z k 20) (hd : decode cc pc = .ok (.arraylength, 1)) (kk : VK x G Z cs nL Q J (pc + 1) lv (.int (Int32.ofNat (zl Z k)) :: st) μ o f) : VK x G Z cs nL Q J pc lv (.ref (ga G k) :: st) μ o f :=
  fun a ha H locs ls hP hl => va_alen C.1 C.2.1 C.2.2.2.2.2.1.1 hP.1 k 0 (by rw [wd_get hk.2, ce_arr hk.1 (by decide) (by decide)]) rfl rfl hd (kk a ha H locs ls hP hl)
/-- a field: its class's table, its link -/
def FLk (Ts : List Cond) (own : String) (index c j : Nat) : Prop := ∃ (N : String) (T : u_T) (n : Nat), vwCl[c]? = some (N, T, n) ∧ j < n ∧ (∀ w ∈ u_ws N T n, w ∈ Ts) ∧ c < 20 ∧ Cond.fieldLink own index (T j).1 (T j).2.1 (T j).2.2.1 ∈ Ts
/-- a nest mate's field -/
def FLn (Ts : List Cond) (own : String) (index c j : Nat) : Prop := ∃ (N : String) (T : u_T) (n : Nat) (host : String), vwCl[c]? = some (N, T, n) ∧ j < n ∧ (∀ w ∈ u_ws N T n, w ∈ Ts) ∧ c < 20 ∧ Cond.fieldLinkNest own index (T j).1 (T j).2.1 (T j).2.2.1 host ∈ nestW
theorem nfl_of {c n : Nat} {N : String} {T : u_T} (h : vwCl[c]? = some (N, T, n)) : nfl c = n := by
  unfold nfl
  rw [h]
theorem v_get (C : CF x G Z cc nL Ts own) {k c j index : Nat} (hF : FLk Ts own index c j) (hk : Ob G Z k c) (hd : decode cc pc = .ok (.getfield index, 3)) (kk : VK x G Z cs nL Q J (pc + 3) lv (fv G Z μ k j :: st) μ o f) : VK x G Z cs nL Q J pc lv (.ref (ga G k) :: st) μ o f := by
  intro a ha H locs ls hP hl
  obtain ⟨N, T, n, h1, h2, h3, h4, h5⟩ := hF
  have hn := nfl_of h1
  exact va_get C.1 C.2.1 C.2.2.2.2.1 h3 C.2.2.2.1 C.2.2.2.2.2.1.1 hP.1 k (by rw [wd_get hk.2, ce_obj hk.1 h4]) h1 j h2 (C.2.2.2.2.1 _ h5) (fun _ h9 => h9) (fs_get (by rw [hn]; exact h2)) hd (kk a ha H locs ls hP hl)
theorem v_getN (C : CF x G Z cc nL Ts own) {k c j index : Nat} (hF : FLn Ts own index c j) (hk : Ob G Z k c) (hd : decode cc pc = .ok (.getfield index, 3)) (kk : VK x G Z cs nL Q J (pc + 3) lv (fv G Z μ k j :: st) μ o f) : VK x G Z cs nL Q J pc lv (.ref (ga G k) :: st) μ o f := by
  intro a ha H locs ls hP hl
  obtain ⟨N, T, n, host, h1, h2, h3, h4, h5⟩ := hF
  have hn := nfl_of h1
  exact va_getN C.1 C.2.1 C.2.2.2.2.1 h3 C.2.2.2.1 C.2.2.2.2.2.1.1 hP.1 k (by rw [wd_get hk.2, ce_obj hk.1 h4]) h1 j h2 (va_Nw.use rfl (C.2.2.2.2.2.1.2.1 _ h5)) (fun _ h9 => h9) (fs_get (by rw [hn]; exact h2)) hd (kk a ha H locs ls hP hl)
theorem fv_i {k c j : Nat} (hk : Ob G Z k c) (h : rk c j = 0) : fv G Z μ k j = .int (μ k j) := by
  unfold fv
  rw [hk.1, if_pos h]
theorem fv_r {k c j : Nat} (hk : Ob G Z k c) (h : rk c j = 1) (hn : zr Z k j ≠ 999) : fv G Z μ k j = .ref (ga G (zr Z k j)) := by
  unfold fv
  rw [hk.1, if_neg (by rw [h]; decide), if_pos h, rfv_r hn]
theorem fv_m {k c j : Nat} (hk : Ob G Z k c) (h : rk c j = 2) (hn : (μ k j).toNatClampNeg ≠ 999) : fv G Z μ k j = .ref (ga G (μ k j).toNatClampNeg) := by
  unfold fv
  rw [hk.1, if_neg (by rw [h]; decide), if_neg (by rw [h]; decide), rfv_r hn]
theorem v_geti (C : CF x G Z cc nL Ts own) {k c j index : Nat} (hF : FLk Ts own index c j) (hr : rk c j = 0) (hk : Ob G Z k c) (hd : decode cc pc = .ok (.getfield index, 3)) (kk : VK x G Z cs nL Q J (pc + 3) lv (.int (μ k j) :: st) μ o f) : VK x G Z cs nL Q J pc lv (.ref (ga G k) :: st) μ o f :=
  v_get C hF hk hd (by rw [fv_i hk hr]; exact kk)
theorem v_getiN (C : CF x G Z cc nL Ts own) {k c j index : Nat} (hF : FLn Ts own index c j) (hr : rk c j = 0) (hk : Ob G Z k c) (hd : decode cc pc = .ok (.getfield index, 3)) (kk : VK x G Z cs nL Q J (pc + 3) lv (.int (μ k j) :: st) μ o f) : VK x G Z cs nL Q J pc lv (.ref (ga G k) :: st) μ o f :=
  v_getN C hF hk hd (by rw [fv_i hk hr]; exact kk)
theorem FLk.lt {index c j : Nat} (hF : FLk Ts own index c j) : c < 20 ∧ j < nfl c := by
  obtain ⟨N, T, n, h1, h2, h3, h4, h5⟩ := hF
  exact ⟨h4, by rw [nfl_of h1]; exact h2⟩
theorem FLn.lt {index c j : Nat} (hF : FLn Ts own index c j) : c < 20 ∧ j < nfl c := by
  obtain ⟨N, T, n, host, h1, h2, h3, h4, h5⟩ := hF
  exact ⟨h4, by rw [nfl_of h1]; exact h2⟩
theorem v_getr (C : CF x G Z cc nL Ts own) {k c j index t : Nat} (hF : FLk Ts own index c j) (hr : rk c j = 1) (ht : tgt c j = t) (hk : Ob G Z k c) (hd : decode cc pc = .ok (.getfield index, 3)) (kk : Ob G Z (zr Z k j) t → VK x G Z cs nL Q J (pc + 3) lv (.ref (ga G (zr Z k j)) :: st) μ o f) : VK x G Z cs nL Q J pc lv (.ref (ga G k) :: st) μ o f :=
  have ho : Ob G Z (zr Z k j) t := ht ▸ C.2.2.2.2.2.2.2.2.1.1 c j k hF.lt.1 hr hF.lt.2 hk
  v_get C hF hk hd (by rw [fv_r hk hr (DA.ne C.2.2.2.2.2.2.2.1 ho)]; exact kk ho)
theorem v_getrN (C : CF x G Z cc nL Ts own) {k c j index t : Nat} (hF : FLn Ts own index c j) (hr : rk c j = 1) (ht : tgt c j = t) (hk : Ob G Z k c) (hd : decode cc pc = .ok (.getfield index, 3)) (kk : Ob G Z (zr Z k j) t → VK x G Z cs nL Q J (pc + 3) lv (.ref (ga G (zr Z k j)) :: st) μ o f) : VK x G Z cs nL Q J pc lv (.ref (ga G k) :: st) μ o f :=
  have ho : Ob G Z (zr Z k j) t := ht ▸ C.2.2.2.2.2.2.2.2.1.1 c j k hF.lt.1 hr hF.lt.2 hk
  v_getN C hF hk hd (by rw [fv_r hk hr (DA.ne C.2.2.2.2.2.2.2.1 ho)]; exact kk ho)
theorem v_getm (C : CF x G Z cc nL Ts own) {k c j index t : Nat} {g : Nat → Option β} (hF : FLk Ts own index c j) (hr : rk c j = 2) (hk : Ob G Z k c) (hd : decode cc pc = .ok (.getfield index, 3)) (kk : ∀ q, Ob G Z q t → VK x G Z cs nL Q J (pc + 3) lv (.ref (ga G q) :: st) μ (g q) f) : VK x G Z cs nL Q J pc lv (.ref (ga G k) :: st) μ ((mrd Z (gn G) t (μ k j)).bind g) f := by
  intro a ha
  unfold mrd at ha
  by_cases h : zk Z (μ k j).toNatClampNeg = t ∧ (μ k j).toNatClampNeg < gn G
  · rw [if_pos h] at ha
    exact v_get C hF hk hd (by rw [fv_m hk hr (DA.ne C.2.2.2.2.2.2.2.1 (Z := Z) (c := t) h)]; exact kk _ h) a ha
  · rw [if_neg h] at ha
    cases ha
/-- a field written: its type's values -/
def FPk (Ts : List Cond) (own : String) (index c j : Nat) : Prop := FLk Ts own index c j ∧ ∃ (N : String) (T : u_T) (n : Nat) (ty : Nat → FieldType), vwCl[c]? = some (N, T, n) ∧ (∀ k, k < n → parseFieldDescriptor (T k).2.2.1 = some (ty k)) ∧ (∀ a, a < n → ∀ b, b < n → a ≠ b → (T a).2.1 ≠ (T b).2.1) ∧ (T j).2.2.2 = false ∧ ty j = fty c j
def FPn (Ts : List Cond) (own : String) (index c j : Nat) : Prop := FLn Ts own index c j ∧ ∃ (N : String) (T : u_T) (n : Nat) (ty : Nat → FieldType), vwCl[c]? = some (N, T, n) ∧ (∀ k, k < n → parseFieldDescriptor (T k).2.2.1 = some (ty k)) ∧ (∀ a, a < n → ∀ b, b < n → a ≠ b → (T a).2.1 ≠ (T b).2.1) ∧ (T j).2.2.2 = false ∧ ty j = fty c j
theorem v_put (C : CF x G Z cc nL Ts own) {k c j index : Nat} {v : Value} {y : Int32} (hF : FPk Ts own index c j) (hv : v = fv G Z (u2 μ k j y) k j) (hn : narrow (fty c j) v = v) (hf : fits (fty c j) v = true) (hk : Ob G Z k c) (hd : decode cc pc = .ok (.putfield index, 3)) (kk : VK x G Z cs nL Q J (pc + 3) lv st (u2 μ k j y) o f) : VK x G Z cs nL Q J pc lv (v :: .ref (ga G k) :: st) μ o f := by
  intro a ha H locs ls hP hl
  obtain ⟨⟨N, T, n, h1, h2, h3, h4, h5⟩, N', T', n', ty, q1, q2, q3, q4, q5⟩ := hF
  cases h1.symm.trans q1
  have hn' := nfl_of h1
  have hG := C.2.2.2.2.2.2.2.1
  refine va_put C.1 C.2.1 C.2.2.2.2.1 h3 ty q2 q3 C.2.2.2.1 C.2.2.2.2.2.1.1 hP.1 (hG.vd Z μ) hP.2.1 k (by rw [wd_get hk.2, ce_obj hk.1 h4]) h1 j h2 (C.2.2.2.2.1 _ h5) (fun _ h9 => h9) q4 (q2 j h2) (by rw [q5]; exact hn) (by rw [q5]; exact hf) (by rw [List.length_map, List.length_range, hn']; exact h2) hd (fun H1 locs1 hP1 _ hS1 => ?_)
  rw [fs_set hk.1 hv] at hP1
  have e := wd_set (ν := u2 μ k j y) hk.2 (ce_obj hk.1 h4) (fun q hq => u2_n hq)
  rw [e] at hP1
  exact kk a ha H1 locs1 ls ⟨hP1, hS1, hP.2.2.u2 (fun q hq => u2_n (by have := hk.2; have := hG.2.2; omega))⟩ hl
theorem v_putN (C : CF x G Z cc nL Ts own) {k c j index : Nat} {v : Value} {y : Int32} (hF : FPn Ts own index c j) (hv : v = fv G Z (u2 μ k j y) k j) (hn : narrow (fty c j) v = v) (hf : fits (fty c j) v = true) (hk : Ob G Z k c) (hd : decode cc pc = .ok (.putfield index, 3)) (kk : VK x G Z cs nL Q J (pc + 3) lv st (u2 μ k j y) o f) : VK x G Z cs nL Q J pc lv (v :: .ref (ga G k) :: st) μ o f := by
  intro a ha H locs ls hP hl
  obtain ⟨⟨N, T, n, host, h1, h2, h3, h4, h5⟩, N', T', n', ty, q1, q2, q3, q4, q5⟩ := hF
  cases h1.symm.trans q1
  have hn' := nfl_of h1
  have hG := C.2.2.2.2.2.2.2.1
  refine va_putN C.1 C.2.1 C.2.2.2.2.1 h3 ty q2 q3 C.2.2.2.1 C.2.2.2.2.2.1.1 hP.1 (hG.vd Z μ) hP.2.1 k (by rw [wd_get hk.2, ce_obj hk.1 h4]) h1 j h2 (va_Nw.use rfl (C.2.2.2.2.2.1.2.1 _ h5)) (fun _ h9 => h9) q4 (q2 j h2) (by rw [q5]; exact hn) (by rw [q5]; exact hf) (by rw [List.length_map, List.length_range, hn']; exact h2) hd (fun H1 locs1 hP1 _ hS1 => ?_)
  rw [fs_set hk.1 hv] at hP1
  have e := wd_set (ν := u2 μ k j y) hk.2 (ce_obj hk.1 h4) (fun q hq => u2_n hq)
  rw [e] at hP1
  exact kk a ha H1 locs1 ls ⟨hP1, hS1, hP.2.2.u2 (fun q hq => u2_n (by have := hk.2; have := hG.2.2; omega))⟩ hl
theorem u2_at {k j : Nat} {y : Int32} : u2 μ k j y k j = y := by simp [u2, upd]
theorem v_puti (C : CF x G Z cc nL Ts own) {k c j index : Nat} {y : Int32} {g : MT → Option β} (hF : FPk Ts own index c j) (hr : rk c j = 0) (ht : fty c j = .int) (hk : Ob G Z k c) (hd : decode cc pc = .ok (.putfield index, 3)) (kk : ∀ ν, VK x G Z cs nL Q J (pc + 3) lv st ν (g ν) f) : VK x G Z cs nL Q J pc lv (.int y :: .ref (ga G k) :: st) μ ((some (u2 μ k j y)).bind g) f :=
  v_put C hF (by rw [fv_i hk hr, u2_at]) (by rw [ht]; rfl) (by rw [ht]; rfl) hk hd (kk _)
theorem v_putiN (C : CF x G Z cc nL Ts own) {k c j index : Nat} {y : Int32} {g : MT → Option β} (hF : FPn Ts own index c j) (hr : rk c j = 0) (ht : fty c j = .int) (hk : Ob G Z k c) (hd : decode cc pc = .ok (.putfield index, 3)) (kk : ∀ ν, VK x G Z cs nL Q J (pc + 3) lv st ν (g ν) f) : VK x G Z cs nL Q J pc lv (.int y :: .ref (ga G k) :: st) μ ((some (u2 μ k j y)).bind g) f :=
  v_putN C hF (by rw [fv_i hk hr, u2_at]) (by rw [ht]; rfl) (by rw [ht]; rfl) hk hd (kk _)
theorem bz_iff {y : Int32} {g : Int32 → Option γ} {a : γ} (h : (bz y).bind g = some a) : (y = 0 ∨ y = 1) ∧ g y = some a := by
  unfold bz at h
  by_cases hi : y = 0 ∨ y = 1
  · rw [if_pos hi] at h
    exact ⟨hi, h⟩
  · rw [if_neg hi] at h
    cases h
theorem v_putz (C : CF x G Z cc nL Ts own) {k c j index : Nat} {y : Int32} {g : MT → Option β} (hy : y = 0 ∨ y = 1) (hF : FPk Ts own index c j) (hr : rk c j = 0) (ht : fty c j = .boolean) (hk : Ob G Z k c) (hd : decode cc pc = .ok (.putfield index, 3)) (kk : ∀ ν, VK x G Z cs nL Q J (pc + 3) lv st ν (g ν) f) : VK x G Z cs nL Q J pc lv (.int y :: .ref (ga G k) :: st) μ ((some (u2 μ k j y)).bind g) f :=
  v_put C hF (by rw [fv_i hk hr, u2_at]) (by rw [ht]; rcases hy with rfl | rfl <;> rfl) (by rw [ht]; rcases hy with rfl | rfl <;> rfl) hk hd (kk _)
theorem v_putm (C : CF x G Z cc nL Ts own) {k c j index q : Nat} {N : String} {g : MT → Option β} (hF : FPk Ts own index c j) (hr : rk c j = 2) (ht : fty c j = .object N) (hq : q < 900) (hk : Ob G Z k c) (hd : decode cc pc = .ok (.putfield index, 3)) (kk : ∀ ν, VK x G Z cs nL Q J (pc + 3) lv st ν (g ν) f) : VK x G Z cs nL Q J pc lv (.ref (ga G q) :: .ref (ga G k) :: st) μ ((some (u2 μ k j (Int32.ofNat q))).bind g) f :=
  v_put C hF (by
    have e : (u2 μ k j (Int32.ofNat q) k j).toNatClampNeg = q := by rw [u2_at]; exact nI_clamp (by omega)
    rw [fv_m hk hr (by rw [e]; omega), e]) (by rw [ht]; rfl) (by rw [ht]; rfl) hk hd (kk _)
end VRULES
