/-! ===== making cells: the memory grows; the k-th cell made lies k places behind the first ===== -/
abbrev BT : Type := va_G × Nat × (Nat → Nat) × (Nat → ClassId) × Nat
abbrev bb (B : BT) : Nat := B.2.2.2.2
def nad (B : BT) (k : Nat) : Nat := if k < 1000 then bb B + k else B.2.2.1 k
def gN (B : BT) (n : Nat) : GT := (B.1, n, B.2.1, nad B, B.2.2.2.1, bb B)
abbrev bA (B : BT) : Nat → Prop := fun q => bb B ≤ q
def NW (B : BT) (σ : NS) (H : Heap) : Prop := va_P B.1 vwCl (wd (gN B σ.1) σ.2.1 σ.2.2) H ∧ H.size = bb B + σ.1 ∧ σ.1 ≤ 900
theorem nad_lt {B : BT} {k : Nat} (h : k < 1000) : nad B k = bb B + k := if_pos h
theorem gN_DA {B : BT} {n : Nat} (h : n ≤ 900) : DA (gN B n) := by
  refine ⟨fun i j hi hj e => ?_, fun k hk => ?_, h⟩
  · have hi : i < n := hi
    have hj : j < n := hj
    have e : nad B i = nad B j := e
    rw [nad_lt (by omega), nad_lt (by omega)] at e
    omega
  · have hk : k < n := hk
    show bb B ≤ nad B k
    rw [nad_lt (by omega)]
    omega
theorem wd_at {D : va_G} {G : GT} {Z : ZT} {μ : MT} {H : Heap} : va_P D vwCl (wd G Z μ) H ↔ ∀ k, k < gn G → va_at D vwCl (ga G k, ce G Z μ k) H := by
  constructor
  · intro h k hk
    exact h k _ (wd_get hk)
  · intro h k q hq
    have hl : k < gn G := by
      have := (List.getElem?_eq_some_iff.mp hq).1
      simpa [wd] using this
    rw [wd_get hl] at hq
    cases hq
    exact h k hl
theorem ce_Z {G : GT} {Z Z' : ZT} {μ ν : MT} {k : Nat} (h1 : zk Z' k = zk Z k) (h2 : zl Z' k = zl Z k) (h3 : zr Z' k = zr Z k) (h4 : ν k = μ k) : ce G Z' ν k = ce G Z μ k := by
  have hf : fv G Z' ν k = fv G Z μ k := by
    funext j
    unfold fv
    rw [h1, h3, h4]
  unfold ce
  rw [hf, h1, h2, h3, h4]
theorem up_s {α : Type} {f : Nat → α} {k : Nat} {v : α} : va_up f k v k = v := by simp [va_up]
theorem up_n {α : Type} {f : Nat → α} {k q : Nat} {v : α} (h : q ≠ k) : va_up f k v q = f q := by simp [va_up, h]
/-- arrays of arrays of ints -/
def AOA (U : State) : Prop := (Cond.arrayOver (.array .int)).before #[] U = true
theorem AOA.use {A : Array Value} {U : State} (h : AOA U) : (Cond.arrayOver (.array .int)).before A U = true := h
theorem AOA.moved {u U : State} (hvm : u.vm.Alike U.vm) (h : AOA u) : AOA U := by
  obtain ⟨comp, c, k, h1, h2, h3, h4, h5⟩ := arrayOverA_spec h
  obtain ⟨k', hk', he⟩ := hvm.2.2 _ _ h3
  have e1 := va_idx_bare U.vm comp
  have e2 := va_idx_bare u.vm comp
  have hb : u.vm.bare = U.vm.bare := by first | exact hvm.bare_eq | exact hvm.bare_eq.symm
  rw [hb] at e2
  have hi := (e1.symm.trans e2).trans h2
  have hkind : k'.kind = .array comp (.array .int) := by rw [he]; exact h4
  have f1 : U.vm.findClass (FieldType.array .int).toString = some comp := by rw [hvm.findClass]; exact h1
  have f2 : U.vm.findClass ("[" ++ (FieldType.array .int).toString) = some c := by rw [hvm.findClass]; exact h5
  unfold AOA Cond.before Cond.holds
  simp only [Cond.value]
  rw [f1, Option.bind_some]
  erw [hi]
  simp [hk', hkind, f2]
/-- the context of a walk -/
def CN (x : CX) (B : BT) (cc : ByteArray) (nL : Nat) (own : String) : Prop :=
  x.1.tables.exec = Jvm.exec ∧ (xc x).code = cc ∧ (xc x).maxLocals = nL ∧ (xs x).vm.findClass own = some (xm x).cls ∧ (∀ w ∈ BG, w.before (xa x) (xs x) = true) ∧ KS (gN B 0) (xs x) ∧ (xM x).locks = false ∧ bb B ≤ (xs x).heap.size ∧ va_AO "SeamPull$Panel" (xs x) ∧ AOA (xs x)
def NK (x : CX) (B : BT) (nL cells slots : Nat) (Q : State → Prop) (pc : Nat) (lv : List (Nat × Value)) (st : List Value) (σ : NS) : Prop :=
  ∀ (H : Heap) (locs : List Loc) (ls : Array Slot), NW B σ H → va_S (bA B) (xs x).heap H locs → lv_has ls nL lv → W x.1 x.2.1 x.2.2.1 (xR x) (xs x) (xm x) (xa x) (xb x) (xM x) (xc x) H locs cells slots Q (F0 (xm x) pc ls st)
section NRULES
variable {x : CX} {B : BT} {nL cells slots : Nat} {Q : State → Prop} {pc : Nat} {lv : List (Nat × Value)} {st : List Value} {σ : NS} {cc : ByteArray} {own : String}
theorem n_eq {σ' : NS} (h : σ = σ') (k : NK x B nL cells slots Q pc lv st σ') : NK x B nL cells slots Q pc lv st σ := h ▸ k
theorem n_st {st' : List Value} (h : st = st') (k : NK x B nL cells slots Q pc lv st' σ) : NK x B nL cells slots Q pc lv st σ := h ▸ k
theorem n_iconst (C : CN x B cc nL own) {n : Int} {v : Int32} (hv : Int32.ofInt n = v) (hd : decode cc pc = .ok (.iconst n, 1)) (k : NK x B nL cells slots Q (pc + 1) lv (.int v :: st) σ) : NK x B nL cells slots Q pc lv st σ :=
  fun H locs ls hW hS hl => lv_iconst C.1 C.2.1 hd hv (k H locs ls hW hS hl)
theorem n_bipush (C : CN x B cc nL own) {n : Int} {v : Int32} (hv : (Int8.ofInt n).toInt32 = v) (hd : decode cc pc = .ok (.bipush n, 2)) (k : NK x B nL cells slots Q (pc + 2) lv (.int v :: st) σ) : NK x B nL cells slots Q pc lv st σ :=
  fun H locs ls hW hS hl => lv_bipush C.1 C.2.1 hd hv (k H locs ls hW hS hl)
theorem n_sipush (C : CN x B cc nL own) {n : Int} {v : Int32} (hv : (Int16.ofInt n).toInt32 = v) (hd : decode cc pc = .ok (.sipush n, 3)) (k : NK x B nL cells slots Q (pc + 3) lv (.int v :: st) σ) : NK x B nL cells slots Q pc lv st σ :=
  fun H locs ls hW hS hl => lv_sipush C.1 C.2.1 hd hv (k H locs ls hW hS hl)
theorem n_aload_n (C : CN x B cc nL own) {q : Fin 4} {i n : Nat} {y : Nat} (hi : (q : Nat) = i) (hy : lv[n]? = some (i, .ref y)) (hd : decode cc pc = .ok (.aload_n q, 1)) (k : NK x B nL cells slots Q (pc + 1) lv (.ref y :: st) σ) : NK x B nL cells slots Q pc lv st σ :=
  fun H locs ls hW hS hl => lv_aload_n C.1 C.2.1 hd hi (lv_at hl n hy) (k H locs ls hW hS hl)
theorem n_iload_n (C : CN x B cc nL own) {q : Fin 4} {i n : Nat} {y : Int32} (hi : (q : Nat) = i) (hy : lv[n]? = some (i, .int y)) (hd : decode cc pc = .ok (.iload_n q, 1)) (k : NK x B nL cells slots Q (pc + 1) lv (.int y :: st) σ) : NK x B nL cells slots Q pc lv st σ :=
  fun H locs ls hW hS hl => lv_iload_n C.1 C.2.1 hd hi (lv_at hl n hy) (k H locs ls hW hS hl)
theorem n_istore_n (C : CN x B cc nL own) {q : Fin 4} {i : Nat} {y : Int32} {lv' : List (Nat × Value)} (hi : (q : Nat) = i) (hn : i < nL) (hv : (i, Value.int y) :: lv.filter (fun q => !(q.1 == i) && !(q.1 + 1 == i && q.2.category == 2)) = lv') (hd : decode cc pc = .ok (.istore_n q, 1)) (k : NK x B nL cells slots Q (pc + 1) lv' st σ) : NK x B nL cells slots Q pc lv (.int y :: st) σ :=
  fun H locs ls hW hS hl => lv_istore_n C.1 C.2.1 hd hi hl hn hv (fun ls hl => k H locs ls hW hS hl)
theorem n_astore_n (C : CN x B cc nL own) {q : Fin 4} {i : Nat} {y : Nat} {lv' : List (Nat × Value)} (hi : (q : Nat) = i) (hn : i < nL) (hv : (i, Value.ref y) :: lv.filter (fun q => !(q.1 == i) && !(q.1 + 1 == i && q.2.category == 2)) = lv') (hd : decode cc pc = .ok (.astore_n q, 1)) (k : NK x B nL cells slots Q (pc + 1) lv' st σ) : NK x B nL cells slots Q pc lv (.ref y :: st) σ :=
  fun H locs ls hW hS hl => lv_astore_n C.1 C.2.1 hd hi hl hn hv (fun ls hl => k H locs ls hW hS hl)
theorem n_iinc (C : CN x B cc nL own) {i n : Nat} {z : Int} {y v : Int32} {lv' : List (Nat × Value)} (hy : lv[n]? = some (i, .int y)) (hz : y + Int32.ofInt z = v) (hn : i < nL) (hv : (i, Value.int v) :: lv.filter (fun q => !(q.1 == i) && !(q.1 + 1 == i && q.2.category == 2)) = lv') (hd : decode cc pc = .ok (.iinc i z, 3)) (k : NK x B nL cells slots Q (pc + 3) lv' st σ) : NK x B nL cells slots Q pc lv st σ :=
  fun H locs ls hW hS hl => lv_iinc C.1 C.2.1 hd hl hy hz hn hv (fun ls hl => k H locs ls hW hS hl)
theorem n_dup (C : CN x B cc nL own) {v : Value} (hv : v.category = 1) (hd : decode cc pc = .ok (.dup, 1)) (k : NK x B nL cells slots Q (pc + 1) lv (v :: v :: st) σ) : NK x B nL cells slots Q pc lv (v :: st) σ :=
  fun H locs ls hW hS hl => lv_dup C.1 C.2.1 hd hv (k H locs ls hW hS hl)
theorem n_goto (C : CN x B cc nL own) {off : Int} {t : Nat} (ht : (pc : Int) + off = (t : Int)) (hd : decode cc pc = .ok (.goto off, 3)) (k : NK x B nL cells slots Q t lv st σ) : NK x B nL cells slots Q pc lv st σ :=
  fun H locs ls hW hS hl => lv_goto C.1 C.2.1 hd ht (k H locs ls hW hS hl)
theorem n_icgtN (C : CN x B cc nL own) {y z : Int32} {off : Int} (hc : ¬ z < y) (hd : decode cc pc = .ok (.if_icmp .gt off, 3)) (t : Nat) (ht : (pc : Int) + off = (t : Int)) (k : NK x B nL cells slots Q (pc + 3) lv st σ) : NK x B nL cells slots Q pc lv (.int z :: .int y :: st) σ :=
  fun H locs ls hW hS hl => lv_icmp_gt C.1 C.2.1 hd ht (fun c => absurd c hc) (fun _ => k H locs ls hW hS hl)
theorem n_icgtY (C : CN x B cc nL own) {y z : Int32} {off : Int} (hc : z < y) (hd : decode cc pc = .ok (.if_icmp .gt off, 3)) (t : Nat) (ht : (pc : Int) + off = (t : Int)) (k : NK x B nL cells slots Q t lv st σ) : NK x B nL cells slots Q pc lv (.int z :: .int y :: st) σ :=
  fun H locs ls hW hS hl => lv_icmp_gt C.1 C.2.1 hd ht (fun _ => k H locs ls hW hS hl) (fun c => absurd hc c)
theorem n_icgeN (C : CN x B cc nL own) {y z : Int32} {off : Int} (hc : ¬ z ≤ y) (hd : decode cc pc = .ok (.if_icmp .ge off, 3)) (t : Nat) (ht : (pc : Int) + off = (t : Int)) (k : NK x B nL cells slots Q (pc + 3) lv st σ) : NK x B nL cells slots Q pc lv (.int z :: .int y :: st) σ :=
  fun H locs ls hW hS hl => lv_icmp_ge C.1 C.2.1 hd ht (fun c => absurd c hc) (fun _ => k H locs ls hW hS hl)
theorem n_icgeY (C : CN x B cc nL own) {y z : Int32} {off : Int} (hc : z ≤ y) (hd : decode cc pc = .ok (.if_icmp .ge off, 3)) (t : Nat) (ht : (pc : Int) + off = (t : Int)) (k : NK x B nL cells slots Q t lv st σ) : NK x B nL cells slots Q pc lv (.int z :: .int y :: st) σ :=
  fun H locs ls hW hS hl => lv_icmp_ge C.1 C.2.1 hd ht (fun _ => k H locs ls hW hS hl) (fun c => absurd hc c)
theorem n_obj (C : CN x B cc nL own) {index : Nat} {a : Nat} (hl1 : Cond.methodLink own index Lib.objectInit ∈ BG) (hR1 : 1 ≤ (xR x).frames) (hR2 : (st.map fun v => v.category).sum + 12 ≤ (xR x).locals) (hd : decode cc pc = .ok (.invokespecial index, 3)) (k : NK x B nL cells slots Q (pc + 3) lv st σ) : NK x B nL cells slots Q pc lv (.ref a :: st) σ := by
  intro H locs ls hW hS hl
  exact W.objInit C.1 C.2.1 C.2.2.2.1 (C.2.2.2.2.1 _ hl1) (C.2.2.2.2.1 _ (w1 29 rfl)) (C.2.2.2.2.1 _ (w1 30 rfl)) rfl (by rw [C.2.2.1]; exact hl.1) rfl hd hR1 (by show 2 * 0 + _ + 12 ≤ _; omega) (k H locs ls hW hS hl)
theorem NW.kept {Z' : ZT} {ν : MT} {H H1 : Heap} {n : Nat} (h : NW B σ H) (hh : ∀ q, q < σ.1 → H1[nad B q]? = H[nad B q]?) (hc : ∀ q, q < σ.1 → ce (gN B n) Z' ν q = ce (gN B σ.1) σ.2.1 σ.2.2 q) : ∀ q, q < σ.1 → va_at B.1 vwCl (nad B q, ce (gN B n) Z' ν q) H1 := by
  intro q hq
  rw [hc q hq]
  exact (wd_at.mp h.1 q hq).kept (hh q hq)
/-- a new object -/
theorem n_new (C : CN x B cc nL own) {index c N : Nat} {Cn : String} {T : u_T} (hc : vwCl[c]? = some (Cn, T, N)) (hc20 : c < 20) (ty : Nat → FieldType) (hty : ∀ k, k < N → parseFieldDescriptor (T k).2.2.1 = some (ty k)) (hf : ∀ k, k < N → defaultValue (ty k) = if isRefTy (fty c k) then .null else .int 0) (hin : ∀ w ∈ u_ws Cn T N, w ∈ BG)
    (hw : ∀ w ∈ ([.classLink own index Cn, .instantiable Cn N, .initialized Cn] : List Cond), w ∈ BG) (hn : σ.1 < 900) (h1 : cells + 1 ≤ (xR x).cells) (h2 : slots + N ≤ (xR x).slots) (hd : decode cc pc = .ok (.new index, 3))
    (k : NK x B nL (cells + 1) (slots + N) Q (pc + 3) lv (.ref (nad B σ.1) :: st) (nObj σ c)) : NK x B nL cells slots Q pc lv st σ := by
  intro H locs ls hW hS hl
  have hK := C.2.2.2.2.2.1.1
  have hKn := hK.1 c _ hc
  have hsz : H.size = nad B σ.1 := by rw [hW.2.1, nad_lt (by omega)]
  refine W.newcK C.1 C.2.1 C.2.2.2.1 (C.2.2.2.2.1 _ (hw _ (by simp))) (C.2.2.2.2.1 _ (hw _ (by simp))) (C.2.2.2.2.1 _ (hw _ (by simp))) rfl hd h1 h2 hKn.2.1 hsz fun H1 kC hkC e1 z1 o1 => ?_
  have hlt : ∀ q, q < σ.1 → nad B q < nad B σ.1 := fun q hq => by rw [nad_lt (by omega), nad_lt (by omega)]; omega
  refine k H1 locs ls ⟨wd_at.mpr fun q hq => ?_, ?_, ?_⟩ ⟨?_, fun q q1 q2 => ?_, hS.2.2⟩ hl
  · have hq : q < σ.1 + 1 := hq
    by_cases hqn : q < σ.1
    · exact hW.kept (fun q hq => o1 _ (hlt q hq)) (fun q hq => by
        have hne : q ≠ σ.1 := by omega
        exact ce_Z (G := gN B σ.1) (up_n hne) rfl (up_n hne) (u1_n hne)) q hqn
    · have : q = σ.1 := by omega
      subst this
      have hz : zk (nObj σ c).2.1 σ.1 = c := up_s
      rw [ce_obj hz hc20]
      refine ⟨_, hc, (u_born ty C.2.2.2.2.1 hin hKn hkC e1 hty).to fun j hj => ?_⟩
      have hnf : nfl c = N := nfl_of hc
      rw [hf j hj]
      unfold vp_V
      rw [List.getD_eq_getElem?_getD, fs_get (by rw [hnf]; exact hj)]
      show _ = fv _ _ _ _ _
      unfold fv
      rw [hz]
      have hr0 : zr (nObj σ c).2.1 σ.1 = fun _ => 999 := up_s
      have hr : zr (nObj σ c).2.1 σ.1 j = 999 := by rw [hr0]
      have hm : (nObj σ c).2.2 σ.1 j = if rk c j = 2 then 999 else 0 := by show u1 _ _ _ _ j = _; rw [u1_s]
      rw [hr, hm]
      by_cases hi : isRefTy (fty c j) = true
      · rw [if_pos hi]
        have hk1 : rk c j = 1 ∨ rk c j = 2 := by
          unfold rk
          rw [if_pos hi]
          split
          · exact Or.inr rfl
          · exact Or.inl rfl
        rcases hk1 with h | h
        · rw [h]; rfl
        · rw [h]; rfl
      · rw [if_neg hi]
        have hk0 : rk c j = 0 := by unfold rk; rw [if_neg hi]
        rw [hk0]; rfl
  · rw [z1, ← hsz, hW.2.1]; rfl
  · show σ.1 + 1 ≤ 900; omega
  · rw [z1, ← hsz]; have := hS.1; omega
  · rw [o1 q (by rw [← hsz]; exact Nat.lt_of_lt_of_le q1 hS.1)]
    exact hS.2.1 q q1 q2
theorem NW.arr {H H1 : Heap} {t N : Nat} {e : va_E} (h : NW B σ H) (hn : σ.1 < 900) (z1 : H1.size = nad B σ.1 + 1) (o1 : ∀ q, q < nad B σ.1 → H1[q]? = H[q]?) (he : ce (gN B (σ.1 + 1)) (nArr σ t N).2.1 (nArr σ t N).2.2 σ.1 = e) (hat : va_at B.1 vwCl (nad B σ.1, e) H1) : NW B (nArr σ t N) H1 := by
  have hlt : ∀ q, q < σ.1 → nad B q < nad B σ.1 := fun q hq => by rw [nad_lt (by omega), nad_lt (by omega)]; omega
  refine ⟨wd_at.mpr fun q hq => ?_, ?_, ?_⟩
  · have hq : q < σ.1 + 1 := hq
    by_cases hqn : q < σ.1
    · exact h.kept (fun q hq => o1 _ (hlt q hq)) (fun q hq => by
        have hne : q ≠ σ.1 := by omega
        exact ce_Z (G := gN B σ.1) (up_n hne) (up_n hne) (up_n hne) (u1_n hne)) q hqn
    · have : q = σ.1 := by omega
      subst this
      show va_at B.1 vwCl (nad B σ.1, ce (gN B (σ.1 + 1)) (nArr σ t N).2.1 (nArr σ t N).2.2 σ.1) H1
      rw [he]
      exact hat
  · rw [z1, nad_lt (by omega)]; rfl
  · show σ.1 + 1 ≤ 900; omega
theorem nS {H H1 : Heap} {locs : List Loc} (hW : NW B σ H) (hn : σ.1 < 900) (hS : va_S (bA B) (xs x).heap H locs) {m : Nat} (z1 : H1.size = nad B σ.1 + m) (o1 : ∀ q, q < nad B σ.1 → H1[q]? = H[q]?) : va_S (bA B) (xs x).heap H1 locs := by
  have hsz : H.size = nad B σ.1 := by rw [hW.2.1, nad_lt (by omega)]
  refine ⟨by rw [z1, ← hsz]; have := hS.1; omega, fun q q1 q2 => ?_, hS.2.2⟩
  rw [o1 q (by rw [← hsz]; exact Nat.lt_of_lt_of_le q1 hS.1)]
  exact hS.2.1 q q1 q2
/-- a new array of ints, bytes, booleans -/
theorem n_newa (C : CN x B cc nL own) {atype : ArrayType} {t ti N : Nat} {n : Int32} {ty : FieldType} (hty : newarray.typeOf atype = ty) (hat : (ats (gN B 0))[ti]? = some (B.2.2.2.1 t, ty)) (hra : ∀ s cA, va_RA s cA ty → s.vm.findClass ("[" ++ ty.toString) = some cA) (hdv : defaultValue ty = .int 0) (ht1 : 20 ≤ t) (ht2 : t < 23) (hw : Cond.arrayClass ty ∈ BG) (hn0 : ¬ n < 0) (hN : n.toNatClampNeg = N) (hby : N * componentBytes ty ≤ 536870912) (hn : σ.1 < 900) (h1 : cells + 1 ≤ (xR x).cells) (h2 : slots + N ≤ (xR x).slots) (hd : decode cc pc = .ok (.newarray atype, 2))
    (k : NK x B nL (cells + 1) (slots + N) Q (pc + 2) lv (.ref (nad B σ.1) :: st) (nArr σ t N)) : NK x B nL cells slots Q pc lv (.int n :: st) σ := by
  subst hty
  intro H locs ls hW hS hl
  have hK := C.2.2.2.2.2.1.1
  have hsz : H.size = nad B σ.1 := by rw [hW.2.1, nad_lt (by omega)]
  refine va_newaK C.1 C.2.1 (C.2.2.2.2.1 _ hw) rfl hd rfl hn0 hN hby h1 h2 hsz fun H1 cA e1 z1 o1 _ hcA => ?_
  have hA : B.2.2.2.1 t = cA := Option.some.inj ((hra _ _ (hK.2 ti _ hat).2).symm.trans hcA)
  refine k H1 locs ls (hW.arr hn z1 o1 (ce_arr (c := t) up_s ht1 ht2) ?_) (nS hW hn hS z1 o1) hl
  show H1[nad B σ.1]? = some (vp_cell _ _)
  rw [e1]
  have e2 : zl (nArr σ t N).2.1 σ.1 = N := up_s
  have e3 : (nArr σ t N).2.2 σ.1 = fun _ => 0 := u1_s
  rw [e2, e3, hdv]
  show _ = some (vp_cell (B.2.2.2.1 t) _)
  rw [hA]
  rfl
/-- a new array of references -/
theorem n_newq (C : CN x B cc nL own) {index N : Nat} {n : Int32} {Cn : String} (hat : (ats (gN B 0))[4]? = some (B.2.2.2.1 24, .object Cn)) (hao : va_AO Cn (xs x)) (hw : Cond.classLink own index Cn ∈ BG) (hn0 : ¬ n < 0) (hN : n.toNatClampNeg = N) (hby : N * 4 ≤ 536870912) (hn : σ.1 < 900) (h1 : cells + 1 ≤ (xR x).cells) (h2 : slots + N ≤ (xR x).slots) (hd : decode cc pc = .ok (.anewarray index, 3))
    (k : NK x B nL (cells + 1) (slots + N) Q (pc + 3) lv (.ref (nad B σ.1) :: st) (nArr σ 24 N)) : NK x B nL cells slots Q pc lv (.int n :: st) σ := by
  subst hN
  intro H locs ls hW hS hl
  have hK := C.2.2.2.2.2.1.1
  have hsz : H.size = nad B σ.1 := by rw [hW.2.1, nad_lt (by omega)]
  refine W.anew C.1 C.2.1 C.2.2.2.1 (C.2.2.2.2.1 _ hw) (va_AO.use hao) rfl hd rfl hn0 hby h1 h2 fun cA kA comp f1 f2 f3 f4 => ?_
  obtain ⟨_, _, _, _, _, g4⟩ := (hK.2 4 _ hat).2
  have hA : B.2.2.2.1 24 = cA := Option.some.inj (g4.symm.trans f1)
  generalize hH1 : H.push ({ cls := cA, slots := Array.replicate n.toNatClampNeg .null, vm := .none } : Cell) = H1
  have z1 : H1.size = nad B σ.1 + 1 := by rw [← hH1, Array.size_push, hsz]
  have e1 : H1[nad B σ.1]? = some (arrV cA n.toNatClampNeg (fun _ => .null)) := by rw [← hH1, ← hsz, Array.getElem?_push_size, ← arrV_new]
  have o1 : ∀ q : Nat, q < nad B σ.1 → H1[q]? = H[q]? := fun q hq => by rw [← hH1, Array.getElem?_push, if_neg (by rw [hsz]; exact Nat.ne_of_lt hq)]
  have hk := k H1 locs ls (hW.arr hn z1 o1 (ce_ref (c := 24) up_s (by decide)) ?_) (nS hW hn hS z1 o1) hl
  · show W _ _ _ _ _ _ _ _ _ _ _ _ _ _ _ (F0 (xm x) (pc + 3) ls (.ref H.size :: st))
    rw [hsz]
    exact hk
  · show H1[nad B σ.1]? = some (vp_cell _ _)
    rw [e1, vp_cell_q]
    have e2 : zl (nArr σ 24 n.toNatClampNeg).2.1 σ.1 = n.toNatClampNeg := up_s
    have e3 : zr (nArr σ 24 n.toNatClampNeg).2.1 σ.1 = fun _ => 999 := up_s
    rw [e2, e3]
    show _ = some (arrV (B.2.2.2.1 24) _ _)
    rw [hA]
    rfl
end NRULES
