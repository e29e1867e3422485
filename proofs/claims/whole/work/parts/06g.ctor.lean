/-! ===== constructors: fields, arrays, calls, ends ===== -/
section NCTOR
variable {x : CX} {B : BT} {nL cells slots : Nat} {Q : State → Prop} {pc : Nat} {lv : List (Nat × Value)} {st : List Value} {σ : NS} {cc : ByteArray} {own : String}
def FTy (own : String) (c j : Nat) : Prop := ∃ (N : String) (T : u_T) (n : Nat) (ty : Nat → FieldType), vwCl[c]? = some (N, T, n) ∧ (∀ k, k < n → parseFieldDescriptor (T k).2.2.1 = some (ty k)) ∧ (∀ a, a < n → ∀ b, b < n → a ≠ b → (T a).2.1 ≠ (T b).2.1) ∧ (T j).1 = own ∧ ty j = fty c j
theorem n_putr (C : CN x B cc nL own) {k c j index q : Nat} (hin2 : (xM x).name = "<init>") (hF : FLk BG own index c j) (hty : FTy own c j) (hr : rk c j = 1) (hn : ∀ a, narrow (fty c j) (.ref a) = .ref a) (hf : ∀ a, fits (fty c j) (.ref a) = true) (hk : zk σ.2.1 k = c) (hkn : k < σ.1) (hq : q ≠ 999)
    (hd : decode cc pc = .ok (.putfield index, 3)) (kk : NK x B nL cells slots Q (pc + 3) lv st (nRef σ k j q)) : NK x B nL cells slots Q pc lv (.ref (nad B q) :: .ref (nad B k) :: st) σ := by
  refine n_putv (σ' := nRef σ k j q) C hin2 hF hty (hn _) (hf _) hk hkn rfl rfl rfl (fun p hp => ⟨up_n hp, rfl⟩) (fun i => ?_) hd kk
  have e : zr (nRef σ k j q).2.1 k = va_up (zr σ.2.1 k) j q := up_s
  unfold fv
  rw [e]
  show (if rk (zk σ.2.1 k) i = 0 then _ else if rk (zk σ.2.1 k) i = 1 then _ else _) = _
  rw [hk]
  by_cases hi : i = j
  · subst hi
    rw [up_s, if_pos rfl, if_neg (by rw [hr]; decide), if_pos hr]
    exact rfv_r hq
  · rw [up_n hi, if_neg hi]
    rfl
theorem n_puti (C : CN x B cc nL own) {k c j index : Nat} {v : Int32} (hin2 : (xM x).name = "<init>") (hF : FLk BG own index c j) (hty : FTy own c j) (hr : rk c j = 0) (hn : narrow (fty c j) (.int v) = .int v) (hf : fits (fty c j) (.int v) = true) (hk : zk σ.2.1 k = c) (hkn : k < σ.1)
    (hd : decode cc pc = .ok (.putfield index, 3)) (kk : NK x B nL cells slots Q (pc + 3) lv st (nInt σ k j v)) : NK x B nL cells slots Q pc lv (.int v :: .ref (nad B k) :: st) σ := by
  refine n_putv (σ' := nInt σ k j v) C hin2 hF hty hn hf hk hkn rfl rfl rfl (fun p hp => ⟨rfl, u2_n hp⟩) (fun i => ?_) hd kk
  have e : (nInt σ k j v).2.2 k = upd (σ.2.2 k) j v := u2_s
  unfold fv
  rw [e]
  show (if rk (zk σ.2.1 k) i = 0 then _ else if rk (zk σ.2.1 k) i = 1 then _ else _) = _
  rw [hk]
  by_cases hi : i = j
  · subst hi
    rw [if_pos rfl, if_pos hr]
    simp [upd]
  · rw [if_neg hi]
    simp only [upd, if_neg hi]
    rfl
theorem n_putm (C : CN x B cc nL own) {k c j index q : Nat} (hin2 : (xM x).name = "<init>") (hF : FLk BG own index c j) (hty : FTy own c j) (hr : rk c j = 2) (hn : ∀ a, narrow (fty c j) (.ref a) = .ref a) (hf : ∀ a, fits (fty c j) (.ref a) = true) (hk : zk σ.2.1 k = c) (hkn : k < σ.1) (hq : q < 900)
    (hd : decode cc pc = .ok (.putfield index, 3)) (kk : NK x B nL cells slots Q (pc + 3) lv st (nInt σ k j (Int32.ofNat q))) : NK x B nL cells slots Q pc lv (.ref (nad B q) :: .ref (nad B k) :: st) σ := by
  refine n_putv (σ' := nInt σ k j (Int32.ofNat q)) C hin2 hF hty (hn _) (hf _) hk hkn rfl rfl rfl (fun p hp => ⟨rfl, u2_n hp⟩) (fun i => ?_) hd kk
  have e : (nInt σ k j (Int32.ofNat q)).2.2 k = upd (σ.2.2 k) j (Int32.ofNat q) := u2_s
  unfold fv
  rw [e]
  show (if rk (zk σ.2.1 k) i = 0 then _ else if rk (zk σ.2.1 k) i = 1 then _ else _) = _
  rw [hk]
  by_cases hi : i = j
  · subst hi
    rw [if_pos rfl, if_neg (by rw [hr]; decide), if_neg (by rw [hr]; decide)]
    have e2 : (upd (σ.2.2 k) i (Int32.ofNat q) i).toNatClampNeg = q := by
      simp only [upd, if_pos]
      exact nI_clamp (by omega)
    rw [e2]
    exact rfv_r (by omega)
  · rw [if_neg hi]
    simp only [upd, if_neg hi]
    rfl
theorem n_getr (C : CN x B cc nL own) {k c j index q : Nat} (hF : FLk BG own index c j) (hr : rk c j = 1) (hk : zk σ.2.1 k = c) (hkn : k < σ.1) (hz : zr σ.2.1 k j = q) (hq : q ≠ 999) (hd : decode cc pc = .ok (.getfield index, 3)) (kk : NK x B nL cells slots Q (pc + 3) lv (.ref (nad B q) :: st) σ) : NK x B nL cells slots Q pc lv (.ref (nad B k) :: st) σ := by
  intro H locs ls hW hS hl
  obtain ⟨N, T, n, h1, h2, h3, h4, h5⟩ := hF
  have hn := nfl_of h1
  have hv : fv (gN B σ.1) σ.2.1 σ.2.2 k j = .ref (nad B q) := by
    unfold fv
    rw [hk, if_neg (by rw [hr]; decide), if_pos hr, hz]
    exact rfv_r hq
  exact va_get C.1 C.2.1 C.2.2.2.2.1 h3 C.2.2.2.1 C.2.2.2.2.2.1.1 hW.1 k (by rw [wd_get (G := gN B σ.1) hkn, ce_obj hk h4]; rfl) h1 j h2 (C.2.2.2.2.1 _ h5) (fun _ h9 => h9) (fs_get (by rw [hn]; exact h2)) hd (by rw [hv]; exact kk H locs ls hW hS hl)
theorem n_iast (C : CN x B cc nL own) {k N : Nat} {i v : Int32} {j : Nat} (hk : zk σ.2.1 k = 20) (hkn : k < σ.1) (hN : zl σ.2.1 k = N) (hi : vp_in i N) (hj : i.toNatClampNeg = j) (hd : decode cc pc = .ok (.iastore, 1)) (kk : NK x B nL cells slots Q (pc + 1) lv st (nInt σ k j v)) : NK x B nL cells slots Q pc lv (.int v :: .int i :: .ref (nad B k) :: st) σ := by
  subst hj
  subst hN
  intro H locs ls hW hS hl
  have hw : va_at B.1 vwCl (nad B k, .inl (B.2.2.2.1 20, zl σ.2.1 k, .inl (σ.2.2 k))) H := by
    have h := wd_at.mp hW.1 k hkn
    rw [ce_arr hk (by decide) (by decide)] at h
    exact h
  refine W.iast C.1 C.2.1 hw ((C.2.2.2.2.2.1.1.2 0 _ rfl).1 (zl σ.2.1 k) (fun j => .int (σ.2.2 k j))) (fun q => by cases q) (by show ¬ (i < 0 ∨ (arrV _ _ _).slots.size ≤ _); rw [arrV_size]; exact hi) rfl rfl hd fun H1 e1 z1 o1 => ?_
  have hAk : bA B (nad B k) := by
    have h9 := hW.2.2
    show bb B ≤ nad B k
    rw [nad_lt (by omega)]
    omega
  have hne : ∀ q, q < σ.1 → q ≠ k → nad B q ≠ nad B k := fun q hq hqk e => by
    have h9 := hW.2.2
    rw [nad_lt (by omega), nad_lt (by omega)] at e
    omega
  refine kk H1 _ ls ⟨wd_at.mpr fun q hq => ?_, by rw [z1]; exact hW.2.1, hW.2.2⟩ (hS.put z1 o1 hAk) hl
  by_cases hqk : q = k
  · subst hqk
    have e : (nInt σ q i.toNatClampNeg v).2.2 q = upd (σ.2.2 q) i.toNatClampNeg v := u2_s
    show va_at B.1 vwCl (nad B q, ce (gN B σ.1) σ.2.1 (nInt σ q i.toNatClampNeg v).2.2 q) H1
    rw [ce_arr hk (by decide) (by decide), e]
    show H1[nad B q]? = some (vp_cell _ _)
    rw [e1]
    rw [vp_cell_i, vp_cell_i, arrV_store]
    congr 2
    funext p
    by_cases hp : p = i.toNatClampNeg
    · subst hp
      simp [updV, upd]
    · simp [updV, upd, hp]
  · have h := wd_at.mp hW.1 q hq
    have e : ce (gN B σ.1) σ.2.1 (nInt σ k i.toNatClampNeg v).2.2 q = ce (gN B σ.1) σ.2.1 σ.2.2 q := ce_row (u2_n hqk)
    show va_at B.1 vwCl (nad B q, ce (gN B σ.1) σ.2.1 (nInt σ k i.toNatClampNeg v).2.2 q) H1
    rw [e]
    exact h.kept (o1 _ (hne q hq hqk))
theorem n_aast (C : CN x B cc nL own) {k N q c : Nat} {i : Int32} {j : Nat} {Cn : String} {T : u_T} {n0 : Nat} (hc : vwCl[c]? = some (Cn, T, n0)) (hc20 : c < 20) (hat : (ats (gN B 0))[4]? = some (B.2.2.2.1 24, .object Cn)) (hk : zk σ.2.1 k = 24) (hkn : k < σ.1) (hN : zl σ.2.1 k = N) (hq : zk σ.2.1 q = c) (hqn : q < σ.1) (hi : vp_in i N) (hj : i.toNatClampNeg = j) (hd : decode cc pc = .ok (.aastore, 1)) (kk : NK x B nL cells slots Q (pc + 1) lv st (nRef σ k j q)) : NK x B nL cells slots Q pc lv (.ref (nad B q) :: .int i :: .ref (nad B k) :: st) σ := by
  subst hj
  subst hN
  intro H locs ls hW hS hl
  have hD := (gN_DA (B := B) hW.2.2).vd σ.2.1 σ.2.2
  have e0 : (wd (gN B σ.1) σ.2.1 σ.2.2)[k]? = some (nad B k, .inl (B.2.2.2.1 24, zl σ.2.1 k, .inr (.inr (.inr (.inr (fun j => rfo (gN B σ.1) (zr σ.2.1 k j))))))) := by
    rw [wd_get (G := gN B σ.1) hkn, ce_ref hk (by decide)]
    rfl
  have h9 := hW.2.2
  have hlt : i.toNatClampNeg < zl σ.2.1 k := Nat.not_le.mp fun q => hi (Or.inr q)
  have h0 : ¬ i < 0 := fun q => hi (Or.inl q)
  have hK := C.2.2.2.2.2.1.1
  obtain ⟨r', hr', cellV, g1, g2, g3, -⟩ := hW.1 q _ (show (wd (gN B σ.1) σ.2.1 σ.2.2)[q]? = some (nad B q, .inr (c, (List.range (nfl c)).map (fv (gN B σ.1) σ.2.1 σ.2.2 q))) by rw [wd_get (G := gN B σ.1) hqn, ce_obj hq hc20]; rfl)
  have hcls := (hK.1 c _ hc).2
  obtain ⟨kA, comp, k1, k2, k3, -⟩ := (hK.2 4 _ hat).2
  have hcomp : comp = B.1.1 c := Option.some.inj (k3.symm.trans hcls.1)
  subst hcomp
  obtain ⟨kC, hkC, -⟩ := hcls.2
  have hAk : bA B (nad B k) := by
    show bb B ≤ nad B k
    rw [nad_lt (by omega)]
    omega
  refine W.aast C.1 C.2.1 (hW.1 k _ e0) (fun q h => by cases h) (fun h => by cases h) k1 k2 rfl hkC ⟨h0, by show _ < (arrV _ _ _).slots.size; rw [arrV_size]; exact hlt⟩ g1 (fun q h => by rw [g3] at h; cases h) (by rw [g2]; exact hkC) (by rw [g2]; exact va_assign hcls) rfl rfl hd fun H1 e z oq => ?_
  refine kk H1 _ ls ⟨?_, by rw [z]; exact hW.2.1, hW.2.2⟩ (hS.put z oq hAk) hl
  refine NW.setk (Z := σ.2.1) (μ := σ.2.2) (e := .inl (B.2.2.2.1 24, zl σ.2.1 k, .inr (.inr (.inr (.inr (va_up (fun j => rfo (gN B σ.1) (zr σ.2.1 k j)) i.toNatClampNeg (some (nad B q)))))))) hkn ?_ (fun p hp => ce_Z rfl rfl (up_n hp) rfl) (hW.1.set hD e0 ?_ oq)
  · have e : zr (nRef σ k i.toNatClampNeg q).2.1 k = va_up (zr σ.2.1 k) i.toNatClampNeg q := up_s
    show ce (gN B σ.1) (nRef σ k i.toNatClampNeg q).2.1 σ.2.2 k = _
    rw [ce_ref (c := 24) (show zk (nRef σ k i.toNatClampNeg q).2.1 k = 24 from hk) (by decide), e]
    have e5 : (fun j => rfo (gN B σ.1) (va_up (zr σ.2.1 k) i.toNatClampNeg q j)) = va_up (fun j => rfo (gN B σ.1) (zr σ.2.1 k j)) i.toNatClampNeg (some (nad B q)) := by
      funext p
      by_cases hp : p = i.toNatClampNeg
      · subst hp
        rw [up_s, up_s]
        exact rfo_r (by omega)
      · rw [up_n hp, up_n hp]
    rw [e5]
    rfl
  · show H1[nad B k]? = some (vp_cell _ _)
    rw [e]
    rw [vp_cell_q, vp_cell_q, arrV_store]
    congr 2
    funext q
    by_cases hq : q = i.toNatClampNeg
    · subst hq
      simp [updV, va_up, va_rf]
    · simp [updV, va_up, hq]
theorem n_alen (C : CN x B cc nL own) {k N : Nat} (hk : zk σ.2.1 k = 20) (hkn : k < σ.1) (hN : zl σ.2.1 k = N) {v : Int32} (hv : Int32.ofNat N = v) (hd : decode cc pc = .ok (.arraylength, 1)) (kk : NK x B nL cells slots Q (pc + 1) lv (.int v :: st) σ) : NK x B nL cells slots Q pc lv (.ref (nad B k) :: st) σ := by
  subst hN
  exact fun H locs ls hW hS hl => va_alen C.1 C.2.1 C.2.2.2.2.2.1.1 hW.1 k 0 (by rw [wd_get (G := gN B σ.1) hkn, ce_arr hk (by decide) (by decide)]; rfl) rfl hv hd (kk H locs ls hW hS hl)
theorem n_ret (C : CN x B cc nL own) (hr : (xM x).sig.returnType = none) (hd : decode cc pc = .ok (.return_, 1)) : NK x B nL cells slots (QMN x B cells slots σ) pc lv [] σ :=
  fun H locs ls hW hS hl => W.vret C.1 C.2.1 hr (fun t ht hW' => ⟨rfl, by rw [ht]; exact hW, hS.F ht⟩) hS.2.2 hd (hlocks := C.2.2.2.2.2.2.1)
theorem n_met {l : Launch} {y : MethodName} {nL d mc ms : Nat} {av : List Value} {σ' : NS} (hy : plainName y.cls = true) (hy1 : y.name = "<init>") (hn : (lg_sl av).length ≤ nL)
    (h : ∀ x : CX, CN x B cc nL y.cls → (xM x).name = "<init>" → xR x = rmn d mc ms → x.2.1 = l → (xM x).sig.returnType = none → NK x B nL 0 0 (QMN x B mc ms σ') 0 (lv_args 0 av) [] σ) : MN l B y cc nL d mc ms av σ σ' := by
  refine Met.ofW (cc := cc) (maxL := nL) (ret := none) hy rfl ?_
  intro p e s m args below meth c s₁ Bd hml hv
  obtain ⟨rfl, hW, hKS, hbb, hao, haa⟩ := hv
  have hts := atoms_spec (ws := Cond.code y cc nL none :: BG) Bd.pre
  have hown : s.vm.findClass y.cls = some m.cls := findClass_of_methodNamed Bd.named
  have hin : meth.name = "<init>" := (name_of_methodNamed Bd.named Bd.method).1.trans hy1
  have hl := lv_entry av (n := nL) hn
  rw [lg_entry_eq]
  exact h (p, l, e, (headSpec (Cond.code y cc nL none :: BG) (rmn d mc ms)).room, s, m, av.toArray, below, meth, c) ⟨Bd.exec, Bd.bytes, hml, hown, fun w hw => hts w (List.mem_cons_of_mem _ hw), hKS, Bd.notSynchronized, hbb, hao, haa⟩ hin rfl rfl Bd.returns s.heap [] _ hW va_S.rf hl
theorem n_pre (C : CN x B cc nL own) {H : Heap} {locs : List Loc} (hW : NW B σ H) (hS : va_S (bA B) (xs x).heap H locs) {av : List Value} {U : State} (hU : U.heap = H) (hWm : (xs x).WarmedH U.vm) : PN B av σ av.toArray U :=
  ⟨rfl, by rw [hU]; exact hW, C.2.2.2.2.2.1.warm hWm, by rw [hU]; exact Nat.le_trans C.2.2.2.2.2.2.2.1 hS.1, C.2.2.2.2.2.2.2.2.1.moved hWm.alike, C.2.2.2.2.2.2.2.2.2.moved hWm.alike⟩
theorem n_back {H : Heap} {locs : List Loc} {ls : Array Slot} {st0 : List Value} {av : Array Value} {mc ms : Nat} {σ' : NS} (hS : va_S (bA B) (xs x).heap H locs) (hl : lv_has ls nL lv)
    (hr : va_Run x.1 x.2.1 x.2.2.1 (xR x) (xs x) (xm x) (xa x) (xb x) (xM x) (xc x) H locs cells slots mc ms (F0 (xm x) pc ls st0) st (QN B σ' av) (bA B))
    (kk : NK x B nL (cells + mc) (slots + ms) Q (pc + 3) lv st σ') : W x.1 x.2.1 x.2.2.1 (xR x) (xs x) (xm x) (xa x) (xb x) (xM x) (xc x) H locs cells slots Q (F0 (xm x) pc ls st0) := by
  intro T hT X
  obtain ⟨v, st₀, t, T', L, h0, X', hL, e1, e2, ⟨hv, hPt, hz, hk⟩, step⟩ := hr T hT X
  cases hv
  rw [h0] at hz hk
  obtain ⟨t2, a1, b1⟩ := kk T'.heap (locs ++ L) ls (by rw [e1]; exact hPt) ⟨Nat.le_trans hS.1 (by rw [e1]; exact hz), fun q h1 h2 => by rw [e1, hk q (Nat.lt_of_lt_of_le h1 hS.1) h2]; exact hS.2.1 q h1 h2, fun q hq => by
      rcases List.mem_append.mp hq with h | h
      · exact hS.2.2 q h
      · exact hL q h⟩ hl T' rfl X'
  exact ⟨t2, step t2 a1, b1⟩
def CWi (own : String) (index : Nat) (y : MethodName) (c : ByteArray) (n np : Nat) : Prop := (∀ w ∈ ([.methodLink own index y, .instanceMethod y, .initialized y.cls, .code y c n none] : List Cond), w ∈ BG) ∧ y.name = "<init>" ∧ y.cls ≠ "java/lang/invoke/MethodHandle" ∧ y.cls ≠ "java/lang/invoke/VarHandle" ∧ (parseMethodDescriptor y.desc).map (fun d => d.parameters.length) = some np
def CWj (own : String) (index : Nat) (y : MethodName) (c : ByteArray) (n np : Nat) : Prop := (∀ w ∈ ([.instanceMethod y, .initialized y.cls, .code y c n none] : List Cond), w ∈ BG) ∧ (∃ host, Cond.methodLinkNest own index y host ∈ nestW) ∧ y.name = "<init>" ∧ y.cls ≠ "java/lang/invoke/MethodHandle" ∧ y.cls ≠ "java/lang/invoke/VarHandle" ∧ (parseMethodDescriptor y.desc).map (fun d => d.parameters.length) = some np
theorem bgc {y : MethodName} {c : ByteArray} {n : Nat} (h : Cond.code y c n none ∈ BG) : GoodIn BG (Cond.code y c n none :: BG) := cw_good (fun w hw => by
  rcases List.mem_cons.mp hw with rfl | h'
  · exact h
  · exact h')
theorem n_ci (C : CN x B cc nL own) {d mc ms np : Nat} (hR1 : d + 1 ≤ (xR x).frames) (hR2 : 64 * (d + 1) ≤ (xR x).locals) (h1 : cells + mc ≤ (xR x).cells) (h2 : slots + ms ≤ (xR x).slots) {y : MethodName} {bytes : ByteArray} {n index : Nat} (cw : CWi own index y bytes n np) (hn40 : n ≤ 40) {k : Nat} (av : List Value) (hnp : av.length = np) {σ' : NS} (hM : MN x.2.1 B y bytes n d mc ms (.ref (nad B k) :: av) σ σ') (hst : (st.map fun v => v.category).sum ≤ 8) (hd : decode cc pc = .ok (.invokespecial index, 3)) {st0 : List Value} (hs : st0 = av.reverse ++ .ref (nad B k) :: st)
    (kk : NK x B nL (cells + mc) (slots + ms) Q (pc + 3) lv st σ') : NK x B nL cells slots Q pc lv st0 σ := by
  subst hs
  intro H locs ls hW hS hl
  have hts := C.2.2.2.2.1
  exact n_back hS hl (va_runI (As := av) (rest := st) ⟨C.1, C.2.1, C.2.2.1, C.2.2.2.1, hts⟩ hM (cwI np hts (bgc (cw.1 _ (by simp))) rfl rfl rfl (hts _ (cw.1 _ (by simp))) (hts _ (cw.1 _ (by simp))) (hts _ (cw.1 _ (by simp))) cw.2.1 cw.2.2 ⟨hR1, by show 8 + (n + 11) + 64 * d ≤ _; omega⟩) ⟨PN.blind, fun U hU hWm => n_pre C hW hS hU hWm⟩ rfl hnp hl.1 rfl (lv_room hst) hd ⟨h1, h2⟩) kk
theorem n_cj (C : CN x B cc nL own) {d mc ms np : Nat} (hR1 : d + 1 ≤ (xR x).frames) (hR2 : 64 * (d + 1) ≤ (xR x).locals) (h1 : cells + mc ≤ (xR x).cells) (h2 : slots + ms ≤ (xR x).slots) {y : MethodName} {bytes : ByteArray} {n index : Nat} (cw : CWj own index y bytes n np) (hn40 : n ≤ 40) {k : Nat} (av : List Value) (hnp : av.length = np) {σ' : NS} (hM : MN x.2.1 B y bytes n d mc ms (.ref (nad B k) :: av) σ σ') (hst : (st.map fun v => v.category).sum ≤ 8) (hd : decode cc pc = .ok (.invokespecial index, 3)) {st0 : List Value} (hs : st0 = av.reverse ++ .ref (nad B k) :: st)
    (kk : NK x B nL (cells + mc) (slots + ms) Q (pc + 3) lv st σ') : NK x B nL cells slots Q pc lv st0 σ := by
  subst hs
  intro H locs ls hW hS hl
  have hts := C.2.2.2.2.1
  obtain ⟨cw1, ⟨host, hh⟩, cw2, cw3⟩ := cw
  exact n_back hS hl (va_runIN (As := av) (rest := st) ⟨C.1, C.2.1, C.2.2.1, C.2.2.2.1, hts⟩ hM ⟨va_cnB np hts (bgc (cw1 _ (by simp))) rfl rfl rfl (C.2.2.2.2.2.1.2.1 _ hh) (hts _ (cw1 _ (by simp))) cw3 ⟨hR1, by show 8 + (n + 11) + 64 * d ≤ _; omega⟩, cw2, hts _ (cw1 _ (by simp))⟩ ⟨PN.blind, fun U hU hWm => n_pre C hW hS hU hWm⟩ rfl hnp hl.1 rfl (lv_room hst) hd ⟨h1, h2⟩) kk
end NCTOR
/-! what making keeps: kinds and lengths of the cells that were there; the references of a cell that isn't set -/
def KP (σ σ' : NS) : Prop := σ.1 ≤ σ'.1 ∧ ∀ k, k < σ.1 → zk σ'.2.1 k = zk σ.2.1 k ∧ zl σ'.2.1 k = zl σ.2.1 k
theorem KP.rf {σ : NS} : KP σ σ := ⟨Nat.le_refl _, fun _ _ => ⟨rfl, rfl⟩⟩
theorem KP.tr {σ σ' σ'' : NS} (h : KP σ σ') (h' : KP σ' σ'') : KP σ σ'' := ⟨Nat.le_trans h.1 h'.1, fun k hk => ⟨((h'.2 k (Nat.lt_of_lt_of_le hk h.1)).1).trans (h.2 k hk).1, ((h'.2 k (Nat.lt_of_lt_of_le hk h.1)).2).trans (h.2 k hk).2⟩⟩
theorem KP.obj {σ : NS} {c : Nat} : KP σ (nObj σ c) := ⟨Nat.le_succ _, fun k hk => ⟨up_n (Nat.ne_of_lt hk), rfl⟩⟩
theorem KP.arr {σ : NS} {t N : Nat} : KP σ (nArr σ t N) := ⟨Nat.le_succ _, fun k hk => ⟨up_n (Nat.ne_of_lt hk), up_n (Nat.ne_of_lt hk)⟩⟩
theorem KP.mul {σ : NS} {N K : Nat} : KP σ (nMul σ N K) := by
  refine ⟨by show σ.1 ≤ σ.1 + 1 + N; omega, fun k hk => ?_⟩
  have h1 : ¬ k = σ.1 := by omega
  have h2 : ¬ (σ.1 < k ∧ k < σ.1 + 1 + N) := by omega
  constructor
  · show (if k = σ.1 then _ else if _ then _ else _) = _
    rw [if_neg h1, if_neg h2]
  · show (if k = σ.1 then _ else if _ then _ else _) = _
    rw [if_neg h1, if_neg h2]
theorem KP.ref {σ : NS} {k j q : Nat} : KP σ (nRef σ k j q) := ⟨Nat.le_refl _, fun _ _ => ⟨rfl, rfl⟩⟩
theorem KP.int {σ : NS} {k j : Nat} {v : Int32} : KP σ (nInt σ k j v) := ⟨Nat.le_refl _, fun _ _ => ⟨rfl, rfl⟩⟩
def KR (σ σ' : NS) (k : Nat) : Prop := zr σ'.2.1 k = zr σ.2.1 k
theorem KR.tr {σ σ' σ'' : NS} {k : Nat} (h : KR σ σ' k) (h' : KR σ' σ'' k) : KR σ σ'' k := Eq.trans h' h
theorem KR.obj {σ : NS} {c k : Nat} (h : k < σ.1) : KR σ (nObj σ c) k := up_n (Nat.ne_of_lt h)
theorem KR.arr {σ : NS} {t N k : Nat} (h : k < σ.1) : KR σ (nArr σ t N) k := up_n (Nat.ne_of_lt h)
theorem KR.mul {σ : NS} {N K k : Nat} (h : k < σ.1) : KR σ (nMul σ N K) k := up_n (Nat.ne_of_lt h)
theorem KR.ref {σ : NS} {k j q p : Nat} (h : p ≠ k) : KR σ (nRef σ k j q) p := up_n h
theorem KR.int {σ : NS} {k j p : Nat} {v : Int32} : KR σ (nInt σ k j v) p := rfl
theorem KR.at {σ : NS} {k j q : Nat} : zr (nRef σ k j q).2.1 k j = q := by
  have e : zr (nRef σ k j q).2.1 k = va_up (zr σ.2.1 k) j q := up_s
  rw [e, up_s]
theorem KR.ne {σ : NS} {k j i q : Nat} (h : i ≠ j) : zr (nRef σ k j q).2.1 k i = zr σ.2.1 k i := by
  have e : zr (nRef σ k j q).2.1 k = va_up (zr σ.2.1 k) j q := up_s
  rw [e, up_n h]
section NSTAT
variable {x : CX} {B : BT} {nL cells slots : Nat} {Q : State → Prop} {pc : Nat} {lv : List (Nat × Value)} {st : List Value} {σ : NS} {cc : ByteArray} {own : String}
theorem n_metS {l : Launch} {y : MethodName} {nL d mc ms : Nat} {av : List Value} {σ' : NS} (hy : plainName y.cls = true) (hn : (lg_sl av).length ≤ nL)
    (h : ∀ x : CX, CN x B cc nL y.cls → xR x = rmn d mc ms → x.2.1 = l → (xM x).sig.returnType = none → NK x B nL 0 0 (QMN x B mc ms σ') 0 (lv_args 0 av) [] σ) : MN l B y cc nL d mc ms av σ σ' := by
  refine Met.ofW (cc := cc) (maxL := nL) (ret := none) hy rfl ?_
  intro p e s m args below meth c s₁ Bd hml hv
  obtain ⟨rfl, hW, hKS, hbb, hao, haa⟩ := hv
  have hts := atoms_spec (ws := Cond.code y cc nL none :: BG) Bd.pre
  have hown : s.vm.findClass y.cls = some m.cls := findClass_of_methodNamed Bd.named
  have hl := lv_entry av (n := nL) hn
  rw [lg_entry_eq]
  exact h (p, l, e, (headSpec (Cond.code y cc nL none :: BG) (rmn d mc ms)).room, s, m, av.toArray, below, meth, c) ⟨Bd.exec, Bd.bytes, hml, hown, fun w hw => hts w (List.mem_cons_of_mem _ hw), hKS, Bd.notSynchronized, hbb, hao, haa⟩ rfl rfl Bd.returns s.heap [] _ hW va_S.rf hl
theorem n_cs (C : CN x B cc nL own) {d mc ms np : Nat} (hR1 : d + 1 ≤ (xR x).frames) (hR2 : 64 * (d + 1) ≤ (xR x).locals) (h1 : cells + mc ≤ (xR x).cells) (h2 : slots + ms ≤ (xR x).slots) {y : MethodName} {bytes : ByteArray} {n index : Nat} (cw : CWs own index y bytes n none np) (hn40 : n ≤ 40) (av : List Value) (hnp : av.length = np) {σ' : NS} (hM : MN x.2.1 B y bytes n d mc ms av σ σ') (hst : (st.map fun v => v.category).sum ≤ 8) (hd : decode cc pc = .ok (.invokestatic index, 3)) {st0 : List Value} (hs : st0 = av.reverse ++ st)
    (kk : NK x B nL (cells + mc) (slots + ms) Q (pc + 3) lv st σ') : NK x B nL cells slots Q pc lv st0 σ := by
  subst hs
  intro H locs ls hW hS hl
  have hts := C.2.2.2.2.1
  have hG : GoodIn BG (va_wsS own index y (Cond.code y bytes n none :: BG)) := cw_good (fun w hw => by
    rcases List.mem_append.mp hw with h | h
    · simp only [List.mem_cons, List.not_mem_nil, or_false] at h
      exact cw.1 w (by rcases h with h | h | h <;> simp [h])
    · rcases List.mem_cons.mp h with rfl | h
      · exact cw.1 _ (by simp)
      · exact h)
  exact n_back hS hl (va_runS (As := av) (rest := st) ⟨C.1, C.2.1, C.2.2.1, C.2.2.2.1, hts⟩ hM (va_cwS np hts hG rfl rfl rfl cw.2 ⟨hR1, by show 8 + (n + 11) + 64 * d ≤ _; omega⟩) ⟨PN.blind, fun U hU hWm => n_pre C hW hS hU hWm⟩ rfl hnp hl.1 rfl (lv_room hst) hd ⟨h1, h2⟩) kk
end NSTAT
