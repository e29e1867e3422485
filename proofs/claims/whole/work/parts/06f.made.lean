/-! ===== places set, constructors called ===== -/
section VGM2
variable {p : Program} {l : Launch} {e : Env} {R : Room} {s : State} {m : MethodId} {args : Array Value} {below : List Frame} {meth : Method} {c : Code} {H : Heap} {locs : List Loc} {cells slots : Nat} {Q : State → Prop}
variable {cc : ByteArray} {pc : Nat} {ls : Array Slot} {rest : List Value}
theorem mna_outer (c : ClassId) (N h0 : Nat) : ∀ i : Nat, Jvm.Free.Multi.outerC c N h0 i = arrV c N (fun j => va_rf (if j < i then some (h0 + 1 + j) else none))
  | 0 => by
    show ({ cls := c, slots := Array.replicate N .null, vm := .none } : Cell) = _
    rw [arrV_new]
    refine congrArg (arrV c N) (funext fun j => ?_)
    simp [va_rf]
  | i + 1 => by
    show (Jvm.Free.Multi.outerC c N h0 i).setSlot i (.ref (h0 + 1 + i)) = _
    rw [mna_outer c N h0 i, arrV_store]
    refine congrArg (arrV c N) (funext fun j => ?_)
    by_cases e : j = i
    · subst e
      simp [updV, va_rf]
    · by_cases h : j < i
      · simp [updV, e, h, Nat.lt_succ_of_lt h]
      · simp [updV, e, h, show ¬ j < i + 1 by omega]
/-- new int[n][k], by the addresses -/
theorem mna_raw (hexec : p.tables.exec = Jvm.exec) (hb : c.code = cc) {own : String} {index : Nat} {ty : FieldType} {cy : ClassId} (hown : s.vm.findClass own = some m.cls) (hclink : (Cond.classLink own index ("[" ++ (FieldType.array ty).toString)).before args s = true) (hover : (Cond.arrayOver (.array ty)).before args s = true) (harr : (Cond.arrayClass ty).before args s = true) (hcy : s.vm.findClass (FieldType.array ty).toString = some cy)
    {n k : Int32} {N' K' : Nat} {z : vp_A} (hn : ¬ n < 0) (hk : ¬ k < 0) (hN : n.toNatClampNeg = N') (hM : k.toNatClampNeg = K')
    (hb1 : N' * 4 ≤ 536870912) (hb2 : K' * componentBytes ty ≤ 536870912) (hb3 : K' ≤ 536870912) (hdf : fits ty (defaultValue ty) = true) (hdd : (defaultValue ty).isDefault = true) (hcells : cells + (1 + N') ≤ R.cells) (hslots : slots + (N' + N' * K') ≤ R.slots) (hz : ∀ c : ClassId, Jvm.Free.Multi.innerC c K' (defaultValue ty) = vp_cell c z) (hdg : decode cc pc = .ok (.multianewarray index 2, 4))
    (kk : ∀ (cA : ClassId) (H1 : Heap), s.vm.findClass ("[" ++ (FieldType.array ty).toString) = some cA → H1.size = H.size + (1 + N') → (∀ q, q < H.size → H1[q]? = H[q]?) → (∀ j, j < N' → H1[H.size + 1 + j]? = some (vp_cell cy z)) → H1[H.size]? = some (arrV cA N' (fun j => va_rf (if j < N' then some (H.size + 1 + j) else none))) →
      W p l e R s m args below meth c H1 locs (cells + 1 + N') (slots + N' + N' * K') Q (F0 m (pc + 4) ls (.ref H.size :: rest))) : W p l e R s m args below meth c H locs cells slots Q (F0 m pc ls (.int k :: .int n :: rest)) := by
  subst hN
  subst hM
  intro T hT Xs
  obtain ⟨vm₁, cA, comp, -, fA, fC, hO, -, X', step⟩ := Xs.multianewarray2F hexec hown hclink hover harr (g := F0 m pc ls (.int k :: .int n :: rest)) rfl (by rw [hb]; exact hdg) rfl hn hk hb1 hb2 hb3 hdf hdd hcells hslots
  have ec : some cy = some comp := hcy.symm.trans fC
  cases ec
  generalize hF : Jvm.Free.Multi.fill (T.setVm vm₁) cA cy n.toNatClampNeg k.toNatClampNeg (defaultValue ty) n.toNatClampNeg = F at X' step
  have hTh : (T.setVm vm₁).heap = H := hT
  obtain ⟨f1, f2, -, -⟩ := Jvm.Free.Multi.fill_facts (T.setVm vm₁) cA cy n.toNatClampNeg k.toNatClampNeg (defaultValue ty) n.toNatClampNeg
  rw [hF, hTh] at f1 f2
  have hold : ∀ x : Nat, x < H.size → F.heap[x]? = H[x]? := fun x hx => by
    have := Jvm.Free.Multi.fill_old (T.setVm vm₁) cA cy n.toNatClampNeg k.toNatClampNeg (defaultValue ty) (a := x) (by rw [hTh]; exact hx) n.toNatClampNeg
    rw [hF, hTh] at this
    exact this
  have hrow : ∀ j : Nat, j < n.toNatClampNeg → F.heap[H.size + 1 + j]? = some (vp_cell cy z) := fun j hj => by
    have := Jvm.Free.Multi.fill_inner (T.setVm vm₁) cA cy n.toNatClampNeg k.toNatClampNeg (defaultValue ty) n.toNatClampNeg j hj
    rw [hF, hTh, hz] at this
    exact this
  rw [mna_outer] at f2
  obtain ⟨t, a1, b1⟩ := kk cA F.heap fA (by rw [f1]; omega) hold hrow f2 F rfl X'
  refine ⟨t, step t ?_, b1⟩
  have e : T.heap.size = H.size := by rw [hT]
  rw [e]
  exact a1
end VGM2
def PN (B : BT) (av : List Value) (σ : NS) : Array Value → State → Prop := va_Pc av (fun U => NW B σ U.heap ∧ KS (gN B 0) U ∧ bb B ≤ U.heap.size ∧ va_AO "SeamPull$Panel" U ∧ AOA U)
def QN (B : BT) (σ : NS) : Array Value → State → Outcome → State → Prop := fun _ st oc t => oc = .returned none ∧ NW B σ t.heap ∧ va_F (bA B) st t
abbrev rmn (d mc ms : Nat) : Room := { frames := d, cells := mc, slots := ms, locals := 64 * d }
def MN (l : Launch) (B : BT) (y : MethodName) (c : ByteArray) (n d mc ms : Nat) (av : List Value) (σ σ' : NS) : Prop := Met l y (Cond.code y c n none :: BG) (rmn d mc ms) (PN B av σ) (QN B σ') mc ms (bA B)
def QMN (x : CX) (B : BT) (mc ms : Nat) (σ : NS) : State → Prop := MQ (xb x) (QN B σ) (xa x) (xs x) mc ms (bA B)
theorem PN.blind {B : BT} {av : List Value} {σ : NS} : FrameBlind (PN B av σ) := by
  intro a U g mk h
  obtain ⟨h1, h2, h3, h4, h5, h6⟩ := h
  exact ⟨h1, h2, KS.same (s := U) (U := U.calling g mk a) rfl h3, h4, va_AO.moved (u := U) (U := U.calling g mk a) (Vm.Alike.refl U.vm) h5, AOA.moved (u := U) (U := U.calling g mk a) (Vm.Alike.refl U.vm) h6⟩
section NMADE
variable {x : CX} {B : BT} {nL cells slots : Nat} {Q : State → Prop} {pc : Nat} {lv : List (Nat × Value)} {st : List Value} {σ : NS} {cc : ByteArray} {own : String}
/-- new int[N][K] -/
theorem n_mul (C : CN x B cc nL own) {index N K : Nat} {n k : Int32} (hw : Cond.classLink own index "[[I" ∈ BG) (hw2 : Cond.arrayClass .int ∈ BG) (hn0 : ¬ n < 0) (hk0 : ¬ k < 0) (hN : n.toNatClampNeg = N) (hK : k.toNatClampNeg = K) (hb1 : N * 4 ≤ 536870912) (hb2 : K * 4 ≤ 536870912) (hn : σ.1 + 1 + N < 900) (h1 : cells + (1 + N) ≤ (xR x).cells) (h2 : slots + (N + N * K) ≤ (xR x).slots) (hd : decode cc pc = .ok (.multianewarray index 2, 4))
    (kk : NK x B nL (cells + 1 + N) (slots + N + N * K) Q (pc + 4) lv (.ref (nad B σ.1) :: st) (nMul σ N K)) : NK x B nL cells slots Q pc lv (.int k :: .int n :: st) σ := by
  intro H locs ls hW hS hl
  have hKK := C.2.2.2.2.2.1.1
  have hsz : H.size = nad B σ.1 := by rw [hW.2.1, nad_lt (by omega)]
  have hI : (xs x).vm.findClass (FieldType.array .int).toString = some (B.2.2.2.1 20) := (hKK.2 0 _ rfl).2
  have hII : (xs x).vm.findClass ("[" ++ (FieldType.array .int).toString) = some (B.2.2.2.1 23) := (hKK.2 3 _ rfl).2
  refine mna_raw (ty := .int) (z := (K, .inl (fun _ => 0))) C.1 C.2.1 C.2.2.2.1 (C.2.2.2.2.1 _ hw) (AOA.use C.2.2.2.2.2.2.2.2.2) (C.2.2.2.2.1 _ hw2) hI hn0 hk0 hN hK hb1 hb2 (by omega) rfl rfl h1 h2 (fun c => ?_) hd (fun cA H1 fA z1 o1 r1 e1 => ?_)
  · show ({ cls := c, slots := Array.replicate K (.int 0), vm := .none } : Cell) = _
    exact arrV_new c K (.int 0)
  have hA : B.2.2.2.1 23 = cA := Option.some.inj (hII.symm.trans fA)
  rw [hsz] at z1 o1 r1 e1 ⊢
  have hz1 : H1.size = nad B σ.1 + (1 + N) := z1
  refine kk H1 locs ls ⟨wd_at.mpr fun q hq => ?_, ?_, ?_⟩ (nS hW (by omega) hS hz1 o1) hl
  · have hq : q < σ.1 + 1 + N := hq
    by_cases hqn : q < σ.1
    · have hlt : ∀ q, q < σ.1 → nad B q < nad B σ.1 := fun q hq => by rw [nad_lt (by omega), nad_lt (by omega)]; omega
      exact hW.kept (fun q hq => o1 _ (hlt q hq)) (fun q hq => by
        have hne : q ≠ σ.1 := by omega
        have hni : ¬ (σ.1 < q ∧ q < σ.1 + 1 + N) := by omega
        refine ce_Z (G := gN B σ.1) ?_ ?_ (up_n hne) ?_
        · show (if q = σ.1 then _ else if _ then _ else _) = _
          rw [if_neg hne, if_neg hni]
        · show (if q = σ.1 then _ else if _ then _ else _) = _
          rw [if_neg hne, if_neg hni]
        · show (if _ then _ else _) = _
          rw [if_neg hni]) q hqn
    · by_cases hqe : q = σ.1
      · subst hqe
        have hzk : zk (nMul σ N K).2.1 σ.1 = 23 := if_pos rfl
        have hzl : zl (nMul σ N K).2.1 σ.1 = N := if_pos rfl
        have hzr : zr (nMul σ N K).2.1 σ.1 = fun i => if i < N then σ.1 + 1 + i else 999 := up_s
        rw [ce_ref hzk (by decide), hzl, hzr]
        show H1[nad B σ.1]? = some (vp_cell _ _)
        rw [e1, vp_cell_q]
        show some (arrV cA N _) = some (arrV (B.2.2.2.1 23) N _)
        rw [hA]
        congr 2
        funext j
        by_cases hj : j < N
        · simp only [if_pos hj]
          rw [show rfo (gN B (nMul σ N K).1) (σ.1 + 1 + j) = some (nad B (σ.1 + 1 + j)) from rfo_r (by omega)]
          rw [nad_lt (by omega), nad_lt (by omega)]
          congr 2
          omega
        · simp only [if_neg hj]
          rfl
      · have hni : σ.1 < q ∧ q < σ.1 + 1 + N := by omega
        have hzk : zk (nMul σ N K).2.1 q = 20 := by
          show (if q = σ.1 then _ else if _ then _ else _) = _
          rw [if_neg hqe, if_pos hni]
        have hzl : zl (nMul σ N K).2.1 q = K := by
          show (if q = σ.1 then _ else if _ then _ else _) = _
          rw [if_neg hqe, if_pos hni]
        have hm : (nMul σ N K).2.2 q = fun _ => 0 := by
          show (if _ then _ else _) = _
          rw [if_pos hni]
        rw [ce_arr hzk (by decide) (by decide), hzl, hm]
        have hr := r1 (q - σ.1 - 1) (by omega)
        rw [show nad B σ.1 + 1 + (q - σ.1 - 1) = nad B q from by rw [nad_lt (by omega), nad_lt (by omega)]; omega] at hr
        exact hr
  · rw [hz1, nad_lt (by omega)]
    show _ = bb B + (σ.1 + 1 + N)
    omega
  · show σ.1 + 1 + N ≤ 900
    omega
/-- a place of a cell set, seen from the world -/
theorem NW.setk {H1 : Heap} {n : Nat} {Z Z' : ZT} {μ ν : MT} {k : Nat} {e : va_E} (hk : k < n) (he : ce (gN B n) Z' ν k = e) (ho : ∀ q, q ≠ k → ce (gN B n) Z' ν q = ce (gN B n) Z μ q) (h : va_P B.1 vwCl ((wd (gN B n) Z μ).set k (nad B k, e)) H1) : va_P B.1 vwCl (wd (gN B n) Z' ν) H1 := by
  have ee : (wd (gN B n) Z μ).set k (nad B k, e) = wd (gN B n) Z' ν := by
    subst he
    apply List.ext_getElem?
    intro i
    rw [List.getElem?_set]
    by_cases hi : k = i
    · subst hi
      have hl : k < (wd (gN B n) Z μ).length := by simp [wd]; exact hk
      rw [if_pos rfl, if_pos hl, wd_get (G := gN B n) hk]
      rfl
    · rw [if_neg hi]
      by_cases hg : i < n
      · rw [wd_get (G := gN B n) hg, wd_get (G := gN B n) hg, ho i (fun q => hi q.symm)]
      · have hn : ∀ (ζ : ZT) (ξ : MT), (wd (gN B n) ζ ξ)[i]? = none := fun ζ ξ => List.getElem?_eq_none (by simp [wd]; exact Nat.not_lt.mp hg)
        rw [hn, hn]
  rw [← ee]
  exact h
theorem NW.size {H H1 : Heap} {locs locs1 : List Loc} {A : Nat → Prop} {H0 : Heap} (h : H.size = H1.size) {n : Nat} (hs : H.size = bb B + n) : H1.size = bb B + n := by rw [← h, hs]
/-- setting a field in a constructor: final or not -/
theorem n_putv (C : CN x B cc nL own) {k c j index : Nat} {v : Value} {σ' : NS} (hin2 : (xM x).name = "<init>") (hF : FLk BG own index c j) (hty : ∃ (N : String) (T : u_T) (n : Nat) (ty : Nat → FieldType), vwCl[c]? = some (N, T, n) ∧ (∀ k, k < n → parseFieldDescriptor (T k).2.2.1 = some (ty k)) ∧ (∀ a, a < n → ∀ b, b < n → a ≠ b → (T a).2.1 ≠ (T b).2.1) ∧ (T j).1 = own ∧ ty j = fty c j)
    (hn : narrow (fty c j) v = v) (hf : fits (fty c j) v = true) (hk : zk σ.2.1 k = c) (hkn : k < σ.1) (hs1 : σ'.1 = σ.1) (hzk : zk σ'.2.1 = zk σ.2.1) (hzl : zl σ'.2.1 = zl σ.2.1) (ho : ∀ q, q ≠ k → zr σ'.2.1 q = zr σ.2.1 q ∧ σ'.2.2 q = σ.2.2 q) (hfv : ∀ i, fv (gN B 0) σ'.2.1 σ'.2.2 k i = if i = j then v else fv (gN B 0) σ.2.1 σ.2.2 k i)
    (hd : decode cc pc = .ok (.putfield index, 3)) (kk : NK x B nL cells slots Q (pc + 3) lv st σ') : NK x B nL cells slots Q pc lv (v :: .ref (nad B k) :: st) σ := by
  intro H locs ls hW hS hl
  obtain ⟨N, T, n, h1, h2, h3, h4, h5⟩ := hF
  obtain ⟨N', T', n', ty, q1, q2, q3, q4, q5⟩ := hty
  cases h1.symm.trans q1
  have hnf := nfl_of h1
  have hK := C.2.2.2.2.2.1.1
  have hD := (gN_DA (B := B) hW.2.2).vd σ.2.1 σ.2.2
  have hob : ce (gN B σ.1) σ.2.1 σ.2.2 k = .inr (c, (List.range (nfl c)).map (fv (gN B σ.1) σ.2.1 σ.2.2 k)) := ce_obj hk h4
  have hset : ((List.range (nfl c)).map (fv (gN B σ.1) σ.2.1 σ.2.2 k)).set j v = (List.range (nfl c)).map (fv (gN B σ.1) σ'.2.1 σ'.2.2 k) := by
    apply List.ext_getElem?
    intro i
    rw [List.getElem?_set, List.length_map, List.length_range]
    have hfv' : fv (gN B σ.1) σ'.2.1 σ'.2.2 k i = if i = j then v else fv (gN B σ.1) σ.2.1 σ.2.2 k i := hfv i
    by_cases hi : j = i
    · subst hi
      rw [if_pos rfl]
      by_cases hj : j < nfl c
      · rw [if_pos hj, fs_get hj, hfv', if_pos rfl]
      · rw [if_neg hj, List.getElem?_eq_none (by simp; omega)]
    · rw [if_neg hi]
      by_cases hg : i < nfl c
      · rw [fs_get hg, fs_get hg, hfv', if_neg (fun q => hi q.symm)]
      · rw [List.getElem?_eq_none (by simp; omega), List.getElem?_eq_none (by simp; omega)]
  have go : ∀ (H1 : Heap) (locs1 : List Loc), va_P B.1 vwCl ((wd (gN B σ.1) σ.2.1 σ.2.2).set k (nad B k, .inr (c, ((List.range (nfl c)).map (fv (gN B σ.1) σ.2.1 σ.2.2 k)).set j v))) H1 → H1.size = H.size → va_S (bA B) (xs x).heap H1 locs1 → W x.1 x.2.1 x.2.2.1 (xR x) (xs x) (xm x) (xa x) (xb x) (xM x) (xc x) H1 locs1 cells slots Q (F0 (xm x) (pc + 3) ls st) := by
    intro H1 locs1 hP1 hz hS1
    refine kk H1 locs1 ls ⟨?_, ?_, ?_⟩ hS1 hl
    · rw [hs1]
      refine NW.setk hkn ?_ (fun q hq => ?_) hP1
      · rw [ce_obj (c := c) (by rw [hzk]; exact hk) h4, hset]
      · exact ce_Z (by rw [hzk]) (by rw [hzl]) (ho q hq).1 (ho q hq).2
    · rw [hz, hW.2.1, hs1]
    · rw [hs1]; exact hW.2.2
  obtain ⟨r, g1, cell, w1, w2, w3, w4⟩ := hW.1 k _ (by rw [wd_get (G := gN B σ.1) hkn, hob])
  have hr : r = (N, T, n) := Option.some.inj (g1.symm.trans h1)
  subst hr
  obtain ⟨hSl, hfc, kC, hkC, hkind⟩ := hK.1 c _ h1
  obtain ⟨cf, kf, fi, f, hi, hsl⟩ := hSl j h2
  have hlay := u_lays C.2.2.2.2.1 h3 h2
  have hst := (u_facts hfc hkC hlay hi).1
  have hap := va_apart (own := own) C.2.2.2.2.1 h3 ty q2 q3 hK h1
  have h6 := u_fits hfc hkC hkind hlay hi (q2 j h2) (by rw [q5]; exact hn) (by rw [q5]; exact hf)
  have hob2 : ∀ H1 : Heap, H1[nad B k]? = some (cell.setSlot f.slot v) → (∀ q, q ≠ nad B k → H1[q]? = H[q]?) → va_P B.1 vwCl ((wd (gN B σ.1) σ.2.1 σ.2.2).set k (nad B k, .inr (c, ((List.range (nfl c)).map (fv (gN B σ.1) σ.2.1 σ.2.2 k)).set j v))) H1 := by
    intro H1 e1 e3
    rw [hsl] at e1
    exact hW.1.set hD (by rw [wd_get (G := gN B σ.1) hkn, hob]; rfl) ⟨_, h1, t_OB.to (V := updV (vp_V _) j v) ⟨_, e1, w2, w3, t_set w4 hap h2 v⟩ (fun i _ => vp_updV_set (by rw [List.length_map, List.length_range, hnf]; exact h2) v i)⟩ e3
  have hAk : bA B (nad B k) := by
    have h9 := hW.2.2
    show bb B ≤ nad B k
    rw [nad_lt (by omega)]
    omega
  by_cases hfin : (T j).2.2.2 = true
  · have hlf := C.2.2.2.2.1 _ (h3 _ (u_in_lay h2))
    unfold u_lay at hlf
    rw [if_pos hfin] at hlf
    have hcf : (xm x).cls = cf := by
      obtain ⟨_, _, c', _, _, _, -, -, hf', -, -, -, hown2, -⟩ := Cond.laysFinal_spec hlf
      have e1 : c' = cf := by have := hi.symm.trans hf'; simp at this; exact this.1.symm
      rw [q4] at hown2
      rw [← e1]; exact Option.some.inj (C.2.2.2.1.symm.trans hown2)
    refine W.putFinK C.1 C.2.1 C.2.2.2.1 (C.2.2.2.2.1 _ h5) hi hst hcf hin2 (by rw [w2]; exact h6) w1 w3 (by rw [hsl]; exact k2_hasslot (w4 j h2)) rfl rfl hd fun H' e1 e2 e3 => ?_
    exact go H' _ (hob2 H' e1 e3) e2 (hS.put e2 e3 hAk)
  · have hlf := C.2.2.2.2.1 _ (h3 _ (u_in_lay h2))
    unfold u_lay at hlf
    rw [if_neg hfin] at hlf
    have h7 := u_store hfc hkC hkind hlf hi (q2 j h2) (by rw [q5]; exact hn) (by rw [q5]; exact hf)
    refine W.putK C.1 C.2.1 (f := f) ⟨C.2.2.2.1, C.2.2.2.2.1 _ h5, ⟨_, _, _, hi⟩, hst⟩ (by rw [w2]; exact h7) w1 w3 (by rw [hsl]; exact k2_hasslot (w4 j h2)) rfl rfl hd fun H' e1 e2 e3 => ?_
    exact go H' _ (hob2 H' e1 e3) e2 (hS.put e2 e3 hAk)
end NMADE
