/-! ===== calls by what they answer; statics; switches; System.arraycopy ===== -/
theorem RO.le {x : CX} {cs : Nat × Nat} {d d' : Nat} (h : RO x cs d) (hd : d' ≤ d) : RO x cs d' := by
  obtain ⟨h1, h2, h3, h4⟩ := h
  exact ⟨Nat.le_trans hd h1, by omega, h3, h4⟩
section ROC
variable {p : Program} {l : Launch} {e : Env} {R : Room} {s : State} {m : MethodId} {args : Array Value} {below : List Frame} {meth : Method} {c : Code} {H : Heap} {locs : List Loc} {cells slots : Nat} {Q : State → Prop}
variable {cc : ByteArray} {pc : Nat} {ls : Array Slot} {rest : List Value} {D : va_G} {cl : List vw_C} {A : Nat → Prop} {a : Nat} {tys : List (ClassId × FieldType)} {ws : va_W} {H0 : Heap}
theorem rocopy {cc : ByteArray} (hexec : p.tables.exec = Jvm.exec) (hb : c.code = cc) (hml : c.maxLocals = ls.size) {own : String} {index : Nat} (hown : s.vm.findClass own = some m.cls) (hlink : (Cond.methodLink own index arraycopyName).before args s = true) (hnat : (Cond.native arraycopyName).before args s = true) (hstat : (Cond.static arraycopyName).before args s = true) (hini : (Cond.initialized "java/lang/System").before args s = true)
    (hK : va_K D cl tys s) (hP : va_P D cl ws H) (hD : va_D A ws) (hS : va_S A s.heap H locs) {b0 n0 : Nat} {f : Nat → Int32} (hX : va_T .int b0 n0 (fun j => .int (f j)) A s s.heap) (q1 t1 : Nat) {c1 : ClassId} {n1 : Nat} {g : Nat → Int32} (ha1 : ws[q1]? = some (a, .inl (c1, n1, .inl g))) (ht1 : tys[t1]? = some (c1, .int))
    {sp dp n : Int32} (h1 : ¬ sp < 0) (h2 : ¬ dp < 0) (h3 : ¬ n < 0) (h4 : sp.toNatClampNeg + n.toNatClampNeg ≤ n0) (h5 : dp.toNatClampNeg + n.toNatClampNeg ≤ n1)
    (hframes : 1 ≤ R.frames) (hlocals : (rest.map fun v => v.category).sum + (nativeFrameWords "java/lang/System" "arraycopy" 5 + 11) ≤ R.locals) (hdg : decode cc pc = .ok (.invokestatic index, 3))
    (kk : ∀ (H1 : Heap) (locs1 : List Loc), va_P D cl (ws.set q1 (a, .inl (c1, n1, .inl (va_cpy f g sp.toNatClampNeg dp.toNatClampNeg n.toNatClampNeg)))) H1 → va_D A (ws.set q1 (a, .inl (c1, n1, .inl (va_cpy f g sp.toNatClampNeg dp.toNatClampNeg n.toNatClampNeg)))) → va_S A s.heap H1 locs1 → W p l e R s m args below meth c H1 locs1 cells slots Q (F0 m (pc + 3) ls rest)) : W p l e R s m args below meth c H locs cells slots Q (F0 m pc ls (.int n :: .int dp :: .ref a :: .int sp :: .ref b0 :: rest)) := by
  have nn : ∀ z : Int32, ¬ z < 0 → z.toInt = (z.toNatClampNeg : Int) := by
    intro z hz
    have hz0 : (0 : Int) ≤ z.toInt := by
      have := Int32.not_lt.mp hz
      simpa using Int32.le_iff_toInt_le.mp this
    show z.toInt = ((z.toInt.toNat : Nat) : Int)
    omega
  intro T hT X
  obtain ⟨scr, hs1, hs2, hs3, hs4, -, hs5, hbA⟩ := hX
  have hbl : b0 < s.heap.size := (Array.getElem?_eq_some_iff.mp hs1).1
  have hc0 : H[b0]? = some scr := by rw [hS.2.1 b0 hbl hbA]; exact hs1
  have hc1 : H[a]? = some (vp_cell c1 (n1, .inl g)) := hP q1 _ ha1
  obtain ⟨hs6, k0, hk0, cm0, hkk0⟩ := hs2
  obtain ⟨-, k1, hk1, cm1, hkk1⟩ := (hK.2 t1 _ ht1).1 n1 (fun j => .int (g j))
  obtain ⟨vm', X', step⟩ := X.arraycopy hexec hown hlink hnat hstat hini (src := b0) (dst := a) (cs := scr) (cd := vp_cell c1 (n1, .inl g)) (srcPos := sp) (destPos := dp) (n := n) (by rw [hT]; exact hc0) (by rw [hT]; exact hc1)
    hs6 (fun _ h => by cases h) hs3 (fun h => by cases h) hk0 hk1 hkk0 hkk1 (by simp [refKind]) h1 h2 h3
    (by rw [nn sp h1, nn n h3]; omega)
    (by rw [nn dp h2, nn n h3]; show ¬ _ > ((arrV c1 n1 (fun j => .int (g j))).slots.size : Int); rw [arrV_size]; omega)
    (fun vm₁ _ i hi => by
      have e : scr.slots.getD (sp.toNatClampNeg + i) .null = .int (f (sp.toNatClampNeg + i)) := by
        rw [Array.getD_eq_getD_getElem?, hs5 _ (by omega)]
        rfl
      refine ⟨?_, ?_⟩
      · rw [e]
        rfl
      · rw [e]
        exact trivial)
    (g := F0 m pc ls (.int n :: .int dp :: .ref a :: .int sp :: .ref b0 :: rest)) rfl (by rw [hml]) (rest := rest) rfl (by rw [hb]; exact hdg) hframes (by show 2 * 0 + _ + _ ≤ _; omega)
  have e1 : copied scr (vp_cell c1 (n1, .inl g)) sp dp n = vp_cell c1 (n1, .inl (va_cpy f g sp.toNatClampNeg dp.toNatClampNeg n.toNatClampNeg)) := va_copiedX (fun z => .int z) scr c1 f g hs5 h4
  rw [e1] at X' step
  have hl : a < H.size := (Array.getElem?_eq_some_iff.mp hc1).1
  have hheap : ((T.setVm vm').setCell a (vp_cell c1 (n1, .inl (va_cpy f g sp.toNatClampNeg dp.toNatClampNeg n.toNatClampNeg)))).heap = H.setIfInBounds a (vp_cell c1 (n1, .inl (va_cpy f g sp.toNatClampNeg dp.toNatClampNeg n.toNatClampNeg))) := by rw [← hT]; rfl
  have oq : ∀ q : Nat, q ≠ a → (H.setIfInBounds a (vp_cell c1 (n1, .inl (va_cpy f g sp.toNatClampNeg dp.toNatClampNeg n.toNatClampNeg))))[q]? = H[q]? := fun q hq => by simp [Array.getElem?_setIfInBounds, Ne.symm hq]
  obtain ⟨t, a1, b1⟩ := kk _ _ (hP.set hD ha1 (show (H.setIfInBounds a _)[a]? = some _ by simp [Array.getElem?_setIfInBounds, hl]) oq) (hD.set ha1) ⟨by simp; exact hS.1, fun q g1 g2 => by
      rw [oq q (fun e => g2 (by rw [e]; exact hD.2 q1 _ ha1))]
      exact hS.2.1 q g1 g2, fun q hq => by
      rcases List.mem_append.mp hq with h | h
      · exact hS.2.2 q h
      · obtain ⟨z, -, hz⟩ := List.mem_map.mp h
        rw [← hz]
        exact hD.2 q1 _ ha1⟩ _ hheap X'
  exact ⟨t, step t a1, b1⟩
end ROC
section VMORE
variable {α β γ : Type} {x : CX} {G : GT} {Z : ZT} {cs : Nat × Nat} {nL : Nat} {Q : Option Value → MT → State → Prop} {J : α → Option Value × MT} {pc : Nat} {lv : List (Nat × Value)} {st : List Value} {μ : MT} {o : Option β} {f : β → Option α} {cc : ByteArray} {Ts : List Cond} {own : String}
theorem v_fin (h : VK x G Z cs nL Q J pc lv st μ o f) : VK x G Z cs nL Q J pc lv st μ (o.bind f) some := by
  intro a ha
  rw [ob_r] at ha
  exact h a ha
theorem v_cvRi (C : CF x G Z cc nL BG own) {d np : Nat} (hR : RO x cs (d + 1)) {c : Nat} {N : String} {T : u_T} {n0 : Nat} (hc : vwCl[c]? = some (N, T, n0)) {y : MethodName} {bytes : ByteArray} {n : Nat} {rt : Option FieldType} {index : Nat} (cw : CWv own index N y bytes n rt np) (hn40 : n ≤ 40) {k : Nat} (hk : Ob G Z k c) (hc20 : c < 20) (av : List Value) (hnp : av.length = np) {oc : Option Int32} {g : Int32 → Option β}
    (hM : ∀ r : Int32, oc = some r → MZ x.2.1 G Z y bytes n rt d (.ref (ga G k) :: av) μ (some (.int r)) μ) (hst : (st.map fun v => v.category).sum ≤ 8) (hd : decode cc pc = .ok (.invokevirtual index, 3)) {st0 : List Value} (hs : st0 = av.reverse ++ .ref (ga G k) :: st)
    (kk : ∀ r, VK x G Z cs nL Q J (pc + 3) lv (.int r :: st) μ (g r) f) : VK x G Z cs nL Q J pc lv st0 μ (oc.bind g) f :=
  v_cv C hR hc cw hn40 (J' := fun r : Int32 => (some (.int r), μ)) hk hc20 hnp hM hst hd (fun b => kk b) hs
theorem v_csRi (C : CF x G Z cc nL BG own) {d np : Nat} (hR : RO x cs (d + 1)) {y : MethodName} {bytes : ByteArray} {n : Nat} {rt : Option FieldType} {index : Nat} (cw : CWs own index y bytes n rt np) (hn40 : n ≤ 40) (av : List Value) (hnp : av.length = np) {oc : Option Int32} {g : Int32 → Option β}
    (hM : ∀ r : Int32, oc = some r → MZ x.2.1 G Z y bytes n rt d av μ (some (.int r)) μ) (hst : (st.map fun v => v.category).sum ≤ 8) (hd : decode cc pc = .ok (.invokestatic index, 3)) {st0 : List Value} (hs : st0 = av.reverse ++ st)
    (kk : ∀ r, VK x G Z cs nL Q J (pc + 3) lv (.int r :: st) μ (g r) f) : VK x G Z cs nL Q J pc lv st0 μ (oc.bind g) f :=
  v_cs C hR cw hn40 (J' := fun r : Int32 => (some (.int r), μ)) hnp hM hst hd (fun b => kk b) hs
theorem v_cvRl (C : CF x G Z cc nL BG own) {d np : Nat} (hR : RO x cs (d + 1)) {c : Nat} {N : String} {T : u_T} {n0 : Nat} (hc : vwCl[c]? = some (N, T, n0)) {y : MethodName} {bytes : ByteArray} {n : Nat} {rt : Option FieldType} {index : Nat} (cw : CWv own index N y bytes n rt np) (hn40 : n ≤ 40) {k : Nat} (hk : Ob G Z k c) (hc20 : c < 20) (av : List Value) (hnp : av.length = np) {oc : Option Int64} {g : Int64 → Option β}
    (hM : ∀ r : Int64, oc = some r → MZ x.2.1 G Z y bytes n rt d (.ref (ga G k) :: av) μ (some (.long r)) μ) (hst : (st.map fun v => v.category).sum ≤ 8) (hd : decode cc pc = .ok (.invokevirtual index, 3)) {st0 : List Value} (hs : st0 = av.reverse ++ .ref (ga G k) :: st)
    (kk : ∀ r, VK x G Z cs nL Q J (pc + 3) lv (.long r :: st) μ (g r) f) : VK x G Z cs nL Q J pc lv st0 μ (oc.bind g) f :=
  v_cv C hR hc cw hn40 (J' := fun r : Int64 => (some (.long r), μ)) hk hc20 hnp hM hst hd (fun b => kk b) hs
theorem v_csRl (C : CF x G Z cc nL BG own) {d np : Nat} (hR : RO x cs (d + 1)) {y : MethodName} {bytes : ByteArray} {n : Nat} {rt : Option FieldType} {index : Nat} (cw : CWs own index y bytes n rt np) (hn40 : n ≤ 40) (av : List Value) (hnp : av.length = np) {oc : Option Int64} {g : Int64 → Option β}
    (hM : ∀ r : Int64, oc = some r → MZ x.2.1 G Z y bytes n rt d av μ (some (.long r)) μ) (hst : (st.map fun v => v.category).sum ≤ 8) (hd : decode cc pc = .ok (.invokestatic index, 3)) {st0 : List Value} (hs : st0 = av.reverse ++ st)
    (kk : ∀ r, VK x G Z cs nL Q J (pc + 3) lv (.long r :: st) μ (g r) f) : VK x G Z cs nL Q J pc lv st0 μ (oc.bind g) f :=
  v_cs C hR cw hn40 (J' := fun r : Int64 => (some (.long r), μ)) hnp hM hst hd (fun b => kk b) hs
theorem v_cvIi (C : CF x G Z cc nL BG own) {d np : Nat} (hR : RO x cs (d + 1)) {c : Nat} {N : String} {T : u_T} {n0 : Nat} (hc : vwCl[c]? = some (N, T, n0)) {y : MethodName} {bytes : ByteArray} {n : Nat} {rt : Option FieldType} {index : Nat} (cw : CWv own index N y bytes n rt np) (hn40 : n ≤ 40) {k : Nat} (hk : Ob G Z k c) (hc20 : c < 20) (av : List Value) (hnp : av.length = np) {oc : Option (Int32 × MT)} {g : (Int32 × MT) → Option β}
    (hM : ∀ q : Int32 × MT, oc = some q → MZ x.2.1 G Z y bytes n rt d (.ref (ga G k) :: av) μ (some (.int q.1)) q.2) (hst : (st.map fun v => v.category).sum ≤ 8) (hd : decode cc pc = .ok (.invokevirtual index, 3)) {st0 : List Value} (hs : st0 = av.reverse ++ .ref (ga G k) :: st)
    (kk : ∀ r ν, VK x G Z cs nL Q J (pc + 3) lv (.int r :: st) ν (g (r, ν)) f) : VK x G Z cs nL Q J pc lv st0 μ (oc.bind g) f :=
  v_cv C hR hc cw hn40 (J' := fun q : Int32 × MT => (some (.int q.1), q.2)) hk hc20 hnp hM hst hd (fun b => kk b.1 b.2) hs
theorem v_csIi (C : CF x G Z cc nL BG own) {d np : Nat} (hR : RO x cs (d + 1)) {y : MethodName} {bytes : ByteArray} {n : Nat} {rt : Option FieldType} {index : Nat} (cw : CWs own index y bytes n rt np) (hn40 : n ≤ 40) (av : List Value) (hnp : av.length = np) {oc : Option (Int32 × MT)} {g : (Int32 × MT) → Option β}
    (hM : ∀ q : Int32 × MT, oc = some q → MZ x.2.1 G Z y bytes n rt d av μ (some (.int q.1)) q.2) (hst : (st.map fun v => v.category).sum ≤ 8) (hd : decode cc pc = .ok (.invokestatic index, 3)) {st0 : List Value} (hs : st0 = av.reverse ++ st)
    (kk : ∀ r ν, VK x G Z cs nL Q J (pc + 3) lv (.int r :: st) ν (g (r, ν)) f) : VK x G Z cs nL Q J pc lv st0 μ (oc.bind g) f :=
  v_cs C hR cw hn40 (J' := fun q : Int32 × MT => (some (.int q.1), q.2)) hnp hM hst hd (fun b => kk b.1 b.2) hs
theorem v_cvIv (C : CF x G Z cc nL BG own) {d np : Nat} (hR : RO x cs (d + 1)) {c : Nat} {N : String} {T : u_T} {n0 : Nat} (hc : vwCl[c]? = some (N, T, n0)) {y : MethodName} {bytes : ByteArray} {n : Nat} {rt : Option FieldType} {index : Nat} (cw : CWv own index N y bytes n rt np) (hn40 : n ≤ 40) {k : Nat} (hk : Ob G Z k c) (hc20 : c < 20) (av : List Value) (hnp : av.length = np) {oc : Option MT} {g : MT → Option β}
    (hM : ∀ ν : MT, oc = some ν → MZ x.2.1 G Z y bytes n rt d (.ref (ga G k) :: av) μ none ν) (hst : (st.map fun v => v.category).sum ≤ 8) (hd : decode cc pc = .ok (.invokevirtual index, 3)) {st0 : List Value} (hs : st0 = av.reverse ++ .ref (ga G k) :: st)
    (kk : ∀ ν, VK x G Z cs nL Q J (pc + 3) lv (st) ν (g ν) f) : VK x G Z cs nL Q J pc lv st0 μ (oc.bind g) f :=
  v_cv C hR hc cw hn40 (J' := fun ν : MT => (none, ν)) hk hc20 hnp hM hst hd (fun b => kk b) hs
theorem v_csIv (C : CF x G Z cc nL BG own) {d np : Nat} (hR : RO x cs (d + 1)) {y : MethodName} {bytes : ByteArray} {n : Nat} {rt : Option FieldType} {index : Nat} (cw : CWs own index y bytes n rt np) (hn40 : n ≤ 40) (av : List Value) (hnp : av.length = np) {oc : Option MT} {g : MT → Option β}
    (hM : ∀ ν : MT, oc = some ν → MZ x.2.1 G Z y bytes n rt d av μ none ν) (hst : (st.map fun v => v.category).sum ≤ 8) (hd : decode cc pc = .ok (.invokestatic index, 3)) {st0 : List Value} (hs : st0 = av.reverse ++ st)
    (kk : ∀ ν, VK x G Z cs nL Q J (pc + 3) lv (st) ν (g ν) f) : VK x G Z cs nL Q J pc lv st0 μ (oc.bind g) f :=
  v_cs C hR cw hn40 (J' := fun ν : MT => (none, ν)) hnp hM hst hd (fun b => kk b) hs
theorem v_gets (C : CF x G Z cc nL BG own) {k : Nat} {N n d : String} {index : Nat} (hz : va_Z N n d (.ref (ga G k)) (gA G) (xs x) (xs x).heap) (hl : Cond.fieldLink own index N n d ∈ BG) (hd : decode cc pc = .ok (.getstatic index, 3)) (kk : VK x G Z cs nL Q J (pc + 3) lv (.ref (ga G k) :: st) μ o f) : VK x G Z cs nL Q J pc lv st μ o f :=
  fun a ha H locs ls hP hl2 => va_gets C.1 C.2.1 hz hP.2.1 C.2.2.2.1 (C.2.2.2.2.1 _ hl) (fun _ h => h) hd (kk a ha H locs ls hP hl2)
theorem v_getsN (C : CF x G Z cc nL BG own) {k : Nat} {N n d host : String} {index : Nat} (hz : va_Z N n d (.ref (ga G k)) (gA G) (xs x) (xs x).heap) (hl : Cond.fieldLinkNest own index N n d host ∈ nestW) (hd : decode cc pc = .ok (.getstatic index, 3)) (kk : VK x G Z cs nL Q J (pc + 3) lv (.ref (ga G k) :: st) μ o f) : VK x G Z cs nL Q J pc lv st μ o f :=
  fun a ha H locs ls hP hl2 => va_getsN C.1 C.2.1 hz hP.2.1 C.2.2.2.1 (va_Nw.use rfl (C.2.2.2.2.2.1.2.1 _ hl)) (fun _ h => h) hd (kk a ha H locs ls hP hl2)
theorem v_tin (C : CF x G Z cc nL Ts own) {y k : Int32} {dflt lo hi off : Int} {offs : Array Int} {len t : Nat} (hy : y = k) (hd : decode cc pc = .ok (.tableswitch dflt lo hi offs, len)) (h1 : ¬ k.toInt < lo) (h2 : ¬ hi < k.toInt) (ho : offs[(k.toInt - lo).toNat]? = some off) (ht : (pc : Int) + off = (t : Int)) (kk : VK x G Z cs nL Q J t lv st μ o f) : VK x G Z cs nL Q J pc lv (.int y :: st) μ o f := by
  subst hy
  exact fun a ha H locs ls hP hl => lv_tableIn C.1 C.2.1 hd h1 h2 ho ht (kk a ha H locs ls hP hl)
theorem v_tout (C : CF x G Z cc nL Ts own) {y : Int32} {dflt lo hi : Int} {offs : Array Int} {len t : Nat} (hd : decode cc pc = .ok (.tableswitch dflt lo hi offs, len)) (h : y.toInt < lo ∨ hi < y.toInt) (ht : (pc : Int) + dflt = (t : Int)) (kk : VK x G Z cs nL Q J t lv st μ o f) : VK x G Z cs nL Q J pc lv (.int y :: st) μ o f :=
  fun a ha H locs ls hP hl => lv_tableOut C.1 C.2.1 hd h ht (kk a ha H locs ls hP hl)
theorem v_look (C : CF x G Z cc nL Ts own) {y : Int32} {dflt off : Int} {ps : Array (Int × Int)} {len t : Nat} (hd : decode cc pc = .ok (.lookupswitch dflt ps, len)) (hp : (ps.toList.zip (ps.toList.drop 1)).all (fun (a, next) => a.1 < next.1) = true) (ho : Op.lookupswitch.offset ps.toList dflt y.toInt = off) (ht : (pc : Int) + off = (t : Int)) (kk : VK x G Z cs nL Q J t lv st μ o f) : VK x G Z cs nL Q J pc lv (.int y :: st) μ o f :=
  fun a ha H locs ls hP hl => lv_lookup C.1 C.2.1 hd hp ho ht (kk a ha H locs ls hP hl)
theorem acp_iff {k k1 : Nat} {sp dp n : Int32} {g : MT → Option γ} {a : γ} (h : (acp Z μ k sp k1 dp n).bind g = some a) : (¬ sp < 0 ∧ ¬ dp < 0 ∧ ¬ n < 0 ∧ sp.toNatClampNeg + n.toNatClampNeg ≤ zl Z k ∧ dp.toNatClampNeg + n.toNatClampNeg ≤ zl Z k1) ∧ g (u1 μ k1 (va_cpy (μ k) (μ k1) sp.toNatClampNeg dp.toNatClampNeg n.toNatClampNeg)) = some a := by
  unfold acp at h
  by_cases hi : ¬ sp < 0 ∧ ¬ dp < 0 ∧ ¬ n < 0 ∧ sp.toNatClampNeg + n.toNatClampNeg ≤ zl Z k ∧ dp.toNatClampNeg + n.toNatClampNeg ≤ zl Z k1
  · rw [if_pos hi] at h
    exact ⟨hi, h⟩
  · rw [if_neg hi] at h
    cases h
def cpyW (own : String) (index : Nat) : Prop := ∀ w ∈ ([.methodLink own index arraycopyName, .native arraycopyName, .static arraycopyName, .initialized "java/lang/System"] : List Cond), w ∈ BG
theorem v_copy (C : CF x G Z cc nL BG own) (hR : RO x cs 1) {index k k1 : Nat} {sp dp n : Int32} {g : MT → Option β} (hw : cpyW own index) (hk : Oa G Z k) (hk1 : Ob G Z k1 20) (hst : (st.map fun v => v.category).sum ≤ 8) (hd : decode cc pc = .ok (.invokestatic index, 3))
    (kk : ∀ ν, VK x G Z cs nL Q J (pc + 3) lv st ν (g ν) f) : VK x G Z cs nL Q J pc lv (.int n :: .int dp :: .ref (ga G k1) :: .int sp :: .ref (ga G k) :: st) μ ((acp Z μ k sp k1 dp n).bind g) f := by
  intro a ha H locs ls hP hl
  rw [Option.bind_assoc] at ha
  obtain ⟨⟨h1, h2, h3, h4, h5⟩, ha⟩ := acp_iff ha
  have hts := C.2.2.2.2.1
  have hG := C.2.2.2.2.2.2.2.1
  have hml : (xc x).maxLocals = ls.size := by rw [C.2.2.1, hl.1]
  obtain ⟨r1, r2, r3, r4⟩ := hR
  have hloc : (st.map fun v => v.category).sum + (nativeFrameWords "java/lang/System" "arraycopy" 5 + 11) ≤ (xR x).locals := by
    have e : nativeFrameWords "java/lang/System" "arraycopy" 5 + 11 ≤ 56 := by decide +kernel
    omega
  have go : ∀ (H1 : Heap) (locs1 : List Loc), va_P (gD G) vwCl ((wd G Z μ).set k1 (ga G k1, .inl (gc G 20, zl Z k1, .inl (va_cpy (μ k) (μ k1) sp.toNatClampNeg dp.toNatClampNeg n.toNatClampNeg)))) H1 → va_D (gA G) ((wd G Z μ).set k1 (ga G k1, .inl (gc G 20, zl Z k1, .inl (va_cpy (μ k) (μ k1) sp.toNatClampNeg dp.toNatClampNeg n.toNatClampNeg)))) → va_S (gA G) (xs x).heap H1 locs1 → W x.1 x.2.1 x.2.2.1 (xR x) (xs x) (xm x) (xa x) (xb x) (xM x) (xc x) H1 locs1 cs.1 cs.2 (Q (J a).1 (J a).2) (F0 (xm x) (pc + 3) ls st) := by
    intro H1 locs1 hP1 _ hS1
    have e := wd_set (ν := u1 μ k1 (va_cpy (μ k) (μ k1) sp.toNatClampNeg dp.toNatClampNeg n.toNatClampNeg)) hk1.2 (by rw [ce_arr hk1.1 (by decide) (by decide), u1_s]) (fun q hq => u1_n hq)
    rw [e] at hP1
    exact kk _ a ha H1 locs1 ls ⟨hP1, hS1, hP.2.2.u2 (fun q hq => u1_n (by have := hk1.2; have := hG.2.2; omega))⟩ hl
  obtain ⟨hkk, hk | ⟨g1, g2⟩⟩ := hk
  · exact va_copyi C.1 C.2.1 hml C.2.2.2.1 (hts _ (hw _ (by simp))) (hts _ (hw _ (by simp))) (hts _ (hw _ (by simp))) (hts _ (hw _ (by simp))) C.2.2.2.2.2.1.1 hP.1 (hG.vd Z μ) hP.2.1 k k1 0 0 (by rw [wd_get hk, ce_arr hkk (by decide) (by decide)]) (by rw [wd_get hk1.2, ce_arr hk1.1 (by decide) (by decide)]) rfl rfl rfl h1 h2 h3 h4 h5 (fun i _ => rfl) r1 hloc hd go
  · have hT := C.2.2.2.2.2.2.2.2.2.2 (k - 1000) (by omega)
    have hr := hP.2.2 (k - 1000) (by omega)
    have hL := C.2.2.2.2.2.2.2.2.1.2.2.2.1 (k - 1000) (by omega)
    rw [show 1000 + (k - 1000) = k by omega] at hT hr hL
    rw [← hL, show (fun j => Value.int (roR (k - 1000) j)) = (fun j => .int (μ k j)) from by rw [hr]] at hT
    exact rocopy C.1 C.2.1 hml C.2.2.2.1 (hts _ (hw _ (by simp))) (hts _ (hw _ (by simp))) (hts _ (hw _ (by simp))) (hts _ (hw _ (by simp))) C.2.2.2.2.2.1.1 hP.1 (hG.vd Z μ) hP.2.1 hT k1 0 (by rw [wd_get hk1.2, ce_arr hk1.1 (by decide) (by decide)]) rfl h1 h2 h3 h4 h5 r1 hloc hd go
theorem v_bz {y : Int32} {g : Int32 → Option β} (h : (y = 0 ∨ y = 1) → VK x G Z cs nL Q J pc lv st μ (g y) f) : VK x G Z cs nL Q J pc lv st μ ((bz y).bind g) f := by
  intro a ha
  rw [Option.bind_assoc] at ha
  obtain ⟨hv, ha⟩ := bz_iff ha
  exact h hv a ha
theorem v_join {τ : Type} {o1 : Option τ} {g : τ → Option β} (pj : Nat) (P : τ → List (Nat × Value)) (S : τ → List Value) (M : τ → MT) (hJ : ∀ t, VK x G Z cs nL Q J pj (P t) (S t) (M t) (g t) f)
    (h : ∀ F : τ → Option α, (∀ t, VK x G Z cs nL Q J pj (P t) (S t) (M t) (F t) some) → VK x G Z cs nL Q J pc lv st μ o1 F) : VK x G Z cs nL Q J pc lv st μ (o1.bind g) f :=
  v_enter (h _ (fun t => v_fin (hJ t)))
theorem v_joinm {τ : Type} {o1 : Option (β ⊕ τ)} {g : τ → Option β} (pj : Nat) (P : τ → List (Nat × Value)) (S : τ → List Value) (M : τ → MT) (hJ : ∀ t, VK x G Z cs nL Q J pj (P t) (S t) (M t) (g t) f)
    (h : ∀ F : β ⊕ τ → Option α, (∀ r, F (.inl r) = f r) → (∀ t, VK x G Z cs nL Q J pj (P t) (S t) (M t) (F (.inr t)) some) → VK x G Z cs nL Q J pc lv st μ o1 F) : VK x G Z cs nL Q J pc lv st μ (o1.bind (jn g)) f :=
  v_enter (h (fun t => (jn g t).bind f) (fun _ => rfl) (fun t => v_fin (hJ t)))
def lq {σ τ : Type} (X : σ → Option α) (F : τ → Option α) : σ ⊕ τ → Option α := fun q => match q with
  | .inl s' => X s'
  | .inr t => F t
theorem v_lp {σ τ : Type} {body : σ → Option (σ ⊕ τ)} {g : τ → Option β} (pj pe : Nat) (P : σ → List (Nat × Value)) (M : σ → MT) (PE : τ → List (Nat × Value)) (ME : τ → MT) (hE : ∀ t, VK x G Z cs nL Q J pe (PE t) [] (ME t) (g t) f)
    (hB : ∀ (X : σ → Option α) (F : τ → Option α), (∀ s, VK x G Z cs nL Q J pj (P s) [] (M s) (X s) some) → (∀ t, VK x G Z cs nL Q J pe (PE t) [] (ME t) (F t) some) → ∀ s, VK x G Z cs nL Q J pj (P s) [] (M s) (body s) (lq X F)) (N : Nat) (s : σ) : VK x G Z cs nL Q J pj (P s) [] (M s) ((loop body N s).bind g) f :=
  v_enter (v_loop (S := fun _ => []) (fun X hX s => hB X (fun t => (g t).bind f) hX (fun t => v_fin (hE t)) s) N s)
theorem v_lpm {σ τ : Type} {body : σ → Option (σ ⊕ (β ⊕ τ))} {g : τ → Option β} (pj pe : Nat) (P : σ → List (Nat × Value)) (M : σ → MT) (PE : τ → List (Nat × Value)) (ME : τ → MT) (hE : ∀ t, VK x G Z cs nL Q J pe (PE t) [] (ME t) (g t) f)
    (hB : ∀ (X : σ → Option α) (F : β ⊕ τ → Option α), (∀ r, F (.inl r) = f r) → (∀ s, VK x G Z cs nL Q J pj (P s) [] (M s) (X s) some) → (∀ t, VK x G Z cs nL Q J pe (PE t) [] (ME t) (F (.inr t)) some) → ∀ s, VK x G Z cs nL Q J pj (P s) [] (M s) (body s) (lq X F)) (N : Nat) (s : σ) : VK x G Z cs nL Q J pj (P s) [] (M s) ((loop body N s).bind (jn g)) f :=
  v_enter (v_loop (S := fun _ => []) (fun X hX s => hB X (fun t => (jn g t).bind f) (fun _ => rfl) hX (fun t => v_fin (hE t)) s) N s)
theorem v_alena (C : CF x G Z cc nL Ts own) {k : Nat} (hk : Oa G Z k) (hd : decode cc pc = .ok (.arraylength, 1)) (kk : VK x G Z cs nL Q J (pc + 1) lv (.int (Int32.ofNat (zl Z k)) :: st) μ o f) : VK x G Z cs nL Q J pc lv (.ref (ga G k) :: st) μ o f := by
  intro a ha H locs ls hP hl
  obtain ⟨hkk, hk | ⟨g1, g2⟩⟩ := hk
  · exact va_alen C.1 C.2.1 C.2.2.2.2.2.1.1 hP.1 k 0 (by rw [wd_get hk, ce_arr hkk (by decide) (by decide)]) rfl rfl hd (kk a ha H locs ls hP hl)
  · have hT := C.2.2.2.2.2.2.2.2.2.2 (k - 1000) (by omega)
    have hL := C.2.2.2.2.2.2.2.2.1.2.2.2.1 (k - 1000) (by omega)
    rw [show 1000 + (k - 1000) = k by omega] at hT hL
    obtain ⟨cell, h1, h2, h3, h4, h5, h6, h7⟩ := hT
    exact W.alen (n := Int32.ofNat (zl Z k)) C.1 C.2.1 (by rw [hP.2.1.2.1 _ (Array.getElem?_eq_some_iff.mp h1).1 h7]; exact h1) h2 (by rw [hL]; exact h5) rfl rfl hd (kk a ha H locs ls hP hl)
end VMORE
