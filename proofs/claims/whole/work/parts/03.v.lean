/-! ===== a plain memory: cells by number; ints by cell and place; references between cells fixed ===== -/
abbrev gD (G : GT) : va_G := G.1
abbrev gn (G : GT) : Nat := G.2.1
abbrev gt (G : GT) : Nat := G.2.2.1
abbrev ga (G : GT) : Nat → Nat := G.2.2.2.1
abbrev gc (G : GT) : Nat → ClassId := G.2.2.2.2.1
abbrev gb (G : GT) : Nat := G.2.2.2.2.2
abbrev gA (G : GT) : Nat → Prop := fun q => gb G ≤ q
def nfl (c : Nat) : Nat := match vwCl[c]? with
  | some q => q.2.2
  | none => 0
/-- a reference: 999 is null -/
def rfv (G : GT) (k : Nat) : Value := if k = 999 then .null else .ref (ga G k)
theorem rfv_r {G : GT} {k : Nat} (h : k ≠ 999) : rfv G k = .ref (ga G k) := if_neg h
def fv (G : GT) (Z : ZT) (μ : MT) (k j : Nat) : Value :=
  if rk (zk Z k) j = 0 then .int (μ k j) else if rk (zk Z k) j = 1 then rfv G (zr Z k j) else rfv G (μ k j).toNatClampNeg
def rfo (G : GT) (k : Nat) : Option Nat := if k = 999 then none else some (ga G k)
theorem rfo_r {G : GT} {k : Nat} (h : k ≠ 999) : rfo G k = some (ga G k) := if_neg h
def ce (G : GT) (Z : ZT) (μ : MT) (k : Nat) : va_E :=
  if zk Z k < 20 then .inr (zk Z k, (List.range (nfl (zk Z k))).map (fv G Z μ k))
  else if zk Z k < 23 then .inl (gc G (zk Z k), zl Z k, .inl (μ k))
  else .inl (gc G (zk Z k), zl Z k, .inr (.inr (.inr (.inr (fun j => rfo G (zr Z k j))))))
def wd (G : GT) (Z : ZT) (μ : MT) : va_W := (List.range (gn G)).map (fun k => (ga G k, ce G Z μ k))
abbrev ats (G : GT) : List (ClassId × FieldType) := [(gc G 20, .int), (gc G 21, .byte), (gc G 22, .boolean), (gc G 23, .array .int), (gc G 24, .object "SeamPull$Panel")]
theorem u2_s {μ : MT} {k j : Nat} {v : Int32} : u2 μ k j v k = upd (μ k) j v := by simp [u2]
theorem u2_n {μ : MT} {k k' j : Nat} {v : Int32} (h : k' ≠ k) : u2 μ k j v k' = μ k' := by simp [u2, h]
theorem u1_s {μ : MT} {k : Nat} {f : Nat → Int32} : u1 μ k f k = f := by simp [u1]
theorem u1_n {μ : MT} {k k' : Nat} {f : Nat → Int32} (h : k' ≠ k) : u1 μ k f k' = μ k' := by simp [u1, h]
theorem wd_get {G : GT} {Z : ZT} {μ : MT} {k : Nat} (h : k < gn G) : (wd G Z μ)[k]? = some (ga G k, ce G Z μ k) := by
  unfold wd
  rw [List.getElem?_map, List.getElem?_range h]
  rfl
theorem ce_row {G : GT} {Z : ZT} {μ ν : MT} {k : Nat} (h : ν k = μ k) : ce G Z ν k = ce G Z μ k := by
  have hf : fv G Z ν k = fv G Z μ k := by
    funext j
    unfold fv
    rw [h]
  unfold ce
  rw [hf, h]
theorem wd_set {G : GT} {Z : ZT} {μ ν : MT} {k : Nat} {e : va_E} (hk : k < gn G) (he : ce G Z ν k = e) (ho : ∀ q, q ≠ k → ν q = μ q) : (wd G Z μ).set k (ga G k, e) = wd G Z ν := by
  subst he
  apply List.ext_getElem?
  intro i
  rw [List.getElem?_set]
  by_cases hi : k = i
  · subst hi
    have hl : k < (wd G Z μ).length := by simp [wd, hk]
    rw [if_pos rfl, if_pos hl, wd_get hk]
  · rw [if_neg hi]
    by_cases hg : i < gn G
    · rw [wd_get hg, wd_get hg, ce_row (ho i (fun q => hi q.symm))]
    · have hn : ∀ ξ : MT, (wd G Z ξ)[i]? = none := fun ξ => List.getElem?_eq_none (by simp [wd]; omega)
      rw [hn, hn]
/-- an own cell of a kind -/
def Ob (G : GT) (Z : ZT) (k c : Nat) : Prop := zk Z k = c ∧ k < gn G
/-- an array of ints that can be read: an own one or a given table -/
def Oa (G : GT) (Z : ZT) (k : Nat) : Prop := zk Z k = 20 ∧ (k < gn G ∨ (1000 ≤ k ∧ k < 1000 + gt G))
theorem Ob.oa {G : GT} {Z : ZT} {k : Nat} (h : Ob G Z k 20) : Oa G Z k := ⟨h.1, Or.inl h.2⟩
theorem ce_arr {G : GT} {Z : ZT} {μ : MT} {k c : Nat} (h : zk Z k = c) (h1 : 20 ≤ c) (h2 : c < 23) : ce G Z μ k = .inl (gc G c, zl Z k, .inl (μ k)) := by
  subst h
  unfold ce
  rw [if_neg (by omega), if_pos h2]
theorem ce_ref {G : GT} {Z : ZT} {μ : MT} {k c : Nat} (h : zk Z k = c) (h1 : 23 ≤ c) : ce G Z μ k = .inl (gc G c, zl Z k, .inr (.inr (.inr (.inr (fun j => rfo G (zr Z k j)))))) := by
  subst h
  unfold ce
  rw [if_neg (by omega), if_neg (by omega)]
theorem ce_obj {G : GT} {Z : ZT} {μ : MT} {k c : Nat} (h : zk Z k = c) (h1 : c < 20) : ce G Z μ k = .inr (c, (List.range (nfl c)).map (fv G Z μ k)) := by
  subst h
  unfold ce
  rw [if_pos h1]
theorem fs_get {G : GT} {Z : ZT} {μ : MT} {k c j : Nat} (hj : j < nfl c) : ((List.range (nfl c)).map (fv G Z μ k))[j]? = some (fv G Z μ k j) := by
  rw [List.getElem?_map, List.getElem?_range hj]
  rfl
theorem fs_set {G : GT} {Z : ZT} {μ : MT} {k c j : Nat} {x : Int32} {v : Value} (hc : zk Z k = c) (hv : v = fv G Z (u2 μ k j x) k j) : ((List.range (nfl c)).map (fv G Z μ k)).set j v = (List.range (nfl c)).map (fv G Z (u2 μ k j x) k) := by
  subst hv
  apply List.ext_getElem?
  intro i
  rw [List.getElem?_set, List.length_map, List.length_range]
  by_cases hi : j = i
  · subst hi
    rw [if_pos rfl]
    by_cases hj : j < nfl c
    · rw [if_pos hj, fs_get hj]
    · rw [if_neg hj, List.getElem?_eq_none (by simp; omega)]
  · rw [if_neg hi]
    by_cases hg : i < nfl c
    · rw [fs_get hg, fs_get hg]
      congr 1
      unfold fv
      rw [u2_s]
      have hij : ¬ i = j := fun q => hi q.symm
      simp [upd, hij]
    · rw [List.getElem?_eq_none (by simp; omega), List.getElem?_eq_none (by simp; omega)]
