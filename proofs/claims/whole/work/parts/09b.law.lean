/-! ===== the law's own: its script, its ends ===== -/
/-- the script, cell 3000 -/
def SCR (x : CX) (G : GT) (ss : Nat → Int32) (L : Nat) : Prop := va_X (ga G 3000) L ss (xs x) (xs x).heap ∧ ga G 3000 < (xs x).heap.size ∧ ¬ gA G (ga G 3000)
def QL (x : CX) : Option Value → MT → State → Prop := fun rv _ t => rv = some (.int 1) → lw_Z (xb x) (xa x) (xs x) t
section VLAW
variable {α β γ : Type} {x : CX} {G : GT} {Z : ZT} {cs : Nat × Nat} {nL : Nat} {Q : Option Value → MT → State → Prop} {J : α → Option Value × MT} {pc : Nat} {lv : List (Nat × Value)} {st : List Value} {μ : MT} {o : Option β} {f : β → Option α} {cc : ByteArray} {Ts : List Cond} {own : String} {ss : Nat → Int32} {L : Nat}
theorem v_scl (C : CF x G Z cc nL Ts own) (hS : SCR x G ss L) (hd : decode cc pc = .ok (.arraylength, 1)) (kk : VK x G Z cs nL Q J (pc + 1) lv (.int (Int32.ofNat L) :: st) μ o f) : VK x G Z cs nL Q J pc lv (.ref (ga G 3000) :: st) μ o f :=
  fun a ha H locs ls hP hl => va_slen C.1 C.2.1 hS.1 hS.2.1 hS.2.2 hP.2.1 hd (kk a ha H locs ls hP hl)
theorem v_sca (C : CF x G Z cc nL Ts own) (hS : SCR x G ss L) {i : Int32} {g : Int32 → Option β} (hd : decode cc pc = .ok (.iaload, 1)) (kk : ∀ v, VK x G Z cs nL Q J (pc + 1) lv (.int v :: st) μ (g v) f) : VK x G Z cs nL Q J pc lv (.int i :: .ref (ga G 3000) :: st) μ ((scl ss L i).bind g) f := by
  intro a ha H locs ls hP hl
  unfold scl at ha
  by_cases hi : inb i L = true
  · rw [if_pos hi] at ha
    exact va_sld C.1 C.2.1 hS.1 hS.2.1 hS.2.2 hP.2.1 (inb_vp.mp hi) hd (kk _ a ha H locs ls hP hl)
  · rw [if_neg hi] at ha
    cases ha
theorem v_lw0 (ho : ∀ a, o.bind f = some a → (J a).1 = some (.int 0)) : VK x G Z cs nL (QL x) J pc lv st μ o f := by
  intro a ha H locs ls hP hl T hT X
  refine ⟨_, Steps.refl _, fun h => ?_⟩
  rw [ho a ha] at h
  exact absurd h (by decide)
theorem v_lw1 {b : Nat} (C : CF x G Z code nL Ts own) (hg : gb G = (xs x).heap.size) (hRm : xR x = room_1) (hxa : xa x = #[Value.ref b]) (hc1 : cs.1 ≤ 600000) (hc2 : cs.2 ≤ 7302250) (hr : (xM x).sig.returnType = ret) (hd : decode code pc = .ok (.ireturn, 1)) : VK x G Z cs nL (QL x) J pc lv [.int 1] μ o f := by
  intro a ha H locs ls hP hl
  obtain ⟨p, l, e, R, s, m, args, below, meth, c⟩ := x
  have hRm : R = room_1 := hRm
  have hxa : args = #[Value.ref b] := hxa
  subst hRm
  subst hxa
  have hw : W p l e room_1 s m #[Value.ref b] below meth c H locs cs.1 cs.2 (lw_Z below #[Value.ref b] s) (F0 m pc ls [.int 1]) := by
    refine va_forget (fun q hq => ?_) ?_
    · have h1 : gb G ≤ q.base := hP.2.1.2.2 q hq
      have h2 : gb G = s.heap.size := hg
      omega
    refine W.widen (k := 600000) (n := 7302250) hc1 hc2 ?_
    exact lw_ret C.1 C.2.1 hr C.2.2.2.2.2.2.2.2.2.1 hd
  intro T hT X
  obtain ⟨t, a1, b1⟩ := hw T hT X
  exact ⟨t, a1, fun _ => b1⟩
end VLAW
