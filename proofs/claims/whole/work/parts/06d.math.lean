/-! ===== Math.max, min, abs ===== -/
def mthW (own : String) (index : Nat) (y : MethodName) (c : ByteArray) (n : Nat) : Prop := ∀ w ∈ ([.methodLink own index y, .static y, .initialized "java/lang/Math", .code y c n (some .int)] : List Cond), w ∈ BG
section VMATH
variable {α β γ : Type} {x : CX} {G : GT} {Z : ZT} {cs : Nat × Nat} {nL : Nat} {Q : Option Value → MT → State → Prop} {J : α → Option Value × MT} {pc : Nat} {lv : List (Nat × Value)} {st : List Value} {μ : MT} {o : Option β} {f : β → Option α} {cc : ByteArray} {Ts : List Cond} {own : String}
theorem v_mmax (C : CF x G Z cc nL BG own) (hR : RO x cs 1) {index : Nat} {y z : Int32} (hw : mthW own index Lib.Math.max.name Lib.Math.max.code 2) (hst : (st.map fun v => v.category).sum ≤ 8) (hd : decode cc pc = .ok (.invokestatic index, 3)) (kk : VK x G Z cs nL Q J (pc + 3) lv (.int (imax y z) :: st) μ o f) : VK x G Z cs nL Q J pc lv (.int z :: .int y :: st) μ o f := by
  intro a ha H locs ls hP hl
  obtain ⟨r1, r2, r3, r4⟩ := hR
  have hts := C.2.2.2.2.1
  exact va_mmax C.1 C.2.1 (by rw [C.2.2.1, hl.1]) C.2.2.2.1 (hts _ (hw _ (by simp))) (hts _ (hw _ (by simp))) (hts _ (hw _ (by simp))) (hts _ (hw _ (by simp))) r1 (by omega) r3 r4 hd (kk a ha H locs ls hP hl)
theorem v_mmin (C : CF x G Z cc nL BG own) (hR : RO x cs 1) {index : Nat} {y z : Int32} (hw : mthW own index Lib.Math.min.name Lib.Math.min.code 2) (hst : (st.map fun v => v.category).sum ≤ 8) (hd : decode cc pc = .ok (.invokestatic index, 3)) (kk : VK x G Z cs nL Q J (pc + 3) lv (.int (imin y z) :: st) μ o f) : VK x G Z cs nL Q J pc lv (.int z :: .int y :: st) μ o f := by
  intro a ha H locs ls hP hl
  obtain ⟨r1, r2, r3, r4⟩ := hR
  have hts := C.2.2.2.2.1
  exact va_mmin C.1 C.2.1 (by rw [C.2.2.1, hl.1]) C.2.2.2.1 (hts _ (hw _ (by simp))) (hts _ (hw _ (by simp))) (hts _ (hw _ (by simp))) (hts _ (hw _ (by simp))) r1 (by omega) r3 r4 hd (kk a ha H locs ls hP hl)
theorem v_mabs (C : CF x G Z cc nL BG own) (hR : RO x cs 1) {index : Nat} {y : Int32} (hw : mthW own index Lib.Math.abs.name Lib.Math.abs.code 1) (hst : (st.map fun v => v.category).sum ≤ 8) (hd : decode cc pc = .ok (.invokestatic index, 3)) (kk : VK x G Z cs nL Q J (pc + 3) lv (.int (iabs y) :: st) μ o f) : VK x G Z cs nL Q J pc lv (.int y :: st) μ o f := by
  intro a ha H locs ls hP hl
  obtain ⟨r1, r2, r3, r4⟩ := hR
  have hts := C.2.2.2.2.1
  exact va_mabs C.1 C.2.1 (by rw [C.2.2.1, hl.1]) C.2.2.2.1 (hts _ (hw _ (by simp))) (hts _ (hw _ (by simp))) (hts _ (hw _ (by simp))) (hts _ (hw _ (by simp))) r1 (by omega) r3 r4 hd (kk a ha H locs ls hP hl)
end VMATH
