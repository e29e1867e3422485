/-! ===== the start: what the Statement gives at the law's entry, in the words of the plain memory ===== -/
def FLT : List Cond := flatC (Jvm.Cond.and given_1 narrow_1)
def tmS (i : Nat) : Term := .string "SeamPull$Tape" (txK.getD i 0)
set_option maxRecDepth 100000 in
theorem fl_ex : ∀ i, i < 14 → Cond.exactly (tmS i) "java/lang/String" ∈ FLT := by decide +kernel
set_option maxRecDepth 100000 in
theorem fl_co : ∀ i, i < 14 → Cond.eq (.field (tmS i) "java/lang/String" "coder" "B") (.int 0) ∈ FLT := by decide +kernel
set_option maxRecDepth 100000 in
theorem fl_ar : ∀ i, i < 14 → Cond.arrayOf (.field (tmS i) "java/lang/String" "value" "[B") .byte ∈ FLT := by decide +kernel
set_option maxRecDepth 100000 in
theorem fl_le : ∀ i, i < 14 → Cond.eq (.length (.field (tmS i) "java/lang/String" "value" "[B")) (.int (Int32.ofNat (txL.getD i 0))) ∈ FLT := by decide +kernel
set_option maxRecDepth 100000 in
theorem fl_el : ∀ i, i < 14 → ∀ j, j < txL.getD i 0 → Cond.eq (.elem (.field (tmS i) "java/lang/String" "value" "[B") (.int (Int32.ofNat j))) (.int ((txB.getD i []).getD j 0)) ∈ FLT := by decide +kernel
def NEQL : List Cond := [.not (.eq (.string "SeamPull$Tape" 45) (.string "SeamPull$Tape" 47)), .not (.eq (.string "SeamPull$Tape" 45) (.string "SeamPull$Tape" 49)), .not (.eq (.string "SeamPull$Tape" 45) (.string "SeamPull$Tape" 51)), .not (.eq (.string "SeamPull$Tape" 45) (.string "SeamPull$Tape" 53)), .not (.eq (.string "SeamPull$Tape" 45) (.string "SeamPull$Tape" 55)), .not (.eq (.string "SeamPull$Tape" 45) (.string "SeamPull$Tape" 57)), .not (.eq (.string "SeamPull$Tape" 45) (.string "SeamPull$Tape" 59)), .not (.eq (.string "SeamPull$Tape" 45) (.string "SeamPull$Tape" 61)), .not (.eq (.string "SeamPull$Tape" 45) (.string "SeamPull$Tape" 63)), .not (.eq (.string "SeamPull$Tape" 45) (.string "SeamPull$Tape" 65)), .not (.eq (.string "SeamPull$Tape" 45) (.string "SeamPull$Tape" 67)), .not (.eq (.string "SeamPull$Tape" 45) (.string "SeamPull$Tape" 69)), .not (.eq (.string "SeamPull$Tape" 45) (.string "SeamPull$Tape" 71)), .not (.eq (.string "SeamPull$Tape" 47) (.string "SeamPull$Tape" 49)), .not (.eq (.string "SeamPull$Tape" 47) (.string "SeamPull$Tape" 51)), .not (.eq (.string "SeamPull$Tape" 47) (.string "SeamPull$Tape" 53)), .not (.eq (.string "SeamPull$Tape" 47) (.string "SeamPull$Tape" 55)), .not (.eq (.string "SeamPull$Tape" 47) (.string "SeamPull$Tape" 57)), .not (.eq (.string "SeamPull$Tape" 47) (.string "SeamPull$Tape" 59)), .not (.eq (.string "SeamPull$Tape" 47) (.string "SeamPull$Tape" 61)), .not (.eq (.string "SeamPull$Tape" 47) (.string "SeamPull$Tape" 63)), .not (.eq (.string "SeamPull$Tape" 47) (.string "SeamPull$Tape" 65)), .not (.eq (.string "SeamPull$Tape" 47) (.string "SeamPull$Tape" 67)), .not (.eq (.string "SeamPull$Tape" 47) (.string "SeamPull$Tape" 69)), .not (.eq (.string "SeamPull$Tape" 47) (.string "SeamPull$Tape" 71)), .not (.eq (.string "SeamPull$Tape" 49) (.string "SeamPull$Tape" 51)), .not (.eq (.string "SeamPull$Tape" 49) (.string "SeamPull$Tape" 53)), .not (.eq (.string "SeamPull$Tape" 49) (.string "SeamPull$Tape" 55)), .not (.eq (.string "SeamPull$Tape" 49) (.string "SeamPull$Tape" 57)), .not (.eq (.string "SeamPull$Tape" 49) (.string "SeamPull$Tape" 59)), .not (.eq (.string "SeamPull$Tape" 49) (.string "SeamPull$Tape" 61)), .not (.eq (.string "SeamPull$Tape" 49) (.string "SeamPull$Tape" 63)), .not (.eq (.string "SeamPull$Tape" 49) (.string "SeamPull$Tape" 65)), .not (.eq (.string "SeamPull$Tape" 49) (.string "SeamPull$Tape" 67)), .not (.eq (.string "SeamPull$Tape" 49) (.string "SeamPull$Tape" 69)), .not (.eq (.string "SeamPull$Tape" 49) (.string "SeamPull$Tape" 71)), .not (.eq (.string "SeamPull$Tape" 51) (.string "SeamPull$Tape" 53)), .not (.eq (.string "SeamPull$Tape" 51) (.string "SeamPull$Tape" 55)), .not (.eq (.string "SeamPull$Tape" 51) (.string "SeamPull$Tape" 57)), .not (.eq (.string "SeamPull$Tape" 51) (.string "SeamPull$Tape" 59)), .not (.eq (.string "SeamPull$Tape" 51) (.string "SeamPull$Tape" 61)), .not (.eq (.string "SeamPull$Tape" 51) (.string "SeamPull$Tape" 63)), .not (.eq (.string "SeamPull$Tape" 51) (.string "SeamPull$Tape" 65)), .not (.eq (.string "SeamPull$Tape" 51) (.string "SeamPull$Tape" 67)), .not (.eq (.string "SeamPull$Tape" 51) (.string "SeamPull$Tape" 69)), .not (.eq (.string "SeamPull$Tape" 51) (.string "SeamPull$Tape" 71)), .not (.eq (.string "SeamPull$Tape" 53) (.string "SeamPull$Tape" 55)), .not (.eq (.string "SeamPull$Tape" 53) (.string "SeamPull$Tape" 57)), .not (.eq (.string "SeamPull$Tape" 53) (.string "SeamPull$Tape" 59)), .not (.eq (.string "SeamPull$Tape" 53) (.string "SeamPull$Tape" 61)), .not (.eq (.string "SeamPull$Tape" 53) (.string "SeamPull$Tape" 63)), .not (.eq (.string "SeamPull$Tape" 53) (.string "SeamPull$Tape" 65)), .not (.eq (.string "SeamPull$Tape" 53) (.string "SeamPull$Tape" 67)), .not (.eq (.string "SeamPull$Tape" 53) (.string "SeamPull$Tape" 69)), .not (.eq (.string "SeamPull$Tape" 53) (.string "SeamPull$Tape" 71)), .not (.eq (.string "SeamPull$Tape" 55) (.string "SeamPull$Tape" 57)), .not (.eq (.string "SeamPull$Tape" 55) (.string "SeamPull$Tape" 59)), .not (.eq (.string "SeamPull$Tape" 55) (.string "SeamPull$Tape" 61)), .not (.eq (.string "SeamPull$Tape" 55) (.string "SeamPull$Tape" 63)), .not (.eq (.string "SeamPull$Tape" 55) (.string "SeamPull$Tape" 65)), .not (.eq (.string "SeamPull$Tape" 55) (.string "SeamPull$Tape" 67)), .not (.eq (.string "SeamPull$Tape" 55) (.string "SeamPull$Tape" 69)), .not (.eq (.string "SeamPull$Tape" 55) (.string "SeamPull$Tape" 71)), .not (.eq (.string "SeamPull$Tape" 57) (.string "SeamPull$Tape" 59)), .not (.eq (.string "SeamPull$Tape" 57) (.string "SeamPull$Tape" 61)), .not (.eq (.string "SeamPull$Tape" 57) (.string "SeamPull$Tape" 63)), .not (.eq (.string "SeamPull$Tape" 57) (.string "SeamPull$Tape" 65)), .not (.eq (.string "SeamPull$Tape" 57) (.string "SeamPull$Tape" 67)), .not (.eq (.string "SeamPull$Tape" 57) (.string "SeamPull$Tape" 69)), .not (.eq (.string "SeamPull$Tape" 57) (.string "SeamPull$Tape" 71)), .not (.eq (.string "SeamPull$Tape" 59) (.string "SeamPull$Tape" 61)), .not (.eq (.string "SeamPull$Tape" 59) (.string "SeamPull$Tape" 63)), .not (.eq (.string "SeamPull$Tape" 59) (.string "SeamPull$Tape" 65)), .not (.eq (.string "SeamPull$Tape" 59) (.string "SeamPull$Tape" 67)), .not (.eq (.string "SeamPull$Tape" 59) (.string "SeamPull$Tape" 69)), .not (.eq (.string "SeamPull$Tape" 59) (.string "SeamPull$Tape" 71)), .not (.eq (.string "SeamPull$Tape" 61) (.string "SeamPull$Tape" 63)), .not (.eq (.string "SeamPull$Tape" 61) (.string "SeamPull$Tape" 65)), .not (.eq (.string "SeamPull$Tape" 61) (.string "SeamPull$Tape" 67)), .not (.eq (.string "SeamPull$Tape" 61) (.string "SeamPull$Tape" 69)), .not (.eq (.string "SeamPull$Tape" 61) (.string "SeamPull$Tape" 71)), .not (.eq (.string "SeamPull$Tape" 63) (.string "SeamPull$Tape" 65)), .not (.eq (.string "SeamPull$Tape" 63) (.string "SeamPull$Tape" 67)), .not (.eq (.string "SeamPull$Tape" 63) (.string "SeamPull$Tape" 69)), .not (.eq (.string "SeamPull$Tape" 63) (.string "SeamPull$Tape" 71)), .not (.eq (.string "SeamPull$Tape" 65) (.string "SeamPull$Tape" 67)), .not (.eq (.string "SeamPull$Tape" 65) (.string "SeamPull$Tape" 69)), .not (.eq (.string "SeamPull$Tape" 65) (.string "SeamPull$Tape" 71)), .not (.eq (.string "SeamPull$Tape" 67) (.string "SeamPull$Tape" 69)), .not (.eq (.string "SeamPull$Tape" 67) (.string "SeamPull$Tape" 71)), .not (.eq (.string "SeamPull$Tape" 69) (.string "SeamPull$Tape" 71))]
set_option maxRecDepth 100000 in
theorem neq_in : ∀ w ∈ NEQL, w ∈ FLT := bg_in [65, 74, 84, 97, 111, 125, 139, 155, 171, 189, 207, 228, 244, 75, 85, 98, 112, 126, 140, 156, 172, 190, 208, 229, 245, 86, 99, 113, 127, 141, 157, 173, 191, 209, 230, 246, 100, 114, 128, 142, 158, 174, 192, 210, 231, 247, 115, 129, 143, 159, 175, 193, 211, 232, 248, 130, 144, 160, 176, 194, 212, 233, 249, 145, 161, 177, 195, 213, 234, 250, 162, 178, 196, 214, 235, 251, 179, 197, 215, 236, 252, 198, 216, 237, 253, 217, 238, 254, 239, 255, 256] (by decide +kernel)
def neqT : List (List Nat) := [[0, 0, 1, 2, 3, 4, 5, 6, 7, 8, 9, 10, 11, 12], [0, 0, 13, 14, 15, 16, 17, 18, 19, 20, 21, 22, 23, 24], [0, 0, 0, 25, 26, 27, 28, 29, 30, 31, 32, 33, 34, 35], [0, 0, 0, 0, 36, 37, 38, 39, 40, 41, 42, 43, 44, 45], [0, 0, 0, 0, 0, 46, 47, 48, 49, 50, 51, 52, 53, 54], [0, 0, 0, 0, 0, 0, 55, 56, 57, 58, 59, 60, 61, 62], [0, 0, 0, 0, 0, 0, 0, 63, 64, 65, 66, 67, 68, 69], [0, 0, 0, 0, 0, 0, 0, 0, 70, 71, 72, 73, 74, 75], [0, 0, 0, 0, 0, 0, 0, 0, 0, 76, 77, 78, 79, 80], [0, 0, 0, 0, 0, 0, 0, 0, 0, 0, 81, 82, 83, 84], [0, 0, 0, 0, 0, 0, 0, 0, 0, 0, 0, 85, 86, 87], [0, 0, 0, 0, 0, 0, 0, 0, 0, 0, 0, 0, 88, 89], [0, 0, 0, 0, 0, 0, 0, 0, 0, 0, 0, 0, 0, 90], [0, 0, 0, 0, 0, 0, 0, 0, 0, 0, 0, 0, 0, 0]]
set_option maxRecDepth 100000 in
theorem neq_at : ∀ i, i < 14 → ∀ j, j < 14 → i < j → NEQL[(neqT.getD i []).getD j 0]? = some (.not (.eq (tmS i) (tmS j))) := by decide +kernel
theorem fl_ne : ∀ i, i < 14 → ∀ j, j < 14 → i ≠ j → Cond.not (Cond.eq (tmS i) (tmS j)) ∈ FLT ∨ Cond.not (Cond.eq (tmS j) (tmS i)) ∈ FLT := by
  intro i hi j hj hne
  rcases Nat.lt_or_ge i j with h | h
  · exact Or.inl (neq_in _ (List.mem_of_getElem? (neq_at i hi j hj h)))
  · exact Or.inr (neq_in _ (List.mem_of_getElem? (neq_at j hj i hi (by omega))))
def stC (i : Nat) : String := ["SeamPull", "SeamPull$Asks", "SeamPull$Asks", "SeamPull$Asks"].getD i ""
def stN (i : Nat) : String := ["BY_NUMBERS", "NEAREST", "SIZE_BODY", "MARK_BODY"].getD i ""
set_option maxRecDepth 100000 in
theorem fl_ta : ∀ i, i < 4 → Cond.arrayOf (.static (stC i) (stN i) "[I") .int ∈ FLT := by decide +kernel
set_option maxRecDepth 100000 in
theorem fl_tl : ∀ i, i < 4 → Cond.eq (.length (.static (stC i) (stN i) "[I")) (.int (Int32.ofNat (roT.getD i []).length)) ∈ FLT := by decide +kernel
set_option maxRecDepth 100000 in
theorem fl_te : ∀ i, i < 4 → ∀ j, j < (roT.getD i []).length → Cond.eq (.elem (.static (stC i) (stN i) "[I") (.int (Int32.ofNat j))) (.int (roR i j)) ∈ FLT := by decide +kernel
set_option maxRecDepth 100000 in
theorem tb_ls : ∀ i, i < 4 → Cond.laysStatic (stC i) (stN i) "[I" ∈ lw_tbl ∧ Cond.initialized (stC i) ∈ lw_tbl := by decide +kernel
set_option maxRecDepth 100000 in
theorem tb_nest : ∀ w ∈ nestW, w ∈ lw_tbl := by decide +kernel
set_option maxRecDepth 100000 in
theorem tb_str : ∀ i, i < 14 → Cond.stringRef "SeamPull$Tape" (txK.getD i 0) (txS.getD i "") ∈ lw_tbl := by decide +kernel
set_option maxRecDepth 100000 in
theorem tb_misc : Cond.laysStatic "java/lang/String" "COMPACT_STRINGS" "Z" ∈ lw_tbl ∧ Cond.initialized "java/lang/String" ∈ lw_tbl ∧ Cond.laysStatic "jdk/internal/util/Preconditions" "SIOOBE_FORMATTER" "Ljava/util/function/BiFunction;" ∈ lw_tbl ∧ Cond.initialized "jdk/internal/util/Preconditions" ∈ lw_tbl ∧ Cond.arrayOver (.array .int) ∈ lw_tbl ∧ Cond.arrayOver (.object "SeamPull$Panel") ∈ lw_tbl ∧ Cond.arrayClass .int ∈ lw_tbl ∧ Cond.arrayClass .byte ∈ lw_tbl ∧ Cond.arrayClass .boolean ∈ lw_tbl := by decide +kernel
set_option maxRecDepth 100000 in
theorem fl_misc : Cond.eq (.static "java/lang/String" "COMPACT_STRINGS" "Z") (.int 1) ∈ FLT ∧ Cond.isRef (.static "jdk/internal/util/Preconditions" "SIOOBE_FORMATTER" "Ljava/util/function/BiFunction;") ∈ FLT := by decide +kernel
theorem nest_tab : ∀ w ∈ nestW, w.onTables = true := by decide +kernel
theorem arr_class {args : Array Value} {s : State} {t : FieldType} (h : (Cond.arrayClass t).before args s = true) (ho : ∀ C, t ≠ .object C) : ∃ c : ClassId, ArrOfT s c t ∧ va_RA s c t := by
  obtain ⟨c, k, comp, h1, h2, h3⟩ := Cond.arrayClass_spec h
  refine ⟨c, fun N z => ⟨(fun q hq => by cases hq), k, h2, comp, h3⟩, ?_⟩
  cases t <;> first | exact h1 | exact absurd rfl (ho _)
/-- references of the finished memory are well kinded -/
def wtc (Z : ZT) (n : Nat) : Bool := (List.range n).all fun k => (decide (zk Z k < 20 → ∀ j, j < nfl (zk Z k) → rk (zk Z k) j = 1 → zk Z (zr Z k j) = tgt (zk Z k) j ∧ zr Z k j < n)) && (decide (zk Z k = 23 → ∀ i, i < zl Z k → zk Z (zr Z k i) = 20 ∧ zr Z k i < n)) && (decide (zk Z k = 24 → ∀ i, i < zl Z k → zk Z (zr Z k i) = 2 ∧ zr Z k i < n))
set_option maxRecDepth 100000 in
theorem wt_dec : wtc Zf 127 = true := by decide +kernel
set_option maxRecDepth 100000 in
theorem zf_ro : ∀ i, i < 4 → zl Zf (1000 + i) = (roT.getD i []).length ∧ zk Zf (1000 + i) = 20 := by decide +kernel
theorem zf_n : (c_L_law σst).1 = 127 := by decide +kernel
theorem wt_of {B : BT} (hB : B.2.1 = 4) : WT (gN B 127) Zf := by
  have h := List.all_eq_true.mp wt_dec
  refine ⟨fun c j k hc hr hj hk => ?_, fun k i hk hi => ?_, fun k i hk hi => ?_, fun i hi => ?_, fun i hi => ?_⟩
  · have hk2 : k < 127 := hk.2
    have h1 := h k (List.mem_range.mpr hk2)
    simp only [Bool.and_eq_true, decide_eq_true_eq] at h1
    have hkc : zk Zf k = c := hk.1
    rw [hkc] at h1
    exact h1.1.1 hc j hj hr
  · have hk2 : k < 127 := hk.2
    have h1 := h k (List.mem_range.mpr hk2)
    simp only [Bool.and_eq_true, decide_eq_true_eq] at h1
    exact h1.1.2 hk.1 i hi
  · have hk2 : k < 127 := hk.2
    have h1 := h k (List.mem_range.mpr hk2)
    simp only [Bool.and_eq_true, decide_eq_true_eq] at h1
    exact h1.2 hk.1 i hi
  · have hi : i < B.2.1 := hi
    exact (zf_ro i (by omega)).1
  · exact ⟨(zf_ro i hi).2, Or.inr ⟨by omega, by show 1000 + i < 1000 + B.2.1; omega⟩⟩
set_option maxRecDepth 1000000 in
theorem ro_of {B : BT} (hB : B.2.1 = 4) : ROk (gN B 127) μf := by
  intro i hi
  have hi : i < B.2.1 := hi
  have h4 : i < 4 := by omega
  match i, h4 with
  | 0, _ => rfl
  | 1, _ => rfl
  | 2, _ => rfl
  | 3, _ => rfl
