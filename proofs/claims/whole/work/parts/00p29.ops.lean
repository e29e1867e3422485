/-! ===== every call keeps it; it holds at the start ===== -/
theorem ops : Ops Inv := by
  intro ν h
  rw [← Zc_eq]
  exact ⟨op_sheet h, op_set h, op_copy h, op_drop h, fun a0 a1 a2 => op_feed h _ a2, op_plan h, op_fault h, op_act h, op_open h, op_run h, op_runs h, op_cell h, op_height h, op_minutes h, op_gives h, op_best h, op_orders h, op_beforehand h, op_spots h, op_crack h, op_warm h, op_wire h, op_kind h, op_as h, op_ask h, op_trace h, op_count h, op_status h⟩
theorem in_sh : (∀ s, s < 8 → μf 3 s = -1 ∧ μf 107 s = -1) ∧ (∀ s, s < 8 → ∀ j, j < 40 → μf (5 + s) j = μf 109 (40 * s + j)) := by decide +kernel
theorem in_nm : μf 0 15 = μf 106 1 ∧ μf 0 14 = μf 106 21 ∧ μf 13 1 = nI 0 ∧ μf 106 20 = nI 0 ∧ μf 0 11 = nI 92 ∧ μf 0 12 = nI 99 ∧ μf 92 0 = nI 0 ∧ μf 92 1 = nI 0 ∧ μf 92 2 = nI 0 ∧ μf 92 3 = nI 0 ∧ μf 106 5 = nI 0 ∧ μf 106 6 = nI 0 ∧ μf 106 7 = nI 0 ∧ μf 106 8 = nI 0 ∧ μf 19 7 = nI 0 ∧ μf 19 8 = 0 ∧ μf 0 13 = 0 ∧ μf 106 31 = 0 ∧ μf 33 4 = 0 ∧ μf 87 2 = 0 ∧ μf 90 1 = nI 0 ∧ μf 106 42 = nI 0 := by decide +kernel
theorem in_cs : ∀ c, c < 12 → μf 16 c = μf 117 c ∧ -40 ≤ (μf 117 c).toInt ∧ (μf 117 c).toInt ≤ 40 := by decide +kernel
theorem inv0 : Inv μf := by
  obtain ⟨a1, a2, a3, a4, a5, a6, a7, a8, a9, a10, a11, a12, a13, a14, a15, a16, a17, a18, a19, a20, a21, a22⟩ := in_nm
  refine ⟨92, 99, 0, 0, 0, 0, ⟨fun s hs => Or.inl (in_sh.1 s hs), fun s j hs hj => in_sh.2 s hs j hj⟩, ⟨a1, a2⟩, ⟨0, by omega, a3, a4, fun j hj => by omega⟩, ⟨Or.inl rfl, Or.inr rfl, by omega, a5, a6⟩, ⟨⟨a7, a8, a9, a10⟩, Or.inl ⟨rfl, rfl, rfl, rfl⟩, fun a ha => by omega, ⟨fun _ => 0, rfl, rfl, fun s hs => by omega, fun a s hs => by omega⟩, fun b hb => by omega, fun s hs => by omega⟩, ⟨a11, a12, a13, a14⟩, in_cs, fun k hk => by omega, ⟨bgA (μf 117), ⟨a15, a16, ⟨0, rfl, by omega, fun c hc => by omega⟩, fun c hc => by omega⟩, ⟨⟨0, rfl, by omega⟩, fun c hc => by omega⟩, Or.inr ⟨a17, a18, rfl⟩⟩, Or.inl a19, Or.inl a20, ⟨0, by omega, a21, a22, fun j hj => by omega⟩, rfl, rfl, rfl, rfl⟩
