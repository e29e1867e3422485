/-- program and reference answer alike: the pure statement -/
theorem law_pure : ∀ (ss : Nat → Int32) (L : Nat), L ≤ 3072 → ∃ ν, m_L_law Zf 127 ss L 0 106 μf = some (1, ν) := law_of ops inv0
