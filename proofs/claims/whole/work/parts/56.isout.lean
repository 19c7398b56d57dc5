theorem qs_isout {x n : Nat} (h : x < n) (hn : n < 2 ^ 31) : ¬ nI x < 0 ∧ ¬ nI n ≤ nI x :=
  ⟨nI_pos (by omega), fun q => absurd ((nI_leI (by omega) (by omega)).mp q) (by omega)⟩
theorem qs_swo {x : Int32} (h : x < 0 ∨ ¬ x ≤ nI 6) : x.toInt < 0 ∨ 6 < x.toInt := by
  rcases h with h | h
  · exact Or.inl (by have := Int32.lt_iff_toInt_lt.mp h; rwa [Int32.toInt_zero] at this)
  · refine Or.inr ?_
    have h2 := Int32.lt_iff_toInt_lt.mp (Int32.not_le.mp h)
    rwa [nI_toInt (by omega)] at h2
