theorem qs_sym (v : BitVec 8) : ¬ sI v < 0 ∧ ¬ nI 255 < sI v :=
  ⟨nI_pos (by have := v.isLt; omega), fun h => absurd ((nI_ltI (by omega) (by have := v.isLt; omega)).mp h) (by have := v.isLt; omega)⟩
