theorem qz_nat {a : Int32} (h : ¬ a < 0) : ∃ x : Nat, a = nI x ∧ x < 2 ^ 31 := by
  have h1 : 0 ≤ a.toInt := by
    have h2 := Int32.le_iff_toInt_le.mp (Int32.not_lt.mp h)
    rwa [Int32.toInt_zero] at h2
  have h2 := Int32.toInt_lt a
  have h3 : a.toInt.toNat < 2 ^ 31 := by omega
  refine ⟨a.toInt.toNat, Int32.toInt_inj.mp ?_, h3⟩
  rw [nI_toInt h3]
  omega
theorem qz_lt {a x : Nat} (ha : a < 2 ^ 31) (hx : x < 2 ^ 31) (h : ¬ nI a ≤ nI x) : x < a := Nat.not_le.mp (fun q => h ((nI_leI ha hx).mpr q))
theorem qz_sy {a : Int32} (h : ¬ a < 0 ∧ ¬ nI 255 < a) : ∃ v : BitVec 8, a = sI v := by
  obtain ⟨x, rfl, hx⟩ := qz_nat h.1
  have h2 : x ≤ 255 := Nat.not_lt.mp (fun q => h.2 ((nI_ltI (by omega) hx).mpr q))
  exact ⟨BitVec.ofNat 8 x, by unfold sI; rw [BitVec.toNat_ofNat, Nat.mod_eq_of_lt (by omega)]⟩
theorem qz_sw {t : Int32} (h : ¬ (t.toInt < 0 ∨ 10 < t.toInt)) : ∃ k : Nat, k ≤ 10 ∧ t = nI k := by
  have h0 : ¬ t < 0 := fun q => h (Or.inl (by
    have h2 := Int32.lt_iff_toInt_lt.mp q
    rwa [Int32.toInt_zero] at h2))
  obtain ⟨k, rfl, hk⟩ := qz_nat h0
  rw [nI_toInt hk] at h
  exact ⟨k, by omega, rfl⟩
theorem qz_gt {L i : Nat} (hL : L ≤ 2048) (hi : i ≤ 4096) : nI L - nI 4 < nI i ↔ L < i + 4 := by
  rw [Int32.lt_iff_toInt_lt, pk_sub_toInt (by omega) (by omega), nI_toInt (by omega)]
  omega
theorem qz_subI {a b : Nat} (ha : a < 2 ^ 31) (hb : b < 2 ^ 31) : (nI a - nI b).toInt = (a : Int) - b := by
  rw [Int32.toInt_sub, nI_toInt ha, nI_toInt hb]
  exact Int.bmod_eq_of_le (by omega) (by omega)
theorem qz_off1 {x : Int32} {tw q : Nat} (htw : tw ≤ 48) (hq : 0 < q) (hq1 : q < 2 ^ 31) (h : ¬ ∃ k : Nat, x = nI k ∧ k + q ≤ 16 * tw) : x < 0 ∨ ¬ x ≤ nI (tw * 16) - nI q := by
  by_cases h0 : x < 0
  · exact Or.inl h0
  · refine Or.inr ?_
    obtain ⟨k, rfl, hk⟩ := qz_nat h0
    have h1 : ¬ k + q ≤ 16 * tw := fun g => h ⟨k, rfl, g⟩
    rw [Int32.le_iff_toInt_le, qz_subI (by omega) hq1, nI_toInt hk]
    omega
theorem qz_off2 {x : Int32} {tw q : Nat} (htw : tw ≤ 48) (hq : 0 < q) (hq1 : q < 2 ^ 31) (h : ¬ ∃ k : Nat, x = nI k ∧ k + q ≤ 16 * tw) : x < 0 ∨ nI (16 * tw) ≤ x ∨ ¬ nI q ≤ nI (16 * tw) - x := by
  by_cases h0 : x < 0
  · exact Or.inl h0
  · refine Or.inr (Or.inr ?_)
    obtain ⟨k, rfl, hk⟩ := qz_nat h0
    have h1 : ¬ k + q ≤ 16 * tw := fun g => h ⟨k, rfl, g⟩
    rw [Int32.le_iff_toInt_le, qz_subI (by omega) hk, nI_toInt hq1]
    omega
theorem qz_outc {x : Int32} {tr : Nat} (h : ¬ (¬ x < 0 ∧ ¬ nI (8 * tr) ≤ x)) : x < 0 ∨ nI (tr * 8) ≤ x := by
  rw [Nat.mul_comm tr 8]
  by_cases h0 : x < 0
  · exact Or.inl h0
  · exact Or.inr (Classical.byContradiction (fun g => h ⟨h0, g⟩))
theorem qz_six {x : Int32} (h : ¬ (x < 0 ∨ ¬ x ≤ nI 6)) : ∃ k : Nat, k ≤ 6 ∧ x = nI k := by
  obtain ⟨k, rfl, hk⟩ := qz_nat (fun q => h (Or.inl q))
  exact ⟨k, (nI_leI hk (by omega)).mp (Classical.byContradiction (fun g => h (Or.inr g))), rfl⟩
theorem qz_chk {x : Int32} (h : x < 0 ∨ nI 4 ≤ x) : x < 0 ∨ ¬ x ≤ nI 3 := by
  rcases h with h | h
  · exact Or.inl h
  · refine Or.inr (fun g => ?_)
    have h1 := Int32.le_iff_toInt_le.mp h
    have h2 := Int32.le_iff_toInt_le.mp g
    rw [nI_toInt (by omega)] at h1 h2
    omega
