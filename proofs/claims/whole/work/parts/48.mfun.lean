/-! what the reference gathers -/
def qs_r0 (G : Nat → BitVec 8) (x : Nat) : Nat → BitVec 8 := fun i => if x = 0 ∧ i % 2 = 0 then 0#8 else G (16 * (x + i % 2 - 1) + i)
def qs_r1 (G : Nat → BitVec 8) (x : Nat) : Nat → BitVec 8 := fun i => if i < 16 then qs_r0 G x i else 0#8
theorem qs_sub1 {x j : Nat} (h : 1 ≤ x + j) : nI x - nI 1 + nI j = nI (x + j - 1) := by
  have e : nI (x + j - 1) + nI 1 = nI x + nI j := by rw [nI_add, nI_add, Nat.sub_add_cancel h]
  have h2 : nI x - nI 1 + nI j = nI x + nI j - nI 1 := by
    rw [Int32.sub_eq_add_neg, Int32.sub_eq_add_neg, Int32.add_assoc, Int32.add_comm (-nI 1), ← Int32.add_assoc]
  rw [h2, ← e, Int32.sub_eq_add_neg, Int32.add_assoc, Int32.add_right_neg, Int32.add_zero]
theorem qs_neg1 {x i : Nat} (h : x = 0 ∧ i % 2 = 0) : ¬ 0 ≤ nI x - nI 1 + nI (i % 2) := by
  rw [h.1, h.2]
  decide
theorem qs_nge {a : Int32} (h : a < 0) : ¬ 0 ≤ a := Int32.not_le.mpr h
/-- gathered alike: what was read is the disc's, turned -/
theorem qs_gath {dd G : Nat → BitVec 8} {x : Nat} (h : ∀ a, a ≤ x → ∀ i, i < 16 → G (16 * a + i) = qs_t i (dd (a * 16 + i))) : qs_g1 dd x = qs_r1 G x := by
  funext i
  unfold qs_g1 qs_r1
  by_cases hi : i < 16
  · rw [if_pos hi, if_pos hi]
    unfold qs_go qs_r0
    by_cases h2 : i % 2 = 0
    · rw [if_pos h2]
      by_cases hx : x = 0
      · rw [if_pos hx, if_pos ⟨hx, h2⟩]
      · rw [if_neg hx, if_neg (fun q => hx q.1), h2, Nat.add_zero, h (x - 1) (by omega) i hi]
    · have h3 : i % 2 = 1 := by omega
      rw [if_neg h2, if_neg (fun q => h2 q.2), h3, Nat.add_sub_cancel, h x (Nat.le_refl x) i hi]
  · rw [if_neg hi, if_neg hi]
