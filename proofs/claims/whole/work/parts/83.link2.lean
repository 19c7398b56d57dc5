section QLR
variable {tw tr : Nat} {lin lou dd ob : Nat → BitVec 8} {od : Nat → Bool} {ou : Nat → BitVec 8} {lt : Nat → Bool} {IW OW : Nat → Nat → BitVec 8} {mI mO mD mG mR : Nat → BitVec 8} {mB : Nat → Bool} {mU : Nat → BitVec 8} {mF : Nat → Bool}
/-- a row is read on both sides -/
theorem qL_read (h : qL tw tr lin lou dd ob od ou lt IW OW mI mO mD mG mR mB mU mF) (hlt : tr < tw) {od2 mB2 lt2 mF2 : Nat → Bool} {ou2 mU2 : Nat → BitVec 8}
    (hod : od2 = if qs_st (qs_g1 dd tr) = 2 then va_up od tr true else od) (hmB : mB2 = va_up mB tr (decide (qs_st (qs_r1 (qs_wg mG tr mD 16) tr) = 2)))
    (hou : ou2 = qs_wo ou tr (qs_fw (qs_g2 (va_up OW tr (qs_mw (qs_g1 dd tr))) tr) (qs_g3 od2 tr)) 8) (hmU : mU2 = qs_wf 8 mU tr (qs_fw (qs_m2 (qs_wf 12 mR tr (qs_mw (qs_r1 (qs_wg mG tr mD 16) tr)) 12) tr) (qs_g3 mB2 tr)) 8)
    (hl1 : qs_ok (qs_g2 (va_up OW tr (qs_mw (qs_g1 dd tr))) tr) (qs_g3 od2 tr) → lt2 = lt) (hl2 : ¬ qs_ok (qs_g2 (va_up OW tr (qs_mw (qs_g1 dd tr))) tr) (qs_g3 od2 tr) → lt2 = va_up lt tr true)
    (hf1 : qs_ok (qs_m2 (qs_wf 12 mR tr (qs_mw (qs_r1 (qs_wg mG tr mD 16) tr)) 12) tr) (qs_g3 mB2 tr) → mF2 = qs_wz mF tr false 8) (hf2 : ¬ qs_ok (qs_m2 (qs_wf 12 mR tr (qs_mw (qs_r1 (qs_wg mG tr mD 16) tr)) 12) tr) (qs_g3 mB2 tr) → mF2 = qs_wz mF tr true 8) :
    qs_g1 dd tr = qs_r1 (qs_wg mG tr mD 16) tr ∧ qs_g2 (va_up OW tr (qs_mw (qs_g1 dd tr))) tr = qs_m2 (qs_wf 12 mR tr (qs_mw (qs_r1 (qs_wg mG tr mD 16) tr)) 12) tr ∧ qs_g3 od2 tr = qs_g3 mB2 tr ∧
      qL tw (tr + 1) lin lou dd ob od2 ou2 lt2 IW (va_up OW tr (qs_mw (qs_g1 dd tr))) mI mO mD (qs_wg mG tr mD 16) (qs_wf 12 mR tr (qs_mw (qs_r1 (qs_wg mG tr mD 16) tr)) 12) mB2 mU2 mF2 := by
  obtain ⟨h1, h2, h3, h4, h5, h6, h7, h8, h9, h10, h11, h12, h13, h14⟩ := h
  have wG := qL_at (F := qs_wg mG tr mD) (base := 16 * tr) (g := fun i => qs_t i (mD (16 * tr + i))) (fun _ => rfl) 16
  have g1 : ∀ a, a ≤ tr → ∀ i, i < 16 → qs_wg mG tr mD 16 (16 * a + i) = qs_t i (dd (a * 16 + i)) := by
    intro a ha i hi
    by_cases e : a = tr
    · rw [e, wG.2 i hi, show tr * 16 + i = 16 * tr + i by omega]
      exact congrArg (qs_t i) (h5 _ (by omega))
    · rw [wG.1 (16 * a + i) (by omega)]
      exact h8 a (by omega) i hi
  have eW := qs_gath g1
  generalize hG1 : qs_wg mG tr mD 16 = G1 at *
  rw [← eW] at hmB hmU hf1 hf2 ⊢
  generalize hW1 : qs_g1 dd tr = W1 at *
  have wR := qL_at (F := qs_wf 12 mR tr (qs_mw W1)) (base := 12 * tr) (g := qs_mw W1) (fun _ => rfl) 12
  have r1 : ∀ a, a ≤ tr → ∀ j, j < 12 → qs_wf 12 mR tr (qs_mw W1) 12 (12 * a + j) = va_up OW tr (qs_mw W1) a j := by
    intro a ha j hj
    by_cases e : a = tr
    · rw [e, va_up_self]
      exact wR.2 j hj
    · rw [va_up_ne _ _ e, wR.1 (12 * a + j) (by omega)]
      exact h9 a (by omega) j hj
  generalize hR1 : qs_wf 12 mR tr (qs_mw W1) 12 = R1 at *
  generalize hO2 : va_up OW tr (qs_mw W1) = O2 at *
  have eA : qs_g2 O2 tr = qs_m2 R1 tr := by
    funext i
    by_cases e : i < 12
    · rw [show qs_g2 O2 tr i = qs_gi O2 tr i from if_pos e, show qs_m2 R1 tr i = qs_mi R1 tr i from if_pos e]
      by_cases e1 : 11 ≤ tr + i
      · rw [show qs_gi O2 tr i = O2 (tr + i - 11) i from if_pos e1, show qs_mi R1 tr i = R1 (12 * (tr + i - 11) + i) from if_pos e1]
        exact (r1 _ (by omega) i e).symm
      · rw [show qs_gi O2 tr i = 0#8 from if_neg e1, show qs_mi R1 tr i = 0#8 from if_neg e1]
    · rw [show qs_g2 O2 tr i = 0#8 from if_neg e, show qs_m2 R1 tr i = 0#8 from if_neg e]
  have odne : ∀ a, a ≠ tr → od2 a = od a := by
    intro a ha
    rw [hod]
    by_cases e : qs_st W1 = 2
    · rw [if_pos e, va_up_ne _ _ ha]
    · rw [if_neg e]
  have b1 : ∀ a, a ≤ tr → mB2 a = od2 a := by
    intro a ha
    by_cases e : a = tr
    · rw [e, hmB, hod, va_up_self]
      by_cases e2 : qs_st W1 = 2
      · rw [if_pos e2, va_up_self, decide_eq_true e2]
      · rw [if_neg e2, decide_eq_false e2, h14 tr (Nat.le_refl _) (by omega)]
    · rw [odne a e, hmB, va_up_ne _ _ e]
      exact h10 a (by omega)
  have eZ : qs_g3 od2 tr = qs_g3 mB2 tr := by
    funext i
    by_cases e : i < 12
    · rw [show qs_g3 od2 tr i = qs_gz od2 tr i from if_pos e, show qs_g3 mB2 tr i = qs_gz mB2 tr i from if_pos e]
      by_cases e1 : 11 ≤ tr + i
      · rw [show qs_gz od2 tr i = od2 (tr + i - 11) from if_pos e1, show qs_gz mB2 tr i = mB2 (tr + i - 11) from if_pos e1]
        exact (b1 _ (by omega)).symm
      · rw [show qs_gz od2 tr i = false from if_neg e1, show qs_gz mB2 tr i = false from if_neg e1]
    · rw [show qs_g3 od2 tr i = false from if_neg e, show qs_g3 mB2 tr i = false from if_neg e]
  rw [← eA, ← eZ] at hmU hf1 hf2
  refine ⟨rfl, eA, eZ, by omega, h2, h3, h4, h5, h6, h7, fun a ha => g1 a (by omega), fun a ha => r1 a (by omega), fun a ha => b1 a (by omega), fun j hj => ?_, fun j hj => ?_, fun a ha hb => ?_, fun a ha hb => ?_⟩
  · have wU := qL_at (F := qs_wf 8 mU tr (qs_fw (qs_g2 O2 tr) (qs_g3 od2 tr))) (base := 8 * tr) (g := qs_fw (qs_g2 O2 tr) (qs_g3 od2 tr)) (fun _ => rfl) 8
    have wo := qL_at (F := qs_wo ou tr (qs_fw (qs_g2 O2 tr) (qs_g3 od2 tr))) (base := tr * 8) (g := qs_fw (qs_g2 O2 tr) (qs_g3 od2 tr)) (fun _ => rfl) 8
    rw [hmU, hou]
    by_cases e : j < 8 * tr
    · rw [wU.1 j (by omega), wo.1 j (by omega)]
      exact h11 j e
    · have f1 := wU.2 (j - 8 * tr) (by omega)
      have f2 := wo.2 (j - 8 * tr) (by omega)
      rw [show 8 * tr + (j - 8 * tr) = j by omega] at f1
      rw [show tr * 8 + (j - 8 * tr) = j by omega] at f2
      rw [f1, f2]
  · by_cases hk : qs_ok (qs_g2 O2 tr) (qs_g3 od2 tr)
    · have wZ := qL_at (F := qs_wz mF tr false) (base := 8 * tr) (g := fun _ => false) (fun _ => rfl) 8
      rw [hl1 hk, hf1 hk]
      by_cases e : j < 8 * tr
      · rw [wZ.1 j (by omega)]
        exact h12 j e
      · have f1 := wZ.2 (j - 8 * tr) (by omega)
        rw [show 8 * tr + (j - 8 * tr) = j by omega] at f1
        rw [f1, show j / 8 = tr by omega]
        exact (h13 tr (Nat.le_refl _) (by omega)).symm
    · have wZ := qL_at (F := qs_wz mF tr true) (base := 8 * tr) (g := fun _ => true) (fun _ => rfl) 8
      rw [hl2 hk, hf2 hk]
      by_cases e : j < 8 * tr
      · rw [wZ.1 j (by omega), va_up_ne _ _ (by omega)]
        exact h12 j e
      · have f1 := wZ.2 (j - 8 * tr) (by omega)
        rw [show 8 * tr + (j - 8 * tr) = j by omega] at f1
        rw [f1, show j / 8 = tr by omega, va_up_self]
  · by_cases hk : qs_ok (qs_g2 O2 tr) (qs_g3 od2 tr)
    · rw [hl1 hk]
      exact h13 a (by omega) hb
    · rw [hl2 hk, va_up_ne _ _ (by omega)]
      exact h13 a (by omega) hb
  · rw [odne a (by omega)]
    exact h14 a (by omega) hb
end QLR
