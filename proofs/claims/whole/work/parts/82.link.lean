/-! the state of the system beside the reference's -/
theorem qL_at {α : Type} {F : Nat → Nat → α} {base : Nat} {g : Nat → α} (hs : ∀ i, F (i + 1) = va_up (F i) (base + i) (g i)) (m : Nat) : (∀ k, k < base ∨ base + m ≤ k → F m k = F 0 k) ∧ (∀ i, i < m → F m (base + i) = g i) := by
  induction m with
  | zero => exact ⟨fun _ _ => rfl, fun i hi => absurd hi (by omega)⟩
  | succ m ih =>
    refine ⟨fun k hk => ?_, fun i hi => ?_⟩
    · rw [hs, va_up_ne _ _ (by omega)]
      exact ih.1 k (by omega)
    · rw [hs]
      by_cases e : i = m
      · rw [e, va_up_self]
      · rw [va_up_ne _ _ (by omega)]
        exact ih.2 i (by omega)
theorem qL_bu {D E : Nat → BitVec 8} {x : Nat} {v : BitVec 8} {N : Nat} (h : ∀ j, j < N → D j = E j) (q : Nat) : ∀ j, j < N → qs_bu D x v q j = qs_bu E x v q j := by
  induction q with
  | zero => exact h
  | succ q ih =>
    intro j hj
    rw [qs_bu, qs_bu]
    by_cases e : j = x + q
    · rw [e, va_up_self, va_up_self, ih (x + q) (by omega)]
    · rw [va_up_ne _ _ e, va_up_ne _ _ e]
      exact ih j hj
theorem qL_bu0 (D : Nat → BitVec 8) (x : Nat) (v : BitVec 8) (q : Nat) : ∀ j, j < x → qs_bu D x v q j = D j := by
  induction q with
  | zero => exact fun _ _ => rfl
  | succ q ih =>
    intro j hj
    rw [qs_bu, va_up_ne _ _ (by omega)]
    exact ih j hj
def qL (tw tr : Nat) (lin lou dd ob : Nat → BitVec 8) (od : Nat → Bool) (ou : Nat → BitVec 8) (lt : Nat → Bool) (IW OW : Nat → Nat → BitVec 8) (mI mO mD mG mR : Nat → BitVec 8) (mB : Nat → Bool) (mU : Nat → BitVec 8) (mF : Nat → Bool) : Prop :=
  tr ≤ tw ∧ tw ≤ 48 ∧ (∀ i, i < 12 → lin i = qw_X 12 i) ∧ (∀ i, i < 16 → lou i = qw_X 16 i) ∧ (∀ j, j < 16 * tw → mD j = dd j) ∧ (∀ a, a < tw → ∀ j, j < 12 → mI (12 * a + j) = IW a j) ∧ (∀ i, i < 16 → ob i = if tw = 0 then 0#8 else mO (16 * (tw - 1) + i)) ∧
  (∀ a, a < tr → ∀ i, i < 16 → mG (16 * a + i) = qs_t i (dd (a * 16 + i))) ∧ (∀ a, a < tr → ∀ j, j < 12 → mR (12 * a + j) = OW a j) ∧ (∀ a, a < tr → mB a = od a) ∧ (∀ j, j < 8 * tr → mU j = ou j) ∧ (∀ j, j < 8 * tr → mF j = lt (j / 8)) ∧ (∀ a, tr ≤ a → a < 48 → lt a = false) ∧ (∀ a, tr ≤ a → a < 48 → od a = false)
section QL
variable {tw tr : Nat} {lin lou dd ob : Nat → BitVec 8} {od : Nat → Bool} {ou : Nat → BitVec 8} {lt : Nat → Bool} {IW OW : Nat → Nat → BitVec 8} {mI mO mD mG mR : Nat → BitVec 8} {mB : Nat → Bool} {mU : Nat → BitVec 8} {mF : Nat → Bool}
theorem qL_start : qL 0 0 (qm_lo 12 0) (qm_lo 16 0) (fun _ => 0#8) (fun _ => 0#8) (fun _ => false) (fun _ => 0#8) (fun _ => false) (fun _ _ => 0#8) (fun _ _ => 0#8) (fun _ => 0#8) (fun _ => 0#8) (fun _ => 0#8) (fun _ => 0#8) (fun _ => 0#8) (fun _ => false) (fun _ => 0#8) (fun _ => false) :=
  ⟨by omega, by omega, fun i hi => qm_lo_0 hi, fun i hi => qm_lo_0 hi, fun _ _ => rfl, fun _ _ _ _ => rfl, fun _ _ => (if_pos rfl).symm, fun a ha => absurd ha (by omega), fun a ha => absurd ha (by omega), fun a ha => absurd ha (by omega), fun a ha => absurd ha (by omega), fun a ha => absurd ha (by omega), fun _ _ _ => rfl, fun _ _ _ => rfl⟩
theorem qL_feed (h : qL tw tr lin lou dd ob od ou lt IW OW mI mO mD mG mR mB mU mF) (htw : tw < 48) (v : Int64) :
    qL (tw + 1) tr lin lou (qs_wr dd tw (qs_ow (va_up IW tw (qs_iw v)) tw) ob 16) (qs_ow (va_up IW tw (qs_iw v)) tw) od ou lt (va_up IW tw (qs_iw v)) OW (qs_wf 12 mI tw (qs_iw v) 12) (qs_wf 16 mO tw (qs_mo (qs_wf 12 mI tw (qs_iw v) 12) tw) 16) (qs_wd mD tw (qs_wf 16 mO tw (qs_mo (qs_wf 12 mI tw (qs_iw v) 12) tw) 16) 16) mG mR mB mU mF := by
  obtain ⟨h1, h2, h3, h4, h5, h6, h7, h8, h9, h10, h11, h12, h13, h14⟩ := h
  have wI := qL_at (F := qs_wf 12 mI tw (qs_iw v)) (base := 12 * tw) (g := qs_iw v) (fun _ => rfl) 12
  have a1 : ∀ a, a < tw + 1 → ∀ j, j < 12 → qs_wf 12 mI tw (qs_iw v) 12 (12 * a + j) = va_up IW tw (qs_iw v) a j := by
    intro a ha j hj
    by_cases e : a = tw
    · rw [e, va_up_self]
      exact wI.2 j hj
    · rw [va_up_ne _ _ e, wI.1 (12 * a + j) (by omega)]
      exact h6 a (by omega) j hj
  generalize hI1 : qs_wf 12 mI tw (qs_iw v) 12 = I1 at a1 ⊢
  generalize hI2 : va_up IW tw (qs_iw v) = I2 at a1 ⊢
  have a2 : ∀ i, i < 16 → qs_mo I1 tw i = qs_ow I2 tw i := fun i hi => qs_enc_congr (n := 16) (by omega) (fun j hj => by
    by_cases e : j ≤ tw
    · rw [show qs_ms I1 tw j = I1 (12 * (tw - j) + j) from if_neg (by omega), show qs_os I2 tw j = I2 (tw - j) j from if_pos e]
      exact a1 (tw - j) (by omega) j (by omega)
    · rw [show qs_ms I1 tw j = 0#8 from if_pos (by omega), show qs_os I2 tw j = 0#8 from if_neg e]) hi
  have wO := qL_at (F := qs_wf 16 mO tw (qs_mo I1 tw)) (base := 16 * tw) (g := qs_mo I1 tw) (fun _ => rfl) 16
  generalize hO1 : qs_wf 16 mO tw (qs_mo I1 tw) 16 = O1 at wO ⊢
  generalize hY2 : qs_ow I2 tw = Y2 at a2 ⊢
  have wD := qL_at (F := qs_wd mD tw O1) (base := 16 * tw) (g := fun i => qs_t i (qs_dv O1 tw i)) (fun _ => rfl) 16
  have wR := qL_at (F := qs_wr dd tw Y2 ob) (base := tw * 16) (g := fun i => qs_t i (if i % 2 = 0 then Y2 i else ob i)) (fun _ => rfl) 16
  have hdv : ∀ i, i < 16 → qs_dv O1 tw i = if i % 2 = 0 then Y2 i else ob i := by
    intro i hi
    by_cases e : i % 2 = 0
    · rw [if_pos e, show qs_dv O1 tw i = O1 (16 * (tw - i % 2) + i) from if_neg (by omega), e, Nat.sub_zero]
      exact (wO.2 i hi).trans (a2 i hi)
    · rw [if_neg e, h7 i hi]
      by_cases e0 : tw = 0
      · rw [if_pos e0]
        exact if_pos (by omega)
      · rw [if_neg e0, show qs_dv O1 tw i = O1 (16 * (tw - i % 2) + i) from if_neg (by omega), show i % 2 = 1 by omega]
        exact wO.1 _ (by omega)
  refine ⟨by omega, by omega, h3, h4, fun j hj => ?_, a1, fun i hi => ?_, fun a ha i hi => ?_, h9, h10, h11, h12, h13, h14⟩
  · by_cases e : j < 16 * tw
    · rw [wD.1 j (by omega), wR.1 j (by omega)]
      exact h5 j e
    · have f1 := wD.2 (j - 16 * tw) (by omega)
      have f2 := wR.2 (j - 16 * tw) (by omega)
      rw [show 16 * tw + (j - 16 * tw) = j by omega] at f1
      rw [show tw * 16 + (j - 16 * tw) = j by omega] at f2
      rw [f1, f2]
      exact congrArg (qs_t _) (hdv _ (by omega))
  · rw [if_neg (by omega), Nat.add_sub_cancel]
    exact ((wO.2 i hi).trans (a2 i hi)).symm
  · rw [wR.1 (a * 16 + i) (by omega)]
    exact h8 a ha i hi
theorem qL_scr (h : qL tw tr lin lou dd ob od ou lt IW OW mI mO mD mG mR mB mU mF) {x y : Nat} (hx : x < tw) (hy : y < 16) (ht : tr ≤ x) (v : BitVec 8) : qL tw tr lin lou (va_up dd (x * 16 + y) (dd (x * 16 + y) ^^^ v)) ob od ou lt IW OW mI mO (va_up mD (16 * x + y) (mD (16 * x + y) ^^^ v)) mG mR mB mU mF := by
  obtain ⟨h1, h2, h3, h4, h5, h6, h7, h8, h9, h10, h11, h12, h13, h14⟩ := h
  refine ⟨h1, h2, h3, h4, fun j hj => ?_, h6, h7, fun a ha i hi => ?_, h9, h10, h11, h12, h13, h14⟩
  · rw [show x * 16 + y = 16 * x + y by omega]
    by_cases e : j = 16 * x + y
    · rw [e, va_up_self, va_up_self, h5 (16 * x + y) (by omega)]
    · rw [va_up_ne _ _ e, va_up_ne _ _ e]
      exact h5 j hj
  · rw [va_up_ne _ _ (by omega)]
    exact h8 a ha i hi
theorem qL_bur (h : qL tw tr lin lou dd ob od ou lt IW OW mI mO mD mG mR mB mU mF) {x q : Nat} (hr : x + q ≤ 16 * tw) (ht : tr ≤ x / 16) (v : BitVec 8) : qL tw tr lin lou (qs_bu dd x v q) ob od ou lt IW OW mI mO (qs_bu mD x v q) mG mR mB mU mF := by
  obtain ⟨h1, h2, h3, h4, h5, h6, h7, h8, h9, h10, h11, h12, h13, h14⟩ := h
  refine ⟨h1, h2, h3, h4, qL_bu h5 q, h6, h7, fun a ha i hi => ?_, h9, h10, h11, h12, h13, h14⟩
  rw [qL_bu0 dd x v q _ (by omega)]
  exact h8 a ha i hi
end QL
