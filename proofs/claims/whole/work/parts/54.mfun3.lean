/-! what the reference's read lays -/
def qs_wg (G : Nat → BitVec 8) (t : Nat) (D : Nat → BitVec 8) : Nat → (Nat → BitVec 8)
  | 0 => G
  | i + 1 => va_up (qs_wg G t D i) (16 * t + i) (qs_t i (D (16 * t + i)))
def qs_wz (F : Nat → Bool) (t : Nat) (b : Bool) : Nat → (Nat → Bool)
  | 0 => F
  | i + 1 => va_up (qs_wz F t b i) (8 * t + i) b
def qs_mi (R : Nat → BitVec 8) (t : Nat) : Nat → BitVec 8 := fun j => if 11 ≤ t + j then R (12 * (t + j - 11) + j) else 0#8
def qs_m2 (R : Nat → BitVec 8) (t : Nat) : Nat → BitVec 8 := fun i => if i < 12 then qs_mi R t i else 0#8
theorem qs_st_le (w : Nat → BitVec 8) : qs_st w ≤ 2 := by
  by_cases h : qw_W 16 w
  · rw [(qs_st0 h).1]; omega
  · unfold qs_st
    rw [if_neg h]
    by_cases h2 : ∃ i, i < 16 ∧ qk_F w i
    · rw [if_pos h2]; omega
    · rw [if_neg h2]; omega
theorem qs_mend_ref {w w2 : Nat → BitVec 8} {r : Int32} (h : (r = nI 0 ∧ qw_W 16 w ∧ w2 = w) ∨ (r = nI 1 ∧ ¬ qw_W 16 w ∧ ∃ i, i < 16 ∧ qk_F w i ∧ (∀ j, j < i → ¬ qk_F w j) ∧ w2 = va_up w i (w i ^^^ qw_S 16 w 0)) ∨ (r = nI 2 ∧ ¬ qw_W 16 w ∧ (∀ i, i < 16 → ¬ qk_F w i) ∧ w2 = w)) : r = nI (qs_st w) ∧ w2 = qs_mw w := by
  rcases h with ⟨h1, h2, h3⟩ | ⟨h1, h2, i, h3, h4, h5, h6⟩ | ⟨h1, h2, h3, h4⟩
  · rw [(qs_st0 h2).1, (qs_st0 h2).2]; exact ⟨h1, h3⟩
  · rw [(qs_st1 h2 h3 h4 h5).1, (qs_st1 h2 h3 h4 h5).2]; exact ⟨h1, h6⟩
  · rw [(qs_st2 h2 h3).1, (qs_st2 h2 h3).2]; exact ⟨h1, h4⟩
theorem qs_ok_congr {w v : Nat → BitVec 8} {z y : Nat → Bool} (h : ∀ i, i < 12 → z i = y i) (hw : ∀ i, i < 12 → w i = v i) : qs_ok w z ↔ qs_ok v y := by
  unfold qs_ok
  rw [qd_c_congr h, qs_can_congr (e := fun _ => 0) h (fun i hi _ => hw i hi)]
theorem qs_fw_congr {w v : Nat → BitVec 8} {z y : Nat → Bool} (h : ∀ i, i < 12 → z i = y i) (hw : ∀ i, i < 12 → w i = v i) {i : Nat} (hi : i < 12) : qs_fw w z i = qs_fw v y i := by
  unfold qs_fw
  by_cases hk : qs_ok v y
  · rw [if_pos hk, if_pos ((qs_ok_congr h hw).mpr hk)]
    exact qs_p_same h (fun i hi _ => hw i hi) hi
  · rw [if_neg hk, if_neg (fun q => hk ((qs_ok_congr h hw).mp q)), hw i hi]
theorem qs_rd1 {w v : Nat → BitVec 8} {z y : Nat → Bool} (h : ∀ i, i < 12 → z i = y i) (hw : ∀ i, i < 12 → w i = v i) (hm : 4 < qd_c z 12) : (false = true ↔ qs_ok v y) ∧ ∀ i, i < 12 → w i = qs_fw v y i := by
  have hno : ¬ qs_ok v y := fun q => by
    have := ((qs_ok_congr h hw).mpr q).1
    omega
  refine ⟨⟨fun q => Bool.noConfusion q, fun q => absurd q hno⟩, fun i hi => ?_⟩
  unfold qs_fw
  rw [if_neg hno, hw i hi]
theorem qs_rd2 {w v u : Nat → BitVec 8} {z y : Nat → Bool} {d : Nat → Nat} {b : Bool} (h : ∀ i, i < 12 → z i = y i) (hw : ∀ i, i < 12 → w i = v i) (hm : qd_c z 12 ≤ 4) (hv : (b = true ↔ qk_can 12 z d w) ∧ (b = true → u = qk_p w (qd_d z d 12) (fun c => qk_N 12 z d w c 4) (qd_c z 12)) ∧ (b = false → u = w)) : (b = true ↔ qs_ok v y) ∧ ∀ i, i < 12 → u i = qs_fw v y i := by
  obtain ⟨h1, h2⟩ := qs_ok_ref hm hv.1 hv.2.1 hv.2.2
  exact ⟨h1.trans (qs_ok_congr h hw), fun i hi => (h2 i hi).trans (qs_fw_congr h hw hi)⟩
