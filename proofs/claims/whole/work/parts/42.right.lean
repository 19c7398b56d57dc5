/-! putting right: one function of the symbols gathered, for system and reference -/
noncomputable def qs_st (w : Nat → BitVec 8) : Nat := @ite Nat (qw_W 16 w) (Classical.propDecidable _) 0 (@ite Nat (∃ i, i < 16 ∧ qk_F w i) (Classical.propDecidable _) 1 2)
noncomputable def qs_mw (w : Nat → BitVec 8) : Nat → BitVec 8 := @dite _ (¬ qw_W 16 w ∧ ∃ i, i < 16 ∧ qk_F w i ∧ ∀ j, j < i → ¬ qk_F w j) (Classical.propDecidable _) (fun h => va_up w (Classical.choose h.2) (w (Classical.choose h.2) ^^^ qw_S 16 w 0)) (fun _ => w)
theorem qs_st0 {w : Nat → BitVec 8} (h : qw_W 16 w) : qs_st w = 0 ∧ qs_mw w = w := by
  constructor
  · unfold qs_st
    rw [if_pos h]
  · unfold qs_mw
    rw [dif_neg (fun q => q.1 h)]
theorem qs_st1 {w : Nat → BitVec 8} (h : ¬ qw_W 16 w) {i : Nat} (hi : i < 16) (hF : qk_F w i) (hl : ∀ j, j < i → ¬ qk_F w j) : qs_st w = 1 ∧ qs_mw w = va_up w i (w i ^^^ qw_S 16 w 0) := by
  constructor
  · unfold qs_st
    rw [if_neg h, if_pos ⟨i, hi, hF⟩]
  · have hex : ∃ i, i < 16 ∧ qk_F w i ∧ ∀ j, j < i → ¬ qk_F w j := ⟨i, hi, hF, hl⟩
    unfold qs_mw
    rw [dif_pos ⟨h, hex⟩]
    have hc := Classical.choose_spec hex
    have e : Classical.choose hex = i := by
      rcases Nat.lt_trichotomy (Classical.choose hex) i with h1 | h1 | h1
      · exact absurd hc.2.1 (hl _ h1)
      · exact h1
      · exact absurd hF (hc.2.2 i h1)
    show va_up w (Classical.choose hex) (w (Classical.choose hex) ^^^ qw_S 16 w 0) = _
    rw [e]
theorem qs_st2 {w : Nat → BitVec 8} (h : ¬ qw_W 16 w) (hn : ∀ i, i < 16 → ¬ qk_F w i) : qs_st w = 2 ∧ qs_mw w = w := by
  constructor
  · unfold qs_st
    rw [if_neg h, if_neg (fun q => by obtain ⟨i, hi, hF⟩ := q; exact hn i hi hF)]
  · unfold qs_mw
    rw [dif_neg (fun q => by obtain ⟨-, i, hi, hF, -⟩ := q; exact hn i hi hF)]
/-- an inner word that can be put right, and what it is then -/
def qs_ok (w : Nat → BitVec 8) (z : Nat → Bool) : Prop := qd_c z 12 ≤ 4 ∧ qk_can 12 z (fun _ => 0) w
noncomputable def qs_fw (w : Nat → BitVec 8) (z : Nat → Bool) : Nat → BitVec 8 := @ite _ (qs_ok w z) (Classical.propDecidable _) (qk_p w (qd_d z (fun _ => 0) 12) (fun c => qk_N 12 z (fun _ => 0) w c 4) (qd_c z 12)) w
theorem qs_ok_class {w : Nat → BitVec 8} {z : Nat → Bool} {d : Nat → Nat} {v : Nat → BitVec 8} {b : Bool} (h1 : b = true → qd_c z 12 ≤ 4 ∧ v = qw_a w (qd_d z d 12) (qk_ch 12 z d w) (qd_c z 12) ∧ qw_W 12 v) (h2 : b = false → v = w ∧ (qd_c z 12 ≤ 4 → ¬ qw_W 12 (qw_a w (qd_d z d 12) (qk_ch 12 z d w) (qd_c z 12)))) : (b = true ↔ qs_ok w z) ∧ ∀ i, i < 12 → v i = qs_fw w z i := by
  cases b with
  | true =>
    obtain ⟨a1, a2, a3⟩ := h1 rfl
    have hc : qk_can 12 z d w := (qk_good (by omega) a1).mp (by rw [← a2]; exact a3)
    have hok : qs_ok w z := ⟨a1, (qs_can_congr (fun _ _ => rfl) (fun _ _ _ => rfl)).mp hc⟩
    refine ⟨⟨fun _ => hok, fun _ => rfl⟩, fun i hi => ?_⟩
    unfold qs_fw
    rw [if_pos hok, a2]
    exact qs_both (by omega) a1 (fun _ _ => rfl) (fun _ _ _ => rfl) hc hi
  | false =>
    obtain ⟨a1, a2⟩ := h2 rfl
    have hno : ¬ qs_ok w z := fun q => a2 q.1 ((qk_good (by omega) q.1).mpr ((qs_can_congr (fun _ _ => rfl) (fun _ _ _ => rfl)).mp q.2))
    refine ⟨⟨fun q => Bool.noConfusion q, fun q => absurd q hno⟩, fun i _ => ?_⟩
    unfold qs_fw
    rw [if_neg hno, a1]
theorem qs_ok_ref {w : Nat → BitVec 8} {z : Nat → Bool} {d : Nat → Nat} {v : Nat → BitVec 8} {b : Bool} (hm : qd_c z 12 ≤ 4) (h0 : b = true ↔ qk_can 12 z d w) (h1 : b = true → v = qk_p w (qd_d z d 12) (fun c => qk_N 12 z d w c 4) (qd_c z 12)) (h2 : b = false → v = w) : (b = true ↔ qs_ok w z) ∧ ∀ i, i < 12 → v i = qs_fw w z i := by
  have key : b = true ↔ qs_ok w z := ⟨fun h => ⟨hm, (qs_can_congr (fun _ _ => rfl) (fun _ _ _ => rfl)).mp (h0.mp h)⟩, fun h => h0.mpr ((qs_can_congr (fun _ _ => rfl) (fun _ _ _ => rfl)).mp h.2)⟩
  refine ⟨key, fun i hi => ?_⟩
  unfold qs_fw
  cases b with
  | true =>
    rw [if_pos (key.mp rfl), h1 rfl]
    exact qs_p_same (fun _ _ => rfl) (fun _ _ _ => rfl) hi
  | false => rw [if_neg (fun q => Bool.noConfusion (key.mpr q)), h2 rfl]
/-- what is gathered, with nothing beyond its length -/
def qs_g1 (dd : Nat → BitVec 8) (x : Nat) : Nat → BitVec 8 := fun i => if i < 16 then qs_go dd x i else 0#8
def qs_g2 (O : Nat → Nat → BitVec 8) (x : Nat) : Nat → BitVec 8 := fun i => if i < 12 then qs_gi O x i else 0#8
def qs_g3 (od : Nat → Bool) (x : Nat) : Nat → Bool := fun i => if i < 12 then qs_gz od x i else false
def qs_wo (ou : Nat → BitVec 8) (x : Nat) (y : Nat → BitVec 8) : Nat → (Nat → BitVec 8)
  | 0 => ou
  | i + 1 => va_up (qs_wo ou x y i) (x * 8 + i) (y i)
theorem qs_wo_congr {ou : Nat → BitVec 8} {x : Nat} {y v : Nat → BitVec 8} {m : Nat} (h : ∀ i, i < m → y i = v i) : qs_wo ou x y m = qs_wo ou x v m := by
  induction m with
  | zero => rfl
  | succ m ih => rw [qs_wo, qs_wo, ih (fun i hi => h i (by omega)), h m (by omega)]
theorem qs_sub11 {x j : Nat} (h : 11 ≤ x + j) : nI x - nI 11 + nI j = nI (x + j - 11) := by
  have e : nI (x + j - 11) + nI 11 = nI x + nI j := by rw [nI_add, nI_add, Nat.sub_add_cancel h]
  have h2 : nI x - nI 11 + nI j = nI x + nI j - nI 11 := by
    rw [Int32.sub_eq_add_neg, Int32.sub_eq_add_neg, Int32.add_assoc, Int32.add_comm (-nI 11), ← Int32.add_assoc]
  rw [h2, ← e, Int32.sub_eq_add_neg, Int32.add_assoc, Int32.add_right_neg, Int32.add_zero]
theorem qs_neg11 : ∀ x, x < 48 → ∀ j, j < 12 → ¬ 11 ≤ x + j → nI x - nI 11 + nI j < 0 := by decide +kernel
