/-! the filling depends on what stands below n alone -/
theorem qd_c_congr {z y : Nat → Bool} {n : Nat} (h : ∀ i, i < n → z i = y i) : qd_c z n = qd_c y n := by
  induction n with
  | zero => rfl
  | succ n ih => rw [qd_c, qd_c, ih (fun i hi => h i (by omega)), h n (by omega)]
theorem qd_d_congr {z y : Nat → Bool} {d : Nat → Nat} {n : Nat} (h : ∀ i, i < n → z i = y i) : qd_d z d n = qd_d y d n := by
  induction n with
  | zero => rfl
  | succ n ih => rw [qd_d, qd_d, ih (fun i hi => h i (by omega)), h n (by omega), qd_c_congr (fun i hi => h i (by omega))]
theorem qk_R_congr {z y : Nat → Bool} {w v : Nat → BitVec 8} {n : Nat} (h : ∀ i, i < n → z i = y i) (hw : ∀ i, i < n → w i = v i) : qk_R n z w = qk_R n y v := by
  funext k
  unfold qk_R
  exact qw_h_congr (fun i hi => by rw [h i hi, hw i hi])
theorem qk_N_congr {z y : Nat → Bool} {w v : Nat → BitVec 8} {d e : Nat → Nat} {n : Nat} (h : ∀ i, i < n → z i = y i) (hw : ∀ i, i < n → w i = v i) : qk_N n z d w = qk_N n y e v := by
  unfold qk_N
  rw [qk_R_congr h hw, qd_c_congr h]
  congr 1
  funext k c
  unfold qg_M0
  by_cases h4 : c < 4
  · rw [if_pos h4, if_pos h4]
    by_cases hc : c < qd_c y n
    · rw [if_pos hc, if_pos hc, qd_d_congr h]
      show qf_p (qw_X n (qd_d y d n c)) k = qf_p (qw_X n (qd_d y e n c)) k
      rw [qd_d_any y d e n hc]
    · rw [if_neg hc, if_neg hc]
  · rw [if_neg h4, if_neg h4]
theorem qk_can_congr {z y : Nat → Bool} {w v : Nat → BitVec 8} {d e : Nat → Nat} {n : Nat} (h : ∀ i, i < n → z i = y i) (hw : ∀ i, i < n → w i = v i) : qk_can n z d w ↔ qk_can n y e v := by
  unfold qk_can
  rw [qk_N_congr (d := d) (e := e) h hw, qd_c_congr h]
theorem qk_p_congr {w v : Nat → BitVec 8} {d e : Nat → Nat} {x y : Nat → BitVec 8} {m i : Nat} (hw : w i = v i) (hd : ∀ c, c < m → d c = e c) (hx : ∀ c, c < m → x c = y c) : qk_p w d x m i = qk_p v e y m i := by
  induction m with
  | zero => exact hw
  | succ m ih =>
    rw [qk_p, qk_p, hd m (by omega), hx m (by omega)]
    by_cases h : i = e m
    · rw [h, va_up_self, va_up_self]
    · rw [va_up_ne _ _ h, va_up_ne _ _ h, ih (fun c hc => hd c (by omega)) (fun c hc => hx c (by omega))]
/-- system and reference, both filled: the same symbols below n -/
theorem qk_both {n : Nat} (hn : n ≤ 16) {z y : Nat → Bool} {w v : Nat → BitVec 8} {d e : Nat → Nat} (hm : qd_c z n ≤ 4) (h : ∀ i, i < n → z i = y i) (hw : ∀ i, i < n → w i = v i) (hc : qk_can n z d w) {i : Nat} (hi : i < n) : qw_a w (qd_d z d n) (qk_ch n z d w) (qd_c z n) i = qk_p v (qd_d y e n) (fun c => qk_N n y e v c 4) (qd_c y n) i := by
  rw [qk_same hn hm hc hi, ← qd_c_congr h]
  refine qk_p_congr (hw i hi) (fun c hc => ?_) (fun c _ => ?_)
  · rw [qd_d_congr h]
    exact qd_d_any y d e n (by rw [← qd_c_congr h]; exact hc)
  · rw [qk_N_congr (d := d) (e := e) h hw]
/-- the reference's last four -/
def qm_fi (n : Nat) (z : Nat → Bool) : Nat → (Nat → Bool)
  | 0 => z
  | i + 1 => va_up (qm_fi n z i) i (decide (n - 4 ≤ i) && decide (i < n))
theorem qm_fi_at {n : Nat} {z : Nat → Bool} {i m : Nat} (h : i < m) : qm_fi n z m i = (decide (n - 4 ≤ i) && decide (i < n)) := by
  induction m with
  | zero => omega
  | succ m ih =>
    rw [qm_fi]
    by_cases e : i = m
    · rw [e, va_up_self]
    · rw [va_up_ne _ _ e, ih (by omega)]
theorem qm_fi_mc {n : Nat} (hn : n ≤ 16) (z y : Nat → Bool) : ∀ i, i < n → qm_mc n z n i = qm_fi n y 16 i := by
  intro i hi
  rw [qm_mc_at hi, qm_fi_at (by omega), decide_eq_true hi, Bool.and_true]
theorem qm_fi_4 {n : Nat} (hn : n ≤ 16) (z : Nat → Bool) (h : 4 ≤ n) : qd_c (qm_fi n z 16) n = 4 := by
  rw [← qd_c_congr (qm_fi_mc hn z z), qm_mc_4 z h]
