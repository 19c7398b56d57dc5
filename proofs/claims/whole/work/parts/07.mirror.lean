/-! what the loops of the system's Word and Field do, in the field's words -/
theorem qr_narZ (b : Bool) : narrow .boolean (.int (zI b)) = .int (zI b) := by cases b <;> rfl
/-- the sums, laid one behind the other -/
def qm_su (n : Nat) (w su : Nat → BitVec 8) : Nat → (Nat → BitVec 8)
  | 0 => su
  | k + 1 => va_up (qm_su n w su k) k (qw_S n w k)
theorem qm_su_at {n : Nat} {w su : Nat → BitVec 8} {k m : Nat} (h : k < m) : qm_su n w su m k = qw_S n w k := by
  induction m with
  | zero => omega
  | succ m ih =>
    rw [qm_su]
    by_cases e : k = m
    · rw [e, va_up_self]
    · rw [va_up_ne _ _ e, ih (by omega)]
/-- a times x, k times -/
def qm_ex (a x : BitVec 8) : Nat → BitVec 8
  | 0 => a
  | k + 1 => qf_m (qm_ex a x k) x
theorem qm_ex_p (a x : BitVec 8) (k : Nat) : qm_ex a x k = qf_m a (qf_p x k) := by
  induction k with
  | zero => exact (qf_1r a).symm
  | succ k ih => rw [qm_ex, ih, qf_p, qf_assoc]
/-- the first weights -/
def qm_st (V : Nat → BitVec 8) : Nat → (Nat → BitVec 8)
  | 0 => va_up V 0 1#8
  | k + 1 => va_up (qm_st V k) (k + 1) 0#8
theorem qm_st_0 (V : Nat → BitVec 8) : qm_st V 3 0 = 1#8 := rfl
theorem qm_st_k (V : Nat → BitVec 8) : ∀ k, 0 < k → k < 4 → qm_st V 3 k = 0#8 := by
  intro k h1 h2
  rcases (show k = 1 ∨ k = 2 ∨ k = 3 by omega) with rfl | rfl | rfl <;> rfl
/-- a root more, from the top down to place c -/
def qm_ar (V : Nat → BitVec 8) (r : BitVec 8) (c : Nat) : Nat → BitVec 8 := fun j => if c < j ∧ j < 4 then qf_m (V j) r ^^^ V (j - 1) else V j
theorem qm_ar_3 (V : Nat → BitVec 8) (r : BitVec 8) : qm_ar V r 3 = V := by
  funext j
  unfold qm_ar
  rw [if_neg (by omega)]
theorem qm_ar_s (V : Nat → BitVec 8) (r : BitVec 8) {c : Nat} (hc : c + 1 < 4) : qm_ar V r c = va_up (qm_ar V r (c + 1)) (c + 1) (qf_m (qm_ar V r (c + 1) (c + 1)) r ^^^ qm_ar V r (c + 1) (c + 1 - 1)) := by
  funext j
  have e1 : qm_ar V r (c + 1) (c + 1) = V (c + 1) := by unfold qm_ar; rw [if_neg (by omega)]
  have e2 : qm_ar V r (c + 1) (c + 1 - 1) = V (c + 1 - 1) := by unfold qm_ar; rw [if_neg (by omega)]
  rw [e1, e2]
  by_cases h : j = c + 1
  · rw [h, va_up_self]
    unfold qm_ar
    rw [if_pos (by omega)]
  · rw [va_up_ne _ _ h]
    unfold qm_ar
    by_cases h2 : c < j ∧ j < 4
    · rw [if_pos h2, if_pos (by omega)]
    · rw [if_neg h2, if_neg (by omega)]
theorem qm_ar_r (V : Nat → BitVec 8) (r : BitVec 8) : va_up (qm_ar V r 0) 0 (qf_m (qm_ar V r 0 0) r) = qw_r V r := by
  funext j
  have e1 : qm_ar V r 0 0 = V 0 := by unfold qm_ar; rw [if_neg (by omega)]
  rw [e1]
  by_cases h : j = 0
  · rw [h, va_up_self]
    rfl
  · rw [va_up_ne _ _ h]
    unfold qm_ar qw_r
    rw [if_neg h]
    by_cases h2 : j < 4
    · rw [if_pos (by omega), if_pos h2]
    · rw [if_neg (by omega), if_neg h2]
theorem qm_V_congr {Y V0 V1 : Nat → BitVec 8} {m : Nat} (h : ∀ k, k < 4 → V0 k = V1 k) (o : Nat) : ∀ k, k < 4 → qw_V Y m V0 o k = qw_V Y m V1 o k := by
  induction o with
  | zero => exact h
  | succ o ih =>
    intro k hk
    rw [qw_V, qw_V]
    by_cases e : o = m
    · rw [if_pos e, if_pos e]
      exact ih k hk
    · rw [if_neg e, if_neg e]
      unfold qw_r
      rw [ih 0 (by omega), ih k hk, ih (k - 1) (by omega)]
theorem qm_V_Y {Y Z V0 : Nat → BitVec 8} {m : Nat} (o : Nat) (h : ∀ c, c < o → Y c = Z c) : qw_V Y m V0 o = qw_V Z m V0 o := by
  induction o with
  | zero => rfl
  | succ o ih => rw [qw_V, qw_V, ih (fun c hc => h c (by omega)), h o (by omega)]
theorem qm_e_Y {Y Z : Nat → BitVec 8} {m : Nat} {x : BitVec 8} (o : Nat) (h : ∀ c, c < o → Y c = Z c) : qw_e Y m x o = qw_e Z m x o := by
  induction o with
  | zero => rfl
  | succ o ih => rw [qw_e, qw_e, ih (fun c hc => h c (by omega)), h o (by omega)]
/-- the change at m as the system counts it is qw_ch -/
theorem qm_ch {Y Z S T we : Nat → BitVec 8} {m n : Nat} (hm : m < n) (hY : ∀ c, c < n → Y c = Z c) (hS : ∀ k, k < 4 → S k = T k) : qf_m (qw_s (fun k => qf_m (qw_V Y m (qm_st we 3) n k) (S k)) 4) (qf_i (qw_e Y m (Y m) n)) = qw_ch Z T qw_V0 n m := by
  unfold qw_ch
  rw [qm_V_Y n hY, qm_e_Y n hY, hY m hm]
  congr 1
  refine qw_s_congr (fun k hk => ?_)
  rw [hS k hk, qm_V_congr (V1 := qw_V0) (fun k hk => ?_) n k hk]
  by_cases h0 : k = 0
  · rw [h0]; rfl
  · rw [qm_st_k we k (by omega) hk]
    exact (if_neg h0).symm
/-- the changes laid one behind the other -/
def qm_cs (ch x : Nat → BitVec 8) : Nat → (Nat → BitVec 8)
  | 0 => ch
  | c + 1 => va_up (qm_cs ch x c) c (x c)
theorem qm_cs_at {ch x : Nat → BitVec 8} {c m : Nat} (h : c < m) : qm_cs ch x m c = x c := by
  induction m with
  | zero => omega
  | succ m ih =>
    rw [qm_cs]
    by_cases e : c = m
    · rw [e, va_up_self]
    · rw [va_up_ne _ _ e, ih (by omega)]
theorem qw_a_congr {w : Nat → BitVec 8} {d : Nat → Nat} {x y : Nat → BitVec 8} {m : Nat} (h : ∀ c, c < m → x c = y c) : qw_a w d x m = qw_a w d y m := by
  induction m with
  | zero => rfl
  | succ m ih => rw [qw_a, qw_a, ih (fun c hc => h c (by omega)), h m (by omega)]
/-- the last four doubted -/
def qm_mc (n : Nat) (z : Nat → Bool) : Nat → (Nat → Bool)
  | 0 => z
  | i + 1 => va_up (qm_mc n z i) i (decide (n - 4 ≤ i))
theorem qm_mc_at {n : Nat} {z : Nat → Bool} {i m : Nat} (h : i < m) : qm_mc n z m i = decide (n - 4 ≤ i) := by
  induction m with
  | zero => omega
  | succ m ih =>
    rw [qm_mc]
    by_cases e : i = m
    · rw [e, va_up_self]
    · rw [va_up_ne _ _ e, ih (by omega)]
/-- the eight bytes -/
def qm_by (x : Int64) (i : Nat) : BitVec 8 := BitVec.ofNat 8 (x.toBitVec.toNat / 2 ^ (8 * i))
def qm_bw (x : Int64) (w : Nat → BitVec 8) : Nat → (Nat → BitVec 8)
  | 0 => w
  | i + 1 => va_up (qm_bw x w i) i (qm_by x i)
theorem qm_bw_at {x : Int64} {w : Nat → BitVec 8} {i m : Nat} (h : i < m) : qm_bw x w m i = qm_by x i := by
  induction m with
  | zero => omega
  | succ m ih =>
    rw [qm_bw]
    by_cases e : i = m
    · rw [e, va_up_self]
    · rw [va_up_ne _ _ e, ih (by omega)]
/-- the long shifted down by i bytes -/
def qm_sx (x : Int64) (i : Nat) : Int64 := (x.toUInt64 >>> ((nI (8 * i)).toInt64.toUInt64 &&& Int64.toUInt64 63)).toInt64
theorem qm_sx_n (x : Int64) {i : Nat} (hi : i < 8) : (qm_sx x i).toBitVec.toNat = x.toBitVec.toNat / 2 ^ (8 * i) := by
  have e : ∀ k, k < 64 → ((nI k).toInt64.toUInt64 &&& Int64.toUInt64 63) = UInt64.ofNat k := by decide +kernel
  unfold qm_sx
  rw [e (8 * i) (by omega)]
  show (x.toUInt64 >>> UInt64.ofNat (8 * i)).toBitVec.toNat = _
  have h1 : (x.toUInt64 >>> UInt64.ofNat (8 * i)).toNat = x.toUInt64.toNat >>> ((UInt64.ofNat (8 * i)).toNat % 64) := UInt64.toNat_shiftRight ..
  have h2 : (UInt64.ofNat (8 * i)).toNat = 8 * i := by rw [UInt64.toNat_ofNat']; omega
  rw [h2, Nat.mod_eq_of_lt (by omega), Nat.shiftRight_eq_div_pow] at h1
  exact h1
theorem qm_byte (x : Int64) {i : Nat} (hi : i < 8) : (qm_sx x i).toInt32 &&& nI 255 = sI (qm_by x i) := by
  rw [pk_and _ 8 (by decide)]
  unfold sI qm_by
  rw [BitVec.toNat_ofNat, ← qm_sx_n x hi]
  congr 1
  show (BitVec.toNat (BitVec.signExtend 32 (qm_sx x i).toBitVec)) % 2 ^ 8 = _
  rw [BitVec.signExtend_eq_setWidth_of_le _ (by decide), BitVec.toNat_setWidth]
  omega
theorem qm_mc_4 {n : Nat} (z : Nat → Bool) (h : 4 ≤ n) : qd_c (qm_mc n z n) n = 4 := by
  have key : ∀ i, i ≤ n → qd_c (qm_mc n z n) i = i - (n - 4) := by
    intro i
    induction i with
    | zero => intro _; show 0 = 0 - (n - 4); omega
    | succ i ih =>
      intro hi
      rw [qd_c, qm_mc_at (by omega), ih (by omega)]
      by_cases e : n - 4 ≤ i
      · rw [decide_eq_true e, cond_true]; omega
      · rw [decide_eq_false e, cond_false]; omega
  rw [key n (Nat.le_refl n)]
  omega
/-- a fault at i alone, by the system's rows of sums and locators -/
theorem qm_F2 {n : Nat} {w lo su : Nat → BitVec 8} (hn : n = 16) (hlo : ∀ i, i < n → lo i = qw_X n i) {i : Nat} (hi : i < n) (h : ∀ k, 0 < k → k < 4 → qf_m (qm_su n w su 4 0) (qf_p (lo i) k) = qm_su n w su 4 k) : qk_F w i := by
  subst hn
  intro k h1 h2
  have h3 := h k h1 h2
  rw [qm_su_at (by omega), qm_su_at h2, hlo i hi] at h3
  exact h3
theorem qm_F {n : Nat} {w lo su : Nat → BitVec 8} (hn : n = 16) (hlo : ∀ i, i < n → lo i = qw_X n i) {i : Nat} (hi : i < n) (h : qk_F w i) : ∀ k, 0 < k → k < 4 → qf_m (qm_su n w su 4 0) (qf_p (lo i) k) = qm_su n w su 4 k := by
  subst hn
  intro k h1 h2
  rw [qm_su_at (by omega), qm_su_at h2, hlo i hi]
  exact h k h1 h2
theorem qm_pos {a : BitVec 8} (h : a ≠ 0#8) : ¬ sI a ≤ 0 := nI_nle (by
  rcases Nat.eq_zero_or_pos a.toNat with h1 | h1
  · exact absurd (BitVec.eq_of_toNat_eq (by rw [h1]; rfl)) h
  · exact h1) (by have := a.isLt; omega)
/-- the long shifted down by i bytes, its sign kept -/
def qm_rx (x : Int64) (i : Nat) : Int64 := x >>> ((nI (8 * i)).toInt64 &&& 63)
