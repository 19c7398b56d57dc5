/-! words: sums by Horner, one place changed, the doubted places, Lagrange weights -/
def qw_h (r : BitVec 8) (w : Nat → BitVec 8) : Nat → BitVec 8
  | 0 => 0#8
  | i + 1 => qf_m (qw_h r w i) r ^^^ w i
def qw_s (f : Nat → BitVec 8) : Nat → BitVec 8
  | 0 => 0#8
  | c + 1 => qw_s f c ^^^ f c
theorem qw_h_congr {r : BitVec 8} {w v : Nat → BitVec 8} {n : Nat} (h : ∀ i, i < n → w i = v i) : qw_h r w n = qw_h r v n := by
  induction n with
  | zero => rfl
  | succ n ih => rw [qw_h, qw_h, ih (fun i hi => h i (by omega)), h n (by omega)]
theorem qw_s_congr {f g : Nat → BitVec 8} {n : Nat} (h : ∀ i, i < n → f i = g i) : qw_s f n = qw_s g n := by
  induction n with
  | zero => rfl
  | succ n ih => rw [qw_s, qw_s, ih (fun i hi => h i (by omega)), h n (by omega)]
theorem qw_h_up {r : BitVec 8} {w : Nat → BitVec 8} {d : BitVec 8} {n j : Nat} (hj : j < n) : qw_h r (va_up w j (w j ^^^ d)) n = qw_h r w n ^^^ qf_m d (qf_p r (n - 1 - j)) := by
  induction n with
  | zero => omega
  | succ n ih =>
    by_cases h : j = n
    · subst h
      rw [qw_h, qw_h, qw_h_congr (v := w) (fun i hi => va_up_ne _ _ (by omega)), va_up_self, show j + 1 - 1 - j = 0 by omega, qf_p, qf_1r, BitVec.xor_assoc]
    · rw [qw_h, qw_h, ih (by omega), va_up_ne _ _ (by omega), qf_m_l, qf_assoc, BitVec.xor_assoc, BitVec.xor_assoc, BitVec.xor_comm _ (w n), show n + 1 - 1 - j = (n - 1 - j) + 1 by omega, qf_p]
/-- the sums of a row of n, and the locators of its places -/
def qw_S (n : Nat) (w : Nat → BitVec 8) (k : Nat) : BitVec 8 := qw_h (qf_E k) w n
def qw_X (n j : Nat) : BitVec 8 := qf_E (n - 1 - j)
theorem qw_S_up {n j : Nat} (hj : j < n) (w : Nat → BitVec 8) (d : BitVec 8) (k : Nat) : qw_S n (va_up w j (w j ^^^ d)) k = qw_S n w k ^^^ qf_m d (qf_p (qw_X n j) k) := by
  unfold qw_S qw_X
  rw [qw_h_up hj, ← qf_E_p, ← qf_E_p, Nat.mul_comm]
theorem qw_X_ne {n i j : Nat} (hn : n ≤ 16) (hi : i < n) (hj : j < n) (h : i ≠ j) : qw_X n i ^^^ qw_X n j ≠ 0#8 := fun e => h (by
  have h1 := qf_E_inj (by omega) (by omega) (qf_xe e)
  omega)
/-- a row that is a word -/
def qw_W (n : Nat) (w : Nat → BitVec 8) : Prop := ∀ k, k < 4 → qw_S n w k = 0#8
theorem qw_W_congr {n : Nat} {w v : Nat → BitVec 8} (h : ∀ i, i < n → w i = v i) : qw_W n w ↔ qw_W n v := by
  unfold qw_W qw_S
  constructor
  · intro a k hk
    rw [← qw_h_congr h]
    exact a k hk
  · intro a k hk
    rw [qw_h_congr h]
    exact a k hk
/-- the places' changes, one behind the other -/
def qw_a (w : Nat → BitVec 8) (d : Nat → Nat) (x : Nat → BitVec 8) : Nat → (Nat → BitVec 8)
  | 0 => w
  | c + 1 => va_up (qw_a w d x c) (d c) (qw_a w d x c (d c) ^^^ x c)
theorem qw_a_S {n : Nat} {w : Nat → BitVec 8} {d : Nat → Nat} {x : Nat → BitVec 8} {m : Nat} (hd : ∀ c, c < m → d c < n) (k : Nat) : qw_S n (qw_a w d x m) k = qw_S n w k ^^^ qw_s (fun c => qf_m (x c) (qf_p (qw_X n (d c)) k)) m := by
  induction m with
  | zero => rw [qw_a, qw_s, BitVec.xor_zero]
  | succ m ih => rw [qw_a, qw_S_up (hd m (by omega)), ih (fun c hc => hd c (by omega)), qw_s, BitVec.xor_assoc]
theorem qw_a_at {w : Nat → BitVec 8} {d : Nat → Nat} {x : Nat → BitVec 8} {m j : Nat} : qw_a w d x m j = w j ^^^ qw_s (fun c => bif d c == j then x c else 0#8) m := by
  induction m with
  | zero => rw [qw_a, qw_s, BitVec.xor_zero]
  | succ m ih =>
    rw [qw_a, qw_s]
    by_cases h : j = d m
    · subst h
      rw [va_up_self, ih, beq_self_eq_true, cond_true, BitVec.xor_assoc]
    · rw [va_up_ne _ _ h, ih, beq_false_of_ne (fun e => h e.symm), cond_false, BitVec.xor_zero]
theorem qw_a_back (w : Nat → BitVec 8) (d : Nat → Nat) (x : Nat → BitVec 8) (m : Nat) : qw_a (qw_a w d x m) d x m = w := by
  funext j
  rw [qw_a_at, qw_a_at, BitVec.xor_assoc, BitVec.xor_self, BitVec.xor_zero]
/-- a sum with one term -/
theorem qw_s_one {f : Nat → BitVec 8} {n m : Nat} (hm : m < n) (h : ∀ c, c < n → c ≠ m → f c = 0#8) : qw_s f n = f m := by
  induction n with
  | zero => omega
  | succ n ih =>
    rw [qw_s]
    by_cases e : m = n
    · subst e
      have h0 : ∀ k, k ≤ m → qw_s f k = 0#8 := by
        intro k
        induction k with
        | zero => intro _; rfl
        | succ k ih2 => intro hk; rw [qw_s, ih2 (by omega), h k (by omega) (by omega), BitVec.xor_zero]
      rw [h0 m (Nat.le_refl m), BitVec.zero_xor]
    · rw [ih (by omega) (fun c hc => h c (by omega)), h n (by omega) (fun q => e q.symm), BitVec.xor_zero]
theorem qw_s_zero {f : Nat → BitVec 8} {n : Nat} (h : ∀ c, c < n → f c = 0#8) : qw_s f n = 0#8 := by
  induction n with
  | zero => rfl
  | succ n ih => rw [qw_s, ih (fun c hc => h c (by omega)), h n (by omega), BitVec.xor_zero]
theorem qw_s_x (f g : Nat → BitVec 8) (n : Nat) : qw_s (fun c => f c ^^^ g c) n = qw_s f n ^^^ qw_s g n := by
  induction n with
  | zero =>
    show (0#8 : BitVec 8) = 0#8 ^^^ 0#8
    decide
  | succ n ih => rw [qw_s, qw_s, qw_s, ih, qf_x4]
theorem qw_s_m (a : BitVec 8) (f : Nat → BitVec 8) (n : Nat) : qf_m a (qw_s f n) = qw_s (fun c => qf_m a (f c)) n := by
  induction n with
  | zero => exact qf_0r a
  | succ n ih => rw [qw_s, qw_s, qf_m_r, ih]
/-- sums of sums -/
theorem qw_s_swap (F : Nat → Nat → BitVec 8) (m n : Nat) : qw_s (fun k => qw_s (fun c => F k c) m) n = qw_s (fun c => qw_s (fun k => F k c) n) m := by
  induction n with
  | zero =>
    rw [qw_s]
    exact (qw_s_zero (fun c _ => rfl)).symm
  | succ n ih =>
    rw [qw_s, ih, ← qw_s_x]
    rfl
/-- the weights: coefficients of a polynomial of degree below 4 -/
def qw_r (V : Nat → BitVec 8) (r : BitVec 8) : Nat → BitVec 8 := fun k => if k = 0 then qf_m (V 0) r else if k < 4 then qf_m (V k) r ^^^ V (k - 1) else V k
def qw_ev (V : Nat → BitVec 8) (x : BitVec 8) : BitVec 8 := qw_s (fun k => qf_m (V k) (qf_p x k)) 4
theorem qw_ev4 (V : Nat → BitVec 8) (x : BitVec 8) : qw_ev V x = (((V 0 ^^^ qf_m (V 1) (qf_p x 1)) ^^^ qf_m (V 2) (qf_p x 2)) ^^^ qf_m (V 3) (qf_p x 3)) := by
  show ((((0#8 ^^^ qf_m (V 0) 1#8) ^^^ _) ^^^ _) ^^^ _) = _
  rw [BitVec.zero_xor, qf_1r]
theorem qw_ev_r {V : Nat → BitVec 8} (h3 : V 3 = 0#8) (r x : BitVec 8) : qw_ev (qw_r V r) x = qf_m (qw_ev V x) (x ^^^ r) := by
  have e0 : qw_r V r 0 = qf_m (V 0) r := rfl
  have e1 : qw_r V r 1 = qf_m (V 1) r ^^^ V 0 := rfl
  have e2 : qw_r V r 2 = qf_m (V 2) r ^^^ V 1 := rfl
  have e3 : qw_r V r 3 = qf_m (V 3) r ^^^ V 2 := rfl
  have s : ∀ (a : BitVec 8) (k : Nat), qf_m (qf_m a r) (qf_p x k) = qf_m (qf_m a (qf_p x k)) r := fun a k => by rw [qf_assoc, qf_comm r, ← qf_assoc]
  have t : ∀ (a : BitVec 8) (k : Nat), qf_m a (qf_p x (k + 1)) = qf_m (qf_m a (qf_p x k)) x := fun a k => by rw [qf_p, ← qf_assoc]
  rw [qw_ev4, qw_ev4, e0, e1, e2, e3, h3, qf_0l, qf_0l, BitVec.zero_xor, BitVec.xor_zero]
  rw [qf_m_r, qf_m_l, qf_m_l, qf_m_l, qf_m_l, qf_m_l, qf_m_l, s, s, t (V 0) 0, t (V 1) 1, t (V 2) 2, show qf_m (V 0) (qf_p x 0) = V 0 from qf_1r _]
  generalize qf_m (V 0) r = a0
  generalize qf_m (V 0) x = b0
  generalize qf_m (qf_m (V 1) (qf_p x 1)) r = a1
  generalize qf_m (qf_m (V 1) (qf_p x 1)) x = b1
  generalize qf_m (qf_m (V 2) (qf_p x 2)) r = a2
  generalize qf_m (qf_m (V 2) (qf_p x 2)) x = b2
  ac_rfl
/-- the system's weights and the value at the own locator, with the roots Y 0 .. but Y m -/
def qw_V0 : Nat → BitVec 8 := fun k => if k = 0 then 1#8 else 0#8
def qw_V (Y : Nat → BitVec 8) (m : Nat) (V0 : Nat → BitVec 8) : Nat → (Nat → BitVec 8)
  | 0 => V0
  | o + 1 => if o = m then qw_V Y m V0 o else qw_r (qw_V Y m V0 o) (Y o)
def qw_e (Y : Nat → BitVec 8) (m : Nat) (x : BitVec 8) : Nat → BitVec 8
  | 0 => 1#8
  | o + 1 => if o = m then qw_e Y m x o else qf_m (qw_e Y m x o) (x ^^^ Y o)
theorem qw_V_deg {Y : Nat → BitVec 8} {m : Nat} {V0 : Nat → BitVec 8} (h0 : V0 0 = 1#8) (hz : ∀ k, 0 < k → k < 4 → V0 k = 0#8) (o : Nat) : ∀ k, (if m < o then o - 1 else o) < k → k < 4 → qw_V Y m V0 o k = 0#8 := by
  induction o with
  | zero => intro k h1 h2; exact hz k (by split at h1 <;> omega) h2
  | succ o ih =>
    intro k h1 h2
    rw [qw_V]
    by_cases e : o = m
    · rw [if_pos e]
      refine ih k ?_ h2
      rw [if_pos (by omega)] at h1
      rw [if_neg (by omega)]
      omega
    · rw [if_neg e]
      have hk : (if m < o then o - 1 else o) < k - 1 := by split at h1 <;> split <;> omega
      have hk' : (if m < o then o - 1 else o) < k := by omega
      unfold qw_r
      rw [if_neg (by omega), if_pos h2, ih k hk' h2, ih (k - 1) hk (by omega), qf_0l, BitVec.zero_xor]
theorem qw_V_ev {Y : Nat → BitVec 8} {m : Nat} {V0 : Nat → BitVec 8} (h0 : V0 0 = 1#8) (hz : ∀ k, 0 < k → k < 4 → V0 k = 0#8) (x : BitVec 8) {n : Nat} (hm : m < n) (hn : n ≤ 4) (o : Nat) (ho : o ≤ n) : qw_ev (qw_V Y m V0 o) x = qw_e Y m x o := by
  induction o with
  | zero =>
    show qw_ev V0 x = 1#8
    rw [qw_ev4, h0, hz 1 (by omega) (by omega), hz 2 (by omega) (by omega), hz 3 (by omega) (by omega), qf_0l, qf_0l, qf_0l]
    simp
  | succ o ih =>
    rw [qw_V, qw_e]
    by_cases e : o = m
    · rw [if_pos e, if_pos e]
      exact ih (by omega)
    · rw [if_neg e, if_neg e, qw_ev_r (qw_V_deg h0 hz o 3 (by split <;> omega) (by omega)), ih (by omega)]
theorem qw_e_root {Y : Nat → BitVec 8} {m n c : Nat} (hc : c < n) (h : c ≠ m) : qw_e Y m (Y c) n = 0#8 := by
  induction n with
  | zero => omega
  | succ n ih =>
    rw [qw_e]
    by_cases e : n = m
    · rw [if_pos e]
      exact ih (by omega)
    · rw [if_neg e]
      by_cases e2 : c = n
      · rw [e2, BitVec.xor_self, qf_0r]
      · rw [ih (by omega), qf_0l]
theorem qw_e_nz {Y : Nat → BitVec 8} {m n : Nat} {x : BitVec 8} (h : ∀ c, c < n → c ≠ m → x ^^^ Y c ≠ 0#8) : qw_e Y m x n ≠ 0#8 := by
  induction n with
  | zero =>
    show (1#8 : BitVec 8) ≠ 0#8
    decide
  | succ n ih =>
    rw [qw_e]
    by_cases e : n = m
    · rw [if_pos e]
      exact ih (fun c hc => h c (by omega))
    · rw [if_neg e]
      exact qf_mz (ih (fun c hc => h c (by omega))) (h n (by omega) e)
/-- Lagrange: the sums weighted leave one term -/
theorem qw_lag {Y S x : Nat → BitVec 8} {m n : Nat} {V0 : Nat → BitVec 8} (h0 : V0 0 = 1#8) (hz : ∀ k, 0 < k → k < 4 → V0 k = 0#8) (hm : m < n) (hn : n ≤ 4) (hS : ∀ k, k < 4 → S k = qw_s (fun c => qf_m (x c) (qf_p (Y c) k)) n) :
    qw_s (fun k => qf_m (qw_V Y m V0 n k) (S k)) 4 = qf_m (x m) (qw_e Y m (Y m) n) := by
  have e1 : qw_s (fun k => qf_m (qw_V Y m V0 n k) (S k)) 4 = qw_s (fun k => qw_s (fun c => qf_m (x c) (qf_m (qw_V Y m V0 n k) (qf_p (Y c) k))) n) 4 := by
    refine qw_s_congr (fun k hk => ?_)
    rw [hS k hk, qw_s_m]
    refine qw_s_congr (fun c _ => ?_)
    rw [← qf_assoc, qf_comm (qw_V Y m V0 n k), qf_assoc]
  have e2 : qw_s (fun k => qw_s (fun c => qf_m (x c) (qf_m (qw_V Y m V0 n k) (qf_p (Y c) k))) n) 4 = qw_s (fun c => qf_m (x c) (qw_e Y m (Y c) n)) n := by
    rw [qw_s_swap (fun k c => qf_m (x c) (qf_m (qw_V Y m V0 n k) (qf_p (Y c) k)))]
    refine qw_s_congr (fun c _ => ?_)
    rw [← qw_s_m (x c) (fun k => qf_m (qw_V Y m V0 n k) (qf_p (Y c) k)) 4, ← qw_V_ev (Y := Y) h0 hz (Y c) hm hn n (Nat.le_refl n)]
    rfl
  rw [e1, e2]
  exact qw_s_one (f := fun c => qf_m (x c) (qw_e Y m (Y c) n)) hm (fun c hc hne => by
    show qf_m (x c) (qw_e Y m (Y c) n) = 0#8
    rw [qw_e_root hc hne, qf_0r])
/-- Vandermonde: sums that are all 0 have terms that are all 0 -/
theorem qw_van {Y x : Nat → BitVec 8} {n : Nat} (hn : n ≤ 4) (hY : ∀ i j, i < n → j < n → i ≠ j → Y i ^^^ Y j ≠ 0#8) (hS : ∀ k, k < 4 → qw_s (fun c => qf_m (x c) (qf_p (Y c) k)) n = 0#8) : ∀ m, m < n → x m = 0#8 := by
  intro m hm
  have h := qw_lag (Y := Y) (S := fun _ => 0#8) (x := x) (V0 := qw_V0) (m := m) (n := n) rfl (fun k h1 _ => if_neg (by omega)) hm hn (fun k hk => (hS k hk).symm)
  rw [qw_s_zero (fun c _ => qf_0r _)] at h
  rw [qf_comm] at h
  exact qf_nz h.symm (qw_e_nz (fun c hc hne => hY m c hm hc (fun e => hne e.symm)))
/-- the system's change at m -/
def qw_ch (Y S : Nat → BitVec 8) (V0 : Nat → BitVec 8) (n m : Nat) : BitVec 8 := qf_m (qw_s (fun k => qf_m (qw_V Y m V0 n k) (S k)) 4) (qf_i (qw_e Y m (Y m) n))
theorem qw_ch_ok {Y S x : Nat → BitVec 8} {m n : Nat} (hm : m < n) (hn : n ≤ 4) (hY : ∀ i j, i < n → j < n → i ≠ j → Y i ^^^ Y j ≠ 0#8) (hS : ∀ k, k < 4 → S k = qw_s (fun c => qf_m (x c) (qf_p (Y c) k)) n) : qw_ch Y S qw_V0 n m = x m := by
  unfold qw_ch
  rw [qw_lag (V0 := qw_V0) rfl (fun k h1 _ => if_neg (by omega)) hm hn hS, qf_assoc, qf_i_l (qw_e_nz (fun c hc hne => hY m c hm hc (fun e => hne e.symm))), qf_1r]
