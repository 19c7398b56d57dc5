/-! the system's filling and the reference's are one; so is mending -/
def qk_p (w : Nat → BitVec 8) (d : Nat → Nat) (x : Nat → BitVec 8) : Nat → (Nat → BitVec 8)
  | 0 => w
  | c + 1 => va_up (qk_p w d x c) (d c) (x c)
theorem qk_p_out {w : Nat → BitVec 8} {d : Nat → Nat} {x : Nat → BitVec 8} {m i : Nat} (h : ∀ c, c < m → d c ≠ i) : qk_p w d x m i = w i := by
  induction m with
  | zero => rfl
  | succ m ih => rw [qk_p, va_up_ne _ _ (fun e => h m (by omega) e.symm), ih (fun c hc => h c (by omega))]
theorem qk_p_in {w : Nat → BitVec 8} {d : Nat → Nat} {x : Nat → BitVec 8} {m c : Nat} (hc : c < m) (h : ∀ a b, a < m → b < m → a ≠ b → d a ≠ d b) : qk_p w d x m (d c) = x c := by
  induction m with
  | zero => omega
  | succ m ih =>
    rw [qk_p]
    by_cases e : c = m
    · rw [e, va_up_self]
    · rw [va_up_ne _ _ (h c m (by omega) (by omega) e), ih (by omega) (fun a b ha hb => h a b (by omega) (by omega))]
/-- the sums over the symbols that aren't doubted -/
def qk_R (n : Nat) (z : Nat → Bool) (w : Nat → BitVec 8) (k : Nat) : BitVec 8 := qw_h (qf_E k) (fun i => bif z i then 0#8 else w i) n
theorem qk_one {z : Nat → Bool} {d0 : Nat → Nat} {n i : Nat} (hi : i < n) (x : Nat → BitVec 8) : qw_s (fun c => bif qd_d z d0 n c == i then x c else 0#8) (qd_c z n) = bif z i then x (qd_c z i) else 0#8 := by
  cases hz : z i with
  | true =>
    rw [cond_true, qw_s_one (m := qd_c z i) (qd_c_lt z hi hz) (fun c hc hne => by
      show (bif qd_d z d0 n c == i then x c else 0#8) = 0#8
      rw [beq_false_of_ne (fun e => hne (by rw [← (qd_d_in z d0 n c hc).2.2, e])), cond_false])]
    show (bif qd_d z d0 n (qd_c z i) == i then x (qd_c z i) else 0#8) = x (qd_c z i)
    rw [qd_d_all z d0 n hi hz, beq_self_eq_true, cond_true]
  | false =>
    rw [cond_false]
    exact qw_s_zero (fun c hc => by
      show (bif qd_d z d0 n c == i then x c else 0#8) = 0#8
      rw [beq_false_of_ne (fun e => by have h := (qd_d_in z d0 n c hc).2.1; rw [e, hz] at h; exact absurd h (by decide)), cond_false])
theorem qk_rest {z : Nat → Bool} {d0 : Nat → Nat} {n : Nat} (w : Nat → BitVec 8) (k : Nat) : qw_S n w k = qk_R n z w k ^^^ qw_s (fun c => qf_m (w (qd_d z d0 n c)) (qf_p (qw_X n (qd_d z d0 n c)) k)) (qd_c z n) := by
  have h1 := qw_a_S (n := n) (w := fun i => bif z i then 0#8 else w i) (d := qd_d z d0 n) (x := fun c => w (qd_d z d0 n c)) (m := qd_c z n) (fun c hc => (qd_d_in z d0 n c hc).1) k
  have h2 : qw_S n (qw_a (fun i => bif z i then 0#8 else w i) (qd_d z d0 n) (fun c => w (qd_d z d0 n c)) (qd_c z n)) k = qw_S n w k := qw_h_congr (fun i hi => by
    rw [qw_a_at, qk_one hi]
    cases hz : z i with
    | true => rw [cond_true, cond_true, BitVec.zero_xor, qd_d_all z d0 n hi hz]
    | false => rw [cond_false, cond_false, BitVec.xor_zero])
  rw [← h2, h1]
  rfl
/-- the system's changes -/
def qk_ch (n : Nat) (z : Nat → Bool) (d0 : Nat → Nat) (w : Nat → BitVec 8) (c : Nat) : BitVec 8 := qw_ch (fun c => qw_X n (qd_d z d0 n c)) (qw_S n w) qw_V0 (qd_c z n) c
/-- the reference's rows at the end -/
def qk_N (n : Nat) (z : Nat → Bool) (d0 : Nat → Nat) (w : Nat → BitVec 8) : Nat → Nat → BitVec 8 := qg_J (qg_M0 (fun c => qw_X n (qd_d z d0 n c)) (qk_R n z w) (qd_c z n)) (qd_c z n)
def qk_can (n : Nat) (z : Nat → Bool) (d0 : Nat → Nat) (w : Nat → BitVec 8) : Prop := ∀ k, qd_c z n ≤ k → k < 4 → qk_N n z d0 w k 4 = 0#8
theorem qk_apart {n : Nat} (hn : n ≤ 16) (z : Nat → Bool) (d0 : Nat → Nat) : ∀ i j, i < qd_c z n → j < qd_c z n → i ≠ j → qw_X n (qd_d z d0 n i) ^^^ qw_X n (qd_d z d0 n j) ≠ 0#8 := fun i j hi hj h =>
  qw_X_ne hn (qd_d_in z d0 n i hi).1 (qd_d_in z d0 n j hj).1 (qd_d_ne z d0 n hi hj h)
theorem qk_sum {z : Nat → Bool} {d0 : Nat → Nat} {n : Nat} (w : Nat → BitVec 8) (x : Nat → BitVec 8) (k : Nat) : qw_S n (qw_a w (qd_d z d0 n) x (qd_c z n)) k = qk_R n z w k ^^^ qw_s (fun c => qf_m (x c ^^^ w (qd_d z d0 n c)) (qf_p (qw_X n (qd_d z d0 n c)) k)) (qd_c z n) := by
  rw [qw_a_S (fun c hc => (qd_d_in z d0 n c hc).1), qk_rest (z := z) (d0 := d0), BitVec.xor_assoc, ← qw_s_x]
  congr 1
  exact qw_s_congr (fun c _ => by rw [qf_m_l, BitVec.xor_comm])
section QK
variable {n : Nat} {z : Nat → Bool} {d0 : Nat → Nat} {w : Nat → BitVec 8}
theorem qk_word (hn : n ≤ 16) (hm : qd_c z n ≤ 4) (x : Nat → BitVec 8) : qw_W n (qw_a w (qd_d z d0 n) x (qd_c z n)) ↔ ((∀ c, c < qd_c z n → x c ^^^ w (qd_d z d0 n c) = qk_N n z d0 w c 4) ∧ qk_can n z d0 w) := by
  rw [show ((∀ c, c < qd_c z n → x c ^^^ w (qd_d z d0 n c) = qk_N n z d0 w c 4) ∧ qk_can n z d0 w) ↔ _ from (qg_end hm (qk_apart hn z d0) (fun c => x c ^^^ w (qd_d z d0 n c))).symm]
  constructor
  · intro h k hk
    have h1 := h k hk
    rw [qk_sum] at h1
    exact (qf_xe h1).symm
  · intro h k hk
    rw [qk_sum, h k hk, BitVec.xor_self]
theorem qk_good (hn : n ≤ 16) (hm : qd_c z n ≤ 4) : qw_W n (qw_a w (qd_d z d0 n) (qk_ch n z d0 w) (qd_c z n)) ↔ qk_can n z d0 w := by
  constructor
  · intro h
    exact ((qk_word hn hm _).mp h).2
  · intro h
    have hw := (qk_word (w := w) hn hm (fun c => qk_N n z d0 w c 4 ^^^ w (qd_d z d0 n c))).mpr ⟨fun c _ => by rw [BitVec.xor_assoc, BitVec.xor_self, BitVec.xor_zero], h⟩
    have e : ∀ c, c < qd_c z n → qk_ch n z d0 w c = qk_N n z d0 w c 4 ^^^ w (qd_d z d0 n c) := fun c hc => by
      refine qw_ch_ok (Y := fun c => qw_X n (qd_d z d0 n c)) (x := fun c => qk_N n z d0 w c 4 ^^^ w (qd_d z d0 n c)) hc hm (qk_apart hn z d0) (fun k hk => ?_)
      have h1 := hw k hk
      rw [qw_a_S (fun c hc => (qd_d_in z d0 n c hc).1)] at h1
      exact qf_xe h1
    intro k hk
    rw [qw_a_S (fun c hc => (qd_d_in z d0 n c hc).1), qw_s_congr (fun c hc => by rw [e c hc]), ← qw_a_S (fun c hc => (qd_d_in z d0 n c hc).1)]
    exact hw k hk
theorem qk_same (hn : n ≤ 16) (hm : qd_c z n ≤ 4) (h : qk_can n z d0 w) {i : Nat} (hi : i < n) : qw_a w (qd_d z d0 n) (qk_ch n z d0 w) (qd_c z n) i = qk_p w (qd_d z d0 n) (fun c => qk_N n z d0 w c 4) (qd_c z n) i := by
  have h1 := ((qk_word hn hm _).mp ((qk_good hn hm).mpr h)).1
  rw [qw_a_at, qk_one hi]
  cases hz : z i with
  | true =>
    rw [cond_true]
    have hc := qd_c_lt z hi hz
    have e := qk_p_in (w := w) (d := qd_d z d0 n) (x := fun c => qk_N n z d0 w c 4) hc (fun a b ha hb hne => qd_d_ne z d0 n ha hb hne)
    have hd := qd_d_all z d0 n hi hz
    have h2 := h1 _ hc
    rw [hd] at e h2
    rw [e, ← h2, BitVec.xor_comm]
  | false =>
    rw [cond_false, BitVec.xor_zero, qk_p_out (fun c hc e => by have h := (qd_d_in z d0 n c hc).2.1; rw [e, hz] at h; exact absurd h (by decide))]
end QK
/-- mending: the sums that a fault at i alone leaves -/
def qk_F (w : Nat → BitVec 8) (i : Nat) : Prop := ∀ k, 0 < k → k < 4 → qf_m (qw_S 16 w 0) (qf_p (qw_X 16 i) k) = qw_S 16 w k
theorem qk_mend {w : Nat → BitVec 8} (hw : ¬ qw_W 16 w) {i : Nat} (hi : i < 16) : (qw_S 16 w 0 ≠ 0#8 ∧ qw_W 16 (va_up w i (w i ^^^ qw_S 16 w 0))) ↔ qk_F w i := by
  constructor
  · rintro ⟨-, h⟩ k h0 h4
    have h1 := h k h4
    rw [qw_S_up hi] at h1
    exact (qf_xe h1).symm
  · intro h
    refine ⟨fun e => hw (fun k hk => ?_), fun k hk => ?_⟩
    · by_cases k0 : k = 0
      · rw [k0]; exact e
      · rw [← h k (by omega) hk, e, qf_0l]
    · rw [qw_S_up hi]
      by_cases k0 : k = 0
      · rw [k0, qf_p, qf_1r, BitVec.xor_self]
      · rw [h k (by omega) hk, BitVec.xor_self]
theorem qk_undo (w : Nat → BitVec 8) (i : Nat) (d : BitVec 8) : va_up (va_up w i (w i ^^^ d)) i (va_up w i (w i ^^^ d) i ^^^ d) = w := by
  funext j
  by_cases h : j = i
  · rw [h, va_up_self, va_up_self, BitVec.xor_assoc, BitVec.xor_self, BitVec.xor_zero]
  · rw [va_up_ne _ _ h, va_up_ne _ _ h]
