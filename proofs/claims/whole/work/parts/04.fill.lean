/-! the doubted places of a row: how many, and where -/
def qd_c (z : Nat → Bool) : Nat → Nat
  | 0 => 0
  | i + 1 => bif z i then qd_c z i + 1 else qd_c z i
def qd_d (z : Nat → Bool) (d0 : Nat → Nat) : Nat → (Nat → Nat)
  | 0 => d0
  | i + 1 => bif z i then va_up (qd_d z d0 i) (qd_c z i) i else qd_d z d0 i
theorem qd_c_le (z : Nat → Bool) (i : Nat) : qd_c z i ≤ i := by
  induction i with
  | zero => exact Nat.le_refl 0
  | succ i ih => rw [qd_c]; cases z i <;> simp <;> omega
theorem qd_c_mono (z : Nat → Bool) {i j : Nat} (h : i ≤ j) : qd_c z i ≤ qd_c z j := by
  induction j with
  | zero => have : i = 0 := by omega
            subst this; exact Nat.le_refl _
  | succ j ih =>
    by_cases e : i = j + 1
    · subst e; exact Nat.le_refl _
    · have := ih (by omega)
      rw [qd_c]
      cases z j <;> simp <;> omega
theorem qd_c_lt (z : Nat → Bool) {i n : Nat} (h : i < n) (hz : z i = true) : qd_c z i < qd_c z n := by
  have h1 := qd_c_mono z (i := i + 1) (j := n) h
  rw [qd_c, hz, cond_true] at h1
  omega
/-- place c: below n, doubted, the c-th -/
theorem qd_d_in (z : Nat → Bool) (d0 : Nat → Nat) (n : Nat) : ∀ c, c < qd_c z n → qd_d z d0 n c < n ∧ z (qd_d z d0 n c) = true ∧ qd_c z (qd_d z d0 n c) = c := by
  induction n with
  | zero => intro c h; exact absurd h (Nat.not_lt_zero c)
  | succ n ih =>
    intro c h
    rw [qd_c] at h
    rw [qd_d]
    cases hz : z n with
    | false =>
      rw [hz, cond_false] at h
      rw [cond_false]
      obtain ⟨h1, h2, h3⟩ := ih c h
      exact ⟨by omega, h2, h3⟩
    | true =>
      rw [hz, cond_true] at h
      rw [cond_true]
      by_cases e : c = qd_c z n
      · rw [e, va_up_self]
        exact ⟨by omega, hz, rfl⟩
      · rw [va_up_ne _ _ e]
        obtain ⟨h1, h2, h3⟩ := ih c (by omega)
        exact ⟨by omega, h2, h3⟩
theorem qd_d_ne (z : Nat → Bool) (d0 : Nat → Nat) (n : Nat) {a b : Nat} (ha : a < qd_c z n) (hb : b < qd_c z n) (h : a ≠ b) : qd_d z d0 n a ≠ qd_d z d0 n b := fun e => h (by
  have h1 := (qd_d_in z d0 n a ha).2.2
  have h2 := (qd_d_in z d0 n b hb).2.2
  rw [← h1, ← h2, e])
theorem qd_d_all (z : Nat → Bool) (d0 : Nat → Nat) (n : Nat) {i : Nat} (hi : i < n) (hz : z i = true) : qd_d z d0 n (qd_c z i) = i := by
  induction n with
  | zero => omega
  | succ n ih =>
    rw [qd_d]
    by_cases e : i = n
    · subst e
      rw [hz, cond_true, va_up_self]
    · have hl := qd_c_lt z (i := i) (n := n) (by omega) hz
      cases z n
      · rw [cond_false]; exact ih (by omega)
      · rw [cond_true, va_up_ne _ _ (by omega)]; exact ih (by omega)
/-- what was laid ahead of the places doesn't matter -/
theorem qd_d_any (z : Nat → Bool) (d0 d1 : Nat → Nat) (n : Nat) {c : Nat} (hc : c < qd_c z n) : qd_d z d0 n c = qd_d z d1 n c := by
  obtain ⟨h1, h2, h3⟩ := qd_d_in z d0 n c hc
  have h4 := qd_d_all z d1 n h1 h2
  rw [h3] at h4
  exact h4.symm
/-! the reference's rows: 4 of 5; their kernel stays under swaps, scalings and subtractions -/
def qg_L (M : Nat → Nat → BitVec 8) (x : Nat → BitVec 8) (r : Nat) : BitVec 8 := qw_s (fun c => qf_m (M r c) (x c)) 5
def qg_K (M : Nat → Nat → BitVec 8) (x : Nat → BitVec 8) : Prop := ∀ r, r < 4 → qg_L M x r = 0#8
def qg_up (M : Nat → Nat → BitVec 8) (r c : Nat) (v : BitVec 8) : Nat → Nat → BitVec 8 := fun a b => if a = r ∧ b = c then v else M a b
theorem qg_up_s (M : Nat → Nat → BitVec 8) (r c : Nat) (v : BitVec 8) : qg_up M r c v r c = v := if_pos ⟨rfl, rfl⟩
theorem qg_up_n (M : Nat → Nat → BitVec 8) {r c a b : Nat} (v : BitVec 8) (h : a ≠ r ∨ b ≠ c) : qg_up M r c v a b = M a b := if_neg (fun q => h.elim (fun h => h q.1) (fun h => h q.2))
def qg_sw (M : Nat → Nat → BitVec 8) (r q : Nat) : Nat → (Nat → Nat → BitVec 8)
  | 0 => M
  | i + 1 => qg_up (qg_up (qg_sw M r q i) r i (qg_sw M r q i q i)) q i (qg_sw M r q i r i)
theorem qg_sw_at (M : Nat → Nat → BitVec 8) (r q i a b : Nat) : qg_sw M r q i a b = if b < i then (if a = q then M r b else if a = r then M q b else M a b) else M a b := by
  induction i generalizing a b with
  | zero => rw [if_neg (by omega)]; rfl
  | succ i ih =>
    rw [qg_sw]
    have hr : ∀ a, qg_sw M r q i a i = M a i := fun a => by rw [ih, if_neg (by omega)]
    by_cases hb : b = i
    · subst hb
      rw [if_pos (by omega), hr, hr]
      unfold qg_up
      by_cases h1 : a = q
      · rw [if_pos ⟨h1, rfl⟩, if_pos h1]
      · rw [if_neg (fun h => h1 h.1), if_neg h1]
        by_cases h2 : a = r
        · rw [if_pos ⟨h2, rfl⟩, if_pos h2]
        · rw [if_neg (fun h => h2 h.1), if_neg h2, hr]
    · rw [qg_up_n _ _ (Or.inr hb), qg_up_n _ _ (Or.inr hb), ih]
      by_cases h : b < i
      · rw [if_pos h, if_pos (show b < i + 1 by omega)]
      · rw [if_neg h, if_neg (show ¬ b < i + 1 by omega)]
def qg_sc (M : Nat → Nat → BitVec 8) (c : Nat) (v : BitVec 8) : Nat → (Nat → Nat → BitVec 8)
  | 0 => M
  | k + 1 => qg_up (qg_sc M c v k) c k (qf_m (qg_sc M c v k c k) v)
theorem qg_sc_at (M : Nat → Nat → BitVec 8) (c : Nat) (v : BitVec 8) (k a b : Nat) : qg_sc M c v k a b = if a = c ∧ b < k then qf_m (M a b) v else M a b := by
  induction k generalizing a b with
  | zero => rw [if_neg (by omega)]; rfl
  | succ k ih =>
    rw [qg_sc]
    by_cases h : a = c ∧ b = k
    · obtain ⟨rfl, rfl⟩ := h
      rw [qg_up_s, ih, if_neg (by omega), if_pos (by omega)]
    · rw [qg_up_n _ _ (by omega), ih]
      by_cases h2 : a = c ∧ b < k
      · rw [if_pos h2, if_pos (by omega)]
      · rw [if_neg h2, if_neg (by omega)]
def qg_el (M : Nat → Nat → BitVec 8) (c q : Nat) (f : BitVec 8) : Nat → (Nat → Nat → BitVec 8)
  | 0 => M
  | k + 1 => qg_up (qg_el M c q f k) q k (qg_el M c q f k q k ^^^ qf_m f (qg_el M c q f k c k))
theorem qg_el_at {M : Nat → Nat → BitVec 8} {c q : Nat} (hq : q ≠ c) (f : BitVec 8) (k a b : Nat) : qg_el M c q f k a b = if a = q ∧ b < k then M a b ^^^ qf_m f (M c b) else M a b := by
  induction k generalizing a b with
  | zero => rw [if_neg (by omega)]; rfl
  | succ k ih =>
    rw [qg_el]
    by_cases h : a = q ∧ b = k
    · obtain ⟨rfl, rfl⟩ := h
      rw [qg_up_s, ih, if_neg (by omega), ih, if_neg (by omega), if_pos (by omega)]
    · rw [qg_up_n _ _ (by omega), ih]
      by_cases h2 : a = q ∧ b < k
      · rw [if_pos h2, if_pos (by omega)]
      · rw [if_neg h2, if_neg (by omega)]
/-- all rows but c cleared, up to row q -/
def qg_cl (M : Nat → Nat → BitVec 8) (c : Nat) : Nat → (Nat → Nat → BitVec 8)
  | 0 => M
  | q + 1 => if q = c then qg_cl M c q else qg_el (qg_cl M c q) c q (qg_cl M c q q c) 5
theorem qg_cl_at (M : Nat → Nat → BitVec 8) {c : Nat} (hc : c < 5) (q a b : Nat) (hb : b < 5) : qg_cl M c q a b = if a < q ∧ a ≠ c then M a b ^^^ qf_m (M a c) (M c b) else M a b := by
  induction q generalizing a b with
  | zero => rw [if_neg (by omega)]; rfl
  | succ q ih =>
    rw [qg_cl]
    by_cases e : q = c
    · rw [if_pos e, ih _ _ hb]
      by_cases h : a < q ∧ a ≠ c
      · rw [if_pos h, if_pos (by omega)]
      · rw [if_neg h, if_neg (by omega)]
    · rw [if_neg e, qg_el_at e]
      by_cases h : a = q
      · subst h
        rw [if_pos ⟨rfl, hb⟩, ih _ _ hb, if_neg (by omega), ih _ _ hc, if_neg (by omega), ih _ _ hb, if_neg (by omega), if_pos (by omega)]
      · rw [if_neg (by omega), ih _ _ hb]
        by_cases h2 : a < q ∧ a ≠ c
        · rw [if_pos h2, if_pos (by omega)]
        · rw [if_neg h2, if_neg (by omega)]
/-- the row with a pivot for column c, from r on -/
def qg_pr (M : Nat → Nat → BitVec 8) (c : Nat) : Nat → Nat → Nat
  | 0, r => r
  | n + 1, r => if M r c = 0#8 then qg_pr M c n (r + 1) else r
theorem qg_pr_in (M : Nat → Nat → BitVec 8) (c n r : Nat) : r ≤ qg_pr M c n r ∧ qg_pr M c n r ≤ r + n ∧ ∀ a, r ≤ a → a < qg_pr M c n r → M a c = 0#8 := by
  induction n generalizing r with
  | zero => exact ⟨Nat.le_refl r, Nat.le_refl r, fun a h1 h2 => absurd h2 (by rw [qg_pr]; omega)⟩
  | succ n ih =>
    rw [qg_pr]
    by_cases h : M r c = 0#8
    · rw [if_pos h]
      obtain ⟨h1, h2, h3⟩ := ih (r + 1)
      refine ⟨by omega, by omega, fun a a1 a2 => ?_⟩
      by_cases e : a = r
      · rw [e]; exact h
      · exact h3 a (by omega) a2
    · rw [if_neg h]
      exact ⟨Nat.le_refl r, by omega, fun a h1 h2 => absurd h2 (by omega)⟩
theorem qg_pr_nz {M : Nat → Nat → BitVec 8} {c n r : Nat} (h : ∃ a, r ≤ a ∧ a ≤ r + n ∧ M a c ≠ 0#8) : M (qg_pr M c n r) c ≠ 0#8 := by
  induction n generalizing r with
  | zero =>
    obtain ⟨a, h1, h2, h3⟩ := h
    have : a = r := by omega
    subst this
    exact h3
  | succ n ih =>
    rw [qg_pr]
    by_cases e : M r c = 0#8
    · rw [if_pos e]
      obtain ⟨a, h1, h2, h3⟩ := h
      refine ih ⟨a, ?_, by omega, h3⟩
      rcases Nat.lt_or_ge r a with h4 | h4
      · exact h4
      · exact absurd e (by have : a = r := by omega
                           rw [← this]; exact h3)
    · rw [if_neg e]; exact e
def qg_clear (M : Nat → Nat → BitVec 8) (c : Nat) : Nat → Nat → BitVec 8 :=
  qg_cl (qg_sc (qg_sw M (qg_pr M c (3 - c) c) c 5) c (qf_i (qg_sw M (qg_pr M c (3 - c) c) c 5 c c)) 5) c 4
section QG
variable {M : Nat → Nat → BitVec 8} {c : Nat}
theorem qg_L_sw (r : Nat) (x : Nat → BitVec 8) (a : Nat) : qg_L (qg_sw M r c 5) x a = if a = c then qg_L M x r else if a = r then qg_L M x c else qg_L M x a := by
  have h : ∀ b, b < 5 → qg_sw M r c 5 a b = if a = c then M r b else if a = r then M c b else M a b := fun b hb => by rw [qg_sw_at, if_pos hb]
  unfold qg_L
  rw [qw_s_congr (fun b hb => by rw [h b hb])]
  by_cases h1 : a = c
  · rw [if_pos h1]
    exact qw_s_congr (fun b _ => by rw [if_pos h1])
  · rw [if_neg h1]
    by_cases h2 : a = r
    · rw [if_pos h2]
      exact qw_s_congr (fun b _ => by rw [if_neg h1, if_pos h2])
    · rw [if_neg h2]
      exact qw_s_congr (fun b _ => by rw [if_neg h1, if_neg h2])
theorem qg_L_sc (v : BitVec 8) (x : Nat → BitVec 8) (a : Nat) : qg_L (qg_sc M c v 5) x a = if a = c then qf_m (qg_L M x a) v else qg_L M x a := by
  unfold qg_L
  by_cases h1 : a = c
  · rw [if_pos h1, qf_comm _ v, qw_s_m]
    refine qw_s_congr (fun b hb => ?_)
    rw [qg_sc_at, if_pos ⟨h1, hb⟩, qf_comm _ v, qf_assoc]
  · rw [if_neg h1]
    refine qw_s_congr (fun b hb => ?_)
    rw [qg_sc_at, if_neg (fun h => h1 h.1)]
theorem qg_L_cl (hc : c < 5) (x : Nat → BitVec 8) (a : Nat) : qg_L (qg_cl M c 4) x a = if a < 4 ∧ a ≠ c then qg_L M x a ^^^ qf_m (M a c) (qg_L M x c) else qg_L M x a := by
  unfold qg_L
  by_cases h1 : a < 4 ∧ a ≠ c
  · rw [if_pos h1, qw_s_m, ← qw_s_x]
    refine qw_s_congr (fun b hb => ?_)
    rw [qg_cl_at M hc _ _ _ hb, if_pos h1, qf_m_l, qf_assoc]
  · rw [if_neg h1]
    refine qw_s_congr (fun b hb => ?_)
    rw [qg_cl_at M hc _ _ _ hb, if_neg h1]
theorem qg_clear_K (hc : c < 4) (hp : M (qg_pr M c (3 - c) c) c ≠ 0#8) (x : Nat → BitVec 8) : qg_K (qg_clear M c) x ↔ qg_K M x := by
  obtain ⟨hr1, hr2, -⟩ := qg_pr_in M c (3 - c) c
  unfold qg_clear
  generalize qg_pr M c (3 - c) c = r at hp hr1 hr2 ⊢
  have e1 : qg_sw M r c 5 c c = M r c := by rw [qg_sw_at, if_pos (by omega), if_pos rfl]
  rw [e1]
  have hv : qf_i (M r c) ≠ 0#8 := fun h => by
    have h1 := qf_i_r hp
    rw [h, qf_0l] at h1
    exact absurd h1 (by decide)
  generalize qf_i (M r c) = v at hv ⊢
  have k1 : qg_K (qg_sw M r c 5) x ↔ qg_K M x := by
    constructor
    · intro h a ha
      by_cases h1 : a = c
      · by_cases h2 : r = c
        · have h3 := h c (by omega)
          rw [qg_L_sw, if_pos rfl, h2] at h3
          rw [h1]; exact h3
        · have h3 := h r (by omega)
          rw [qg_L_sw, if_neg h2, if_pos rfl] at h3
          rw [h1]; exact h3
      · by_cases h2 : a = r
        · have h3 := h c (by omega)
          rw [qg_L_sw, if_pos rfl] at h3
          rw [h2]; exact h3
        · have h3 := h a ha
          rw [qg_L_sw, if_neg h1, if_neg h2] at h3
          exact h3
    · intro h a ha
      rw [qg_L_sw]
      by_cases h1 : a = c
      · rw [if_pos h1]; exact h r (by omega)
      · rw [if_neg h1]
        by_cases h2 : a = r
        · rw [if_pos h2]; exact h c (by omega)
        · rw [if_neg h2]; exact h a ha
  rw [← k1]
  generalize qg_sw M r c 5 = N
  have k2 : qg_K (qg_sc N c v 5) x ↔ qg_K N x := by
    constructor
    · intro h a ha
      have h3 := h a ha
      rw [qg_L_sc] at h3
      by_cases h1 : a = c
      · rw [if_pos h1, qf_comm] at h3
        exact qf_nz h3 hv
      · rw [if_neg h1] at h3; exact h3
    · intro h a ha
      rw [qg_L_sc, h a ha, qf_0l]
      split <;> rfl
  rw [← k2]
  generalize qg_sc N c v 5 = N2
  constructor
  · intro h
    have hc0 : qg_L N2 x c = 0#8 := by
      have h3 := h c hc
      rw [qg_L_cl (by omega), if_neg (by omega)] at h3
      exact h3
    intro a ha
    have h3 := h a ha
    rw [qg_L_cl (by omega), hc0, qf_0r, BitVec.xor_zero] at h3
    by_cases h1 : a < 4 ∧ a ≠ c
    · rw [if_pos h1] at h3; exact h3
    · rw [if_neg h1] at h3; exact h3
  · intro h a ha
    rw [qg_L_cl (by omega), h a ha, h c hc, qf_0r, BitVec.xor_zero]
    split <;> rfl
/-- column c is cleared, the columns ahead of it and the empty ones stay -/
theorem qg_clear_c (hc : c < 4) (hp : M (qg_pr M c (3 - c) c) c ≠ 0#8) {a : Nat} (ha : a < 4) : qg_clear M c a c = if a = c then 1#8 else 0#8 := by
  unfold qg_clear
  have e1 : qg_sw M (qg_pr M c (3 - c) c) c 5 c c = M (qg_pr M c (3 - c) c) c := by rw [qg_sw_at, if_pos (by omega), if_pos rfl]
  have e2 : qg_sc (qg_sw M (qg_pr M c (3 - c) c) c 5) c (qf_i (qg_sw M (qg_pr M c (3 - c) c) c 5 c c)) 5 c c = 1#8 := by
    rw [qg_sc_at, if_pos ⟨rfl, by omega⟩, e1, qf_i_l hp]
  rw [qg_cl_at _ (by omega) _ _ _ (by omega)]
  by_cases h : a = c
  · rw [if_neg (by omega), if_pos h, h, e2]
  · rw [if_pos ⟨ha, h⟩, if_neg h, e2, qf_1r, BitVec.xor_self]
theorem qg_clear_j (hc : c < 4) {j : Nat} (hj : j < 5) (hz : ∀ a, c ≤ a → a < 4 → M a j = 0#8) {a : Nat} (ha : a < 4) : qg_clear M c a j = M a j := by
  obtain ⟨hr1, hr2, -⟩ := qg_pr_in M c (3 - c) c
  unfold qg_clear
  generalize qg_pr M c (3 - c) c = r at hr1 hr2 ⊢
  generalize qf_i (qg_sw M r c 5 c c) = v
  have s1 : ∀ a, a < 4 → qg_sw M r c 5 a j = M a j := by
    intro a ha
    rw [qg_sw_at, if_pos hj]
    by_cases h1 : a = c
    · rw [if_pos h1, hz r hr1 (by omega), h1, hz c (Nat.le_refl c) hc]
    · rw [if_neg h1]
      by_cases h2 : a = r
      · rw [if_pos h2, hz c (Nat.le_refl c) hc, h2, hz r hr1 (by omega)]
      · rw [if_neg h2]
  have s2 : ∀ a, a < 4 → qg_sc (qg_sw M r c 5) c v 5 a j = M a j := by
    intro a ha
    rw [qg_sc_at, s1 a ha]
    by_cases h1 : a = c ∧ j < 5
    · rw [if_pos h1, h1.1, hz c (Nat.le_refl c) hc, qf_0l]
    · rw [if_neg h1]
  rw [qg_cl_at _ (by omega) _ _ _ hj, s2 a ha, s2 c hc, hz c (Nat.le_refl c) hc, qf_0r, BitVec.xor_zero]
  split <;> rfl
end QG
/-- columns 0 .. c - 1 cleared -/
def qg_J (M : Nat → Nat → BitVec 8) : Nat → (Nat → Nat → BitVec 8)
  | 0 => M
  | c + 1 => qg_clear (qg_J M c) c
theorem qw_s_trunc {f : Nat → BitVec 8} {m n : Nat} (hm : m ≤ n) (h : ∀ c, m ≤ c → c < n → f c = 0#8) : qw_s f n = qw_s f m := by
  induction n with
  | zero => have : m = 0 := by omega
            rw [this]
  | succ n ih =>
    by_cases e : m = n + 1
    · rw [e]
    · rw [qw_s, h n (by omega) (by omega), BitVec.xor_zero, ih (by omega) (fun c h1 h2 => h c h1 (by omega))]
/-- the reference's first rows: locators' powers, and what is left -/
def qg_M0 (Y R : Nat → BitVec 8) (m : Nat) : Nat → Nat → BitVec 8 := fun k c => if c < 4 then (if c < m then qf_p (Y c) k else 0#8) else R k
theorem qg_M0_L {Y R : Nat → BitVec 8} {m : Nat} (hm : m ≤ 4) (x : Nat → BitVec 8) (k : Nat) : qg_L (qg_M0 Y R m) x k = qw_s (fun c => qf_m (x c) (qf_p (Y c) k)) m ^^^ qf_m (R k) (x 4) := by
  unfold qg_L
  rw [show (5 : Nat) = 4 + 1 from rfl, qw_s, qw_s_trunc (m := m) hm (fun c h1 h2 => by
    show qf_m (qg_M0 Y R m k c) (x c) = 0#8
    unfold qg_M0
    rw [if_pos h2, if_neg (by omega), qf_0l])]
  congr 1
  refine qw_s_congr (fun c hc => ?_)
  show qf_m (qg_M0 Y R m k c) (x c) = _
  unfold qg_M0
  rw [if_pos (by omega), if_pos hc, qf_comm]
theorem qg_inv {Y R : Nat → BitVec 8} {m : Nat} (hm : m ≤ 4) (hY : ∀ i j, i < m → j < m → i ≠ j → Y i ^^^ Y j ≠ 0#8) (c : Nat) (hc : c ≤ m) :
    (∀ x, qg_K (qg_J (qg_M0 Y R m) c) x ↔ qg_K (qg_M0 Y R m) x) ∧ (∀ j, j < c → ∀ a, a < 4 → qg_J (qg_M0 Y R m) c a j = if a = j then 1#8 else 0#8) ∧ (∀ j, m ≤ j → j < 4 → ∀ a, a < 4 → qg_J (qg_M0 Y R m) c a j = 0#8) := by
  induction c with
  | zero =>
    refine ⟨fun x => Iff.rfl, fun j h => absurd h (Nat.not_lt_zero j), fun j h1 h2 a _ => ?_⟩
    show qg_M0 Y R m a j = 0#8
    unfold qg_M0
    rw [if_pos h2, if_neg (by omega)]
  | succ c ih =>
    obtain ⟨i1, i2, i3⟩ := ih (by omega)
    rw [qg_J]
    generalize hN : qg_J (qg_M0 Y R m) c = N at i1 i2 i3 ⊢
    have hex : ∃ a, c ≤ a ∧ a ≤ c + (3 - c) ∧ N a c ≠ 0#8 := by
      apply Classical.byContradiction
      intro hno
      have hz : ∀ a, c ≤ a → a < 4 → N a c = 0#8 := fun a h1 h2 => Classical.byContradiction (fun h3 => hno ⟨a, h1, by omega, h3⟩)
      -- a vector of the kernel with 1 at c
      have hK : qg_K N (fun j => if j < c then N j c else if j = c then 1#8 else 0#8) := by
        intro a ha
        unfold qg_L
        rw [qw_s_trunc (m := c + 1) (by omega) (fun b h1 h2 => by
          show qf_m _ (if b < c then N b c else if b = c then 1#8 else 0#8) = 0#8
          rw [if_neg (by omega), if_neg (by omega), qf_0r]), qw_s]
        show qw_s (fun b => qf_m (N a b) (if b < c then N b c else if b = c then 1#8 else 0#8)) c ^^^ qf_m (N a c) (if c < c then N c c else if c = c then 1#8 else 0#8) = 0#8
        rw [if_neg (Nat.lt_irrefl c), if_pos rfl, qf_1r]
        have h1 : qw_s (fun b => qf_m (N a b) (if b < c then N b c else if b = c then 1#8 else 0#8)) c = if a < c then N a c else 0#8 := by
          by_cases h2 : a < c
          · rw [if_pos h2, qw_s_one (m := a) h2 (fun b hb hne => by
              show qf_m (N a b) _ = 0#8
              rw [i2 b hb a ha, if_neg (fun e => hne e.symm), qf_0l]), i2 a h2 a ha, if_pos rfl, if_pos h2, qf_1l]
          · rw [if_neg h2]
            exact qw_s_zero (fun b hb => by
              show qf_m (N a b) _ = 0#8
              rw [i2 b hb a ha, if_neg (by omega), qf_0l])
        rw [h1]
        by_cases h2 : a < c
        · rw [if_pos h2, BitVec.xor_self]
        · rw [if_neg h2, hz a (by omega) ha, BitVec.xor_zero]
      have hK0 := (i1 _).mp hK
      have h0 := qw_van (Y := Y) (x := fun j => if j < c then N j c else if j = c then 1#8 else 0#8) hm hY (fun k hk => by
        have h := hK0 k hk
        rw [qg_M0_L hm] at h
        have e4 : (if 4 < c then N 4 c else if 4 = c then 1#8 else 0#8) = 0#8 := by rw [if_neg (by omega), if_neg (by omega)]
        rw [e4, qf_0r, BitVec.xor_zero] at h
        exact h) c (by omega)
      have h9 : (if c < c then N c c else if c = c then 1#8 else 0#8) = 0#8 := h0
      rw [if_neg (Nat.lt_irrefl c), if_pos rfl] at h9
      exact absurd h9 (by decide)
    have hp := qg_pr_nz hex
    refine ⟨fun x => (qg_clear_K (by omega) hp x).trans (i1 x), fun j hj a ha => ?_, fun j h1 h2 a ha => ?_⟩
    · by_cases e : j = c
      · rw [e]
        exact qg_clear_c (by omega) hp ha
      · rw [qg_clear_j (by omega) (by omega) (fun b h1 h2 => by rw [i2 j (by omega) b h2, if_neg (by omega)]) ha]
        exact i2 j (by omega) a ha
    · rw [qg_clear_j (by omega) (by omega) (fun b _ h4 => i3 j h1 h2 b h4) ha]
      exact i3 j h1 h2 a ha
/-- at the end: the last column holds the one solution, if there is one -/
theorem qg_end {Y R : Nat → BitVec 8} {m : Nat} (hm : m ≤ 4) (hY : ∀ i j, i < m → j < m → i ≠ j → Y i ^^^ Y j ≠ 0#8) (x : Nat → BitVec 8) :
    (∀ k, k < 4 → qw_s (fun c => qf_m (x c) (qf_p (Y c) k)) m = R k) ↔ ((∀ c, c < m → x c = qg_J (qg_M0 Y R m) m c 4) ∧ ∀ k, m ≤ k → k < 4 → qg_J (qg_M0 Y R m) m k 4 = 0#8) := by
  obtain ⟨i1, i2, i3⟩ := qg_inv (R := R) hm hY m (Nat.le_refl m)
  let y : Nat → BitVec 8 := fun c => if c < 4 then x c else 1#8
  have y4 : y 4 = 1#8 := if_neg (by omega)
  have yc : ∀ c, c < 4 → y c = x c := fun c h => if_pos h
  have a1 : qg_K (qg_M0 Y R m) y ↔ ∀ k, k < 4 → qw_s (fun c => qf_m (x c) (qf_p (Y c) k)) m = R k := by
    have e : ∀ k, qg_L (qg_M0 Y R m) y k = qw_s (fun c => qf_m (x c) (qf_p (Y c) k)) m ^^^ R k := fun k => by
      rw [qg_M0_L hm, y4, qf_1r]
      congr 1
      exact qw_s_congr (fun c hc => by rw [yc c (by omega)])
    constructor
    · intro h k hk
      have h1 := h k hk
      rw [e] at h1
      exact qf_xe h1
    · intro h k hk
      rw [e, h k hk, BitVec.xor_self]
  rw [← a1, ← i1 y]
  generalize qg_J (qg_M0 Y R m) m = N at i2 i3 ⊢
  have e : ∀ a, a < 4 → qg_L N y a = (if a < m then x a else 0#8) ^^^ N a 4 := by
    intro a ha
    unfold qg_L
    rw [show (5 : Nat) = 4 + 1 from rfl, qw_s, y4, qf_1r]
    congr 1
    by_cases h : a < m
    · rw [if_pos h, qw_s_one (m := a) ha (fun b hb hne => by
        show qf_m (N a b) (y b) = 0#8
        by_cases hbm : b < m
        · rw [i2 b hbm a ha, if_neg (fun e => hne e.symm), qf_0l]
        · rw [i3 b (by omega) hb a ha, qf_0l]), i2 a h a ha, if_pos rfl, qf_1l, yc a ha]
    · rw [if_neg h]
      exact qw_s_zero (fun b hb => by
        show qf_m (N a b) (y b) = 0#8
        by_cases hbm : b < m
        · rw [i2 b hbm a ha, if_neg (by omega), qf_0l]
        · rw [i3 b (by omega) hb a ha, qf_0l])
  constructor
  · intro h
    refine ⟨fun c hc => ?_, fun k h1 h2 => ?_⟩
    · have h3 := h c (by omega)
      rw [e c (by omega), if_pos hc] at h3
      exact qf_xe h3
    · have h3 := h k h2
      rw [e k h2, if_neg (by omega), BitVec.zero_xor] at h3
      exact h3
  · rintro ⟨h1, h2⟩ a ha
    rw [e a ha]
    by_cases h : a < m
    · rw [if_pos h, h1 a h, BitVec.xor_self]
    · rw [if_neg h, h2 a (by omega) ha, BitVec.xor_zero]
