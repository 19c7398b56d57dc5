section
/-! ===== BEGIN words of one list among another's, by their places ===== -/
theorem goodIn_r {big : List Cond} (ws : List Cond) (ps : List Nat) (hp : ws = ps.filterMap (fun i => big[i]?)) (h : ws.all goodWord = true) : GoodIn big ws := by
  intro w hw
  have h1 := List.all_eq_true.mp h w hw
  rw [hp] at hw
  obtain ⟨i, -, hi⟩ := List.mem_filterMap.mp hw
  have hm : w ∈ big := by first | exact List.mem_of_getElem? hi | exact List.getElem?_mem hi
  exact ⟨hm, good_of_word h1⟩
theorem goodIn_app {big a b : List Cond} (ha : GoodIn big a) (hb : GoodIn big b) : GoodIn big (a ++ b) := fun w h => (List.mem_append.mp h).elim (ha w) (hb w)
theorem goodIn_ca {big a b : List Cond} {c : Cond} (ha : GoodIn big (c :: a)) (hb : GoodIn big b) : GoodIn big (c :: (a ++ b)) := fun w h => (List.mem_cons.mp h).elim (fun e => ha w (List.mem_cons.mpr (Or.inl e))) (fun h => (List.mem_append.mp h).elim (fun h => ha w (List.mem_cons.mpr (Or.inr h))) (hb w))
theorem goodIn_sub {big ws : List Cond} (hm : ∀ w ∈ ws, w ∈ big) (h : ws.all goodWord = true) : GoodIn big ws := fun w hw => ⟨hm w hw, good_of_word (List.all_eq_true.mp h w hw)⟩
/-! ===== END ===== -/
end
section
/-! symbols as a field: carried by BitVec 8; sums by xor, products qf_m -/
theorem qf_all {P : BitVec 8 → Prop} (h : ∀ n, n < 256 → P (BitVec.ofNat 8 n)) (a : BitVec 8) : P a := by
  have h1 := h a.toNat a.isLt
  rwa [BitVec.ofNat_toNat, BitVec.setWidth_eq] at h1
def qf_x (a : BitVec 8) : BitVec 8 := (a <<< 1) ^^^ (bif a.getLsbD 7 then 29#8 else 0#8)
def qf_s (a : BitVec 8) : Nat → BitVec 8
  | 0 => a
  | k + 1 => qf_x (qf_s a k)
def qf_u (a b : BitVec 8) : Nat → BitVec 8
  | 0 => 0#8
  | k + 1 => qf_u a b k ^^^ (bif b.getLsbD k then qf_s a k else 0#8)
def qf_m (a b : BitVec 8) : BitVec 8 := qf_u a b 8
theorem qf_x4 (p q r s : BitVec 8) : (p ^^^ q) ^^^ (r ^^^ s) = (p ^^^ r) ^^^ (q ^^^ s) := by
  rw [BitVec.xor_assoc, BitVec.xor_assoc p r, ← BitVec.xor_assoc q r s, BitVec.xor_comm q r, BitVec.xor_assoc r q s]
theorem qf_xs (p q : BitVec 8) : p ^^^ (p ^^^ q) = q := by rw [← BitVec.xor_assoc, BitVec.xor_self, BitVec.zero_xor]
theorem qf_xe {p q : BitVec 8} (h : p ^^^ q = 0#8) : p = q := by
  have h1 := qf_xs p q
  rw [h, BitVec.xor_zero] at h1
  exact h1
theorem qf_bif (x y : Bool) (t : BitVec 8) : (bif (x ^^ y) then t else 0#8) = (bif x then t else 0#8) ^^^ (bif y then t else 0#8) := by
  cases x <;> cases y <;> simp
theorem qf_u_r (a b c : BitVec 8) (k : Nat) : qf_u a (b ^^^ c) k = qf_u a b k ^^^ qf_u a c k := by
  induction k with
  | zero => simp [qf_u]
  | succ k ih =>
    rw [qf_u, qf_u, qf_u, ih, BitVec.getLsbD_xor, qf_bif, qf_x4]
theorem qf_x_l (a b : BitVec 8) : qf_x (a ^^^ b) = qf_x a ^^^ qf_x b := by
  unfold qf_x
  rw [BitVec.getLsbD_xor, qf_bif, BitVec.shiftLeft_xor_distrib, qf_x4]
theorem qf_s_l (a b : BitVec 8) (k : Nat) : qf_s (a ^^^ b) k = qf_s a k ^^^ qf_s b k := by
  induction k with
  | zero => rfl
  | succ k ih => rw [qf_s, qf_s, qf_s, ih, qf_x_l]
theorem qf_u_l (a b c : BitVec 8) (k : Nat) : qf_u (a ^^^ b) c k = qf_u a c k ^^^ qf_u b c k := by
  induction k with
  | zero => simp [qf_u]
  | succ k ih =>
    rw [qf_u, qf_u, qf_u, ih, qf_s_l]
    cases c.getLsbD k
    · simp
    · simp only [cond_true]
      rw [qf_x4]
theorem qf_m_l (a b c : BitVec 8) : qf_m (a ^^^ b) c = qf_m a c ^^^ qf_m b c := qf_u_l a b c 8
theorem qf_m_r (a b c : BitVec 8) : qf_m a (b ^^^ c) = qf_m a b ^^^ qf_m a c := qf_u_r a b c 8
theorem qf_basis (a : BitVec 8) : a = (bif a.getLsbD 0 then 1#8 else 0#8) ^^^ ((bif a.getLsbD 1 then 2#8 else 0#8) ^^^ ((bif a.getLsbD 2 then 4#8 else 0#8) ^^^ ((bif a.getLsbD 3 then 8#8 else 0#8) ^^^ ((bif a.getLsbD 4 then 16#8 else 0#8) ^^^ ((bif a.getLsbD 5 then 32#8 else 0#8) ^^^ ((bif a.getLsbD 6 then 64#8 else 0#8) ^^^ (bif a.getLsbD 7 then 128#8 else 0#8))))))) := by
  refine qf_all (P := fun a => a = (bif a.getLsbD 0 then 1#8 else 0#8) ^^^ ((bif a.getLsbD 1 then 2#8 else 0#8) ^^^ ((bif a.getLsbD 2 then 4#8 else 0#8) ^^^ ((bif a.getLsbD 3 then 8#8 else 0#8) ^^^ ((bif a.getLsbD 4 then 16#8 else 0#8) ^^^ ((bif a.getLsbD 5 then 32#8 else 0#8) ^^^ ((bif a.getLsbD 6 then 64#8 else 0#8) ^^^ (bif a.getLsbD 7 then 128#8 else 0#8)))))))) ?_ a
  decide +kernel
theorem qf_add0 {f : BitVec 8 → BitVec 8} (hf : ∀ a b, f (a ^^^ b) = f a ^^^ f b) : f 0#8 = 0#8 := by
  have h := hf 0#8 0#8
  rw [BitVec.xor_self, BitVec.xor_self] at h
  exact h
theorem qf_ext {f g : BitVec 8 → BitVec 8} (hf : ∀ a b, f (a ^^^ b) = f a ^^^ f b) (hg : ∀ a b, g (a ^^^ b) = g a ^^^ g b) (h : ∀ k, k < 8 → f (BitVec.ofNat 8 (2 ^ k)) = g (BitVec.ofNat 8 (2 ^ k))) (a : BitVec 8) : f a = g a := by
  have key : ∀ (c : Bool) (t : BitVec 8), f t = g t → f (bif c then t else 0#8) = g (bif c then t else 0#8) := by
    intro c t e
    cases c
    · show f 0#8 = g 0#8
      rw [qf_add0 hf, qf_add0 hg]
    · exact e
  rw [qf_basis a]
  simp only [hf, hg]
  rw [key _ 1#8 (h 0 (by decide)), key _ 2#8 (h 1 (by decide)), key _ 4#8 (h 2 (by decide)), key _ 8#8 (h 3 (by decide)), key _ 16#8 (h 4 (by decide)), key _ 32#8 (h 5 (by decide)), key _ 64#8 (h 6 (by decide)), key _ 128#8 (h 7 (by decide))]
theorem qf_comm_b : ∀ k, k < 8 → ∀ j, j < 8 → qf_m (BitVec.ofNat 8 (2 ^ k)) (BitVec.ofNat 8 (2 ^ j)) = qf_m (BitVec.ofNat 8 (2 ^ j)) (BitVec.ofNat 8 (2 ^ k)) := by decide +kernel
theorem qf_comm (a b : BitVec 8) : qf_m a b = qf_m b a :=
  qf_ext (f := fun a => qf_m a b) (g := fun a => qf_m b a) (fun x y => qf_m_l x y b) (fun x y => qf_m_r b x y)
    (fun k hk => qf_ext (f := fun b => qf_m (BitVec.ofNat 8 (2 ^ k)) b) (g := fun b => qf_m b (BitVec.ofNat 8 (2 ^ k))) (fun x y => qf_m_r _ x y) (fun x y => qf_m_l x y _) (fun j hj => qf_comm_b k hk j hj) b) a
theorem qf_assoc_b : ∀ k, k < 8 → ∀ j, j < 8 → ∀ i, i < 8 → qf_m (qf_m (BitVec.ofNat 8 (2 ^ k)) (BitVec.ofNat 8 (2 ^ j))) (BitVec.ofNat 8 (2 ^ i)) = qf_m (BitVec.ofNat 8 (2 ^ k)) (qf_m (BitVec.ofNat 8 (2 ^ j)) (BitVec.ofNat 8 (2 ^ i))) := by decide +kernel
theorem qf_assoc (a b c : BitVec 8) : qf_m (qf_m a b) c = qf_m a (qf_m b c) :=
  qf_ext (f := fun a => qf_m (qf_m a b) c) (g := fun a => qf_m a (qf_m b c)) (fun x y => by show qf_m (qf_m (x ^^^ y) b) c = _; rw [qf_m_l, qf_m_l]) (fun x y => qf_m_l x y _)
    (fun k hk => qf_ext (f := fun b => qf_m (qf_m (BitVec.ofNat 8 (2 ^ k)) b) c) (g := fun b => qf_m (BitVec.ofNat 8 (2 ^ k)) (qf_m b c)) (fun x y => by show qf_m (qf_m _ (x ^^^ y)) c = _; rw [qf_m_r, qf_m_l]) (fun x y => by show qf_m _ (qf_m (x ^^^ y) c) = _; rw [qf_m_l, qf_m_r])
      (fun j hj => qf_ext (f := fun c => qf_m (qf_m (BitVec.ofNat 8 (2 ^ k)) (BitVec.ofNat 8 (2 ^ j))) c) (g := fun c => qf_m (BitVec.ofNat 8 (2 ^ k)) (qf_m (BitVec.ofNat 8 (2 ^ j)) c)) (fun x y => qf_m_r _ x y) (fun x y => by show qf_m _ (qf_m _ (x ^^^ y)) = _; rw [qf_m_r, qf_m_r]) (fun i hi => qf_assoc_b k hk j hj i hi) c) b) a
theorem qf_0r (a : BitVec 8) : qf_m a 0#8 = 0#8 := qf_add0 (f := fun b => qf_m a b) (fun x y => qf_m_r a x y)
theorem qf_0l (a : BitVec 8) : qf_m 0#8 a = 0#8 := qf_add0 (f := fun b => qf_m b a) (fun x y => qf_m_l x y a)
theorem qf_1r_b : ∀ k, k < 8 → qf_m (BitVec.ofNat 8 (2 ^ k)) 1#8 = BitVec.ofNat 8 (2 ^ k) := by decide +kernel
theorem qf_1r (a : BitVec 8) : qf_m a 1#8 = a := qf_ext (f := fun a => qf_m a 1#8) (g := fun a => a) (fun x y => qf_m_l x y _) (fun _ _ => rfl) qf_1r_b a
theorem qf_1l (a : BitVec 8) : qf_m 1#8 a = a := by rw [qf_comm, qf_1r]
theorem qf_2r_b : ∀ k, k < 8 → qf_x (BitVec.ofNat 8 (2 ^ k)) = qf_m (BitVec.ofNat 8 (2 ^ k)) 2#8 := by decide +kernel
theorem qf_2r (a : BitVec 8) : qf_x a = qf_m a 2#8 := qf_ext (f := qf_x) (g := fun a => qf_m a 2#8) qf_x_l (fun x y => qf_m_l x y _) qf_2r_b a
/-- powers -/
def qf_p (a : BitVec 8) : Nat → BitVec 8
  | 0 => 1#8
  | k + 1 => qf_m (qf_p a k) a
theorem qf_p_add (a : BitVec 8) (i j : Nat) : qf_p a (i + j) = qf_m (qf_p a i) (qf_p a j) := by
  induction j with
  | zero => rw [Nat.add_zero, qf_p, qf_1r]
  | succ j ih => rw [← Nat.add_assoc, qf_p, ih, qf_p, qf_assoc]
theorem qf_p_1 (a : BitVec 8) : qf_p a 1 = a := by rw [qf_p, qf_p, qf_1l]
theorem qf_p_mul (a : BitVec 8) (i j : Nat) : qf_p a (i * j) = qf_p (qf_p a i) j := by
  induction j with
  | zero => rfl
  | succ j ih => rw [Nat.mul_succ, qf_p_add, ih, qf_p]
theorem qf_p_m (a b : BitVec 8) (j : Nat) : qf_p (qf_m a b) j = qf_m (qf_p a j) (qf_p b j) := by
  induction j with
  | zero => rw [qf_p, qf_p, qf_p, qf_1r]
  | succ j ih =>
    rw [qf_p, ih, qf_p, qf_p, qf_assoc, qf_assoc, ← qf_assoc (qf_p b j) a b, qf_comm (qf_p b j) a, qf_assoc a]
theorem qf_p_one (j : Nat) : qf_p 1#8 j = 1#8 := by
  induction j with
  | zero => rfl
  | succ j ih => rw [qf_p, ih, qf_1r]
/-- the powers of 2 -/
def qf_E (k : Nat) : BitVec 8 := qf_p 2#8 k
theorem qf_E_x (k : Nat) : qf_E (k + 1) = qf_x (qf_E k) := by rw [qf_2r]; rfl
theorem qf_E_s (k : Nat) : qf_E k = qf_s 1#8 k := by
  induction k with
  | zero => rfl
  | succ k ih => rw [qf_E_x, ih]; rfl
theorem qf_E_add (i j : Nat) : qf_E (i + j) = qf_m (qf_E i) (qf_E j) := qf_p_add 2#8 i j
theorem qf_E_p (i j : Nat) : qf_E (i * j) = qf_p (qf_E i) j := qf_p_mul 2#8 i j
def qf_lt : List Nat := [0, 0, 1, 25, 2, 50, 26, 198, 3, 223, 51, 238, 27, 104, 199, 75, 4, 100, 224, 14, 52, 141, 239, 129, 28, 193, 105, 248, 200, 8, 76, 113, 5, 138, 101, 47, 225, 36, 15, 33, 53, 147, 142, 218, 240, 18, 130, 69, 29, 181, 194, 125, 106, 39, 249, 185, 201, 154, 9, 120, 77, 228, 114, 166, 6, 191, 139, 98, 102, 221, 48, 253, 226, 152, 37, 179, 16, 145, 34, 136, 54, 208, 148, 206, 143, 150, 219, 189, 241, 210, 19, 92, 131, 56, 70, 64, 30, 66, 182, 163, 195, 72, 126, 110, 107, 58, 40, 84, 250, 133, 186, 61, 202, 94, 155, 159, 10, 21, 121, 43, 78, 212, 229, 172, 115, 243, 167, 87, 7, 112, 192, 247, 140, 128, 99, 13, 103, 74, 222, 237, 49, 197, 254, 24, 227, 165, 153, 119, 38, 184, 180, 124, 17, 68, 146, 217, 35, 32, 137, 46, 55, 63, 209, 91, 149, 188, 207, 205, 144, 135, 151, 178, 220, 252, 190, 97, 242, 86, 211, 171, 20, 42, 93, 158, 132, 60, 57, 83, 71, 109, 65, 162, 31, 45, 67, 216, 183, 123, 164, 118, 196, 23, 73, 236, 127, 12, 111, 246, 108, 161, 59, 82, 41, 157, 85, 170, 251, 96, 134, 177, 187, 204, 62, 90, 203, 89, 95, 176, 156, 169, 160, 81, 11, 245, 22, 235, 122, 117, 44, 215, 79, 174, 213, 233, 230, 231, 173, 232, 116, 214, 244, 234, 168, 80, 88, 175]
theorem qf_log_b : ∀ n, n < 256 → n ≠ 0 → qf_s 1#8 (qf_lt.getD n 0) = BitVec.ofNat 8 n := by decide +kernel
theorem qf_log {a : BitVec 8} (h : a ≠ 0#8) : ∃ i, a = qf_E i := by
  refine ⟨qf_lt.getD a.toNat 0, ?_⟩
  rw [qf_E_s, qf_log_b a.toNat a.isLt (fun e => h (by apply BitVec.eq_of_toNat_eq; rw [e]; rfl)), BitVec.ofNat_toNat, BitVec.setWidth_eq]
theorem qf_E255 : qf_E 255 = 1#8 := by rw [qf_E_s]; decide +kernel
theorem qf_p255 {a : BitVec 8} (h : a ≠ 0#8) : qf_p a 255 = 1#8 := by
  obtain ⟨i, rfl⟩ := qf_log h
  rw [← qf_E_p, Nat.mul_comm, qf_E_p, qf_E255, qf_p_one]
/-- the inverse: to the 254 -/
def qf_i (a : BitVec 8) : BitVec 8 := qf_p a 254
theorem qf_i_r {a : BitVec 8} (h : a ≠ 0#8) : qf_m (qf_i a) a = 1#8 := qf_p255 h
theorem qf_i_l {a : BitVec 8} (h : a ≠ 0#8) : qf_m a (qf_i a) = 1#8 := by rw [qf_comm, qf_i_r h]
theorem qf_nz {a b : BitVec 8} (h : qf_m a b = 0#8) (ha : a ≠ 0#8) : b = 0#8 := by
  have h1 : qf_m (qf_i a) (qf_m a b) = b := by rw [← qf_assoc, qf_i_r ha, qf_1l]
  rw [h, qf_0r] at h1
  exact h1.symm
theorem qf_mz {a b : BitVec 8} (ha : a ≠ 0#8) (hb : b ≠ 0#8) : qf_m a b ≠ 0#8 := fun h => hb (qf_nz h ha)
theorem qf_E_nz (k : Nat) : qf_E k ≠ 0#8 := by
  induction k with
  | zero => decide
  | succ k ih => exact qf_mz ih (by decide)
theorem qf_E_inj_b : ∀ i, i < 16 → ∀ j, j < 16 → qf_s 1#8 i = qf_s 1#8 j → i = j := by decide +kernel
theorem qf_E_inj {i j : Nat} (hi : i < 16) (hj : j < 16) (h : qf_E i = qf_E j) : i = j := by
  rw [qf_E_s, qf_E_s] at h
  exact qf_E_inj_b i hi j hj h
/-- the squarings of the class's inverse -/
def qf_ip (a : BitVec 8) : Nat → BitVec 8
  | 0 => a
  | k + 1 => qf_m (qf_ip a k) (qf_ip a k)
def qf_ir (a : BitVec 8) : Nat → BitVec 8
  | 0 => 1#8
  | k + 1 => qf_m (qf_ir a k) (qf_ip a (k + 1))
theorem qf_ip_p (a : BitVec 8) (k : Nat) : qf_ip a k = qf_p a (2 ^ k) := by
  induction k with
  | zero => exact (qf_p_1 a).symm
  | succ k ih => rw [qf_ip, ih, ← qf_p_add, Nat.pow_succ, Nat.mul_two]
theorem qf_ir_p (a : BitVec 8) (k : Nat) : qf_ir a k = qf_p a (2 ^ (k + 1) - 2) := by
  induction k with
  | zero => rfl
  | succ k ih =>
    have h1 : 2 ≤ 2 ^ (k + 1) := by
      have : 2 ^ (k + 1) = 2 ^ k * 2 := Nat.pow_succ ..
      have : 0 < 2 ^ k := Nat.pow_pos (by decide)
      omega
    rw [qf_ir, ih, qf_ip_p, ← qf_p_add]
    congr 1
    have : 2 ^ (k + 1 + 1) = 2 ^ (k + 1) * 2 := Nat.pow_succ ..
    omega
theorem qf_ir_7 (a : BitVec 8) : qf_ir a 7 = qf_i a := qf_ir_p a 7
end
section
/-! words: sums by Horner, one place changed, the doubted places, Lagrange weights -/
def qw_h (r : BitVec 8) (w : Nat → BitVec 8) : Nat → BitVec 8
  | 0 => 0#8
  | i + 1 => qf_m (qw_h r w i) r ^^^ w i
def qw_s (f : Nat → BitVec 8) : Nat → BitVec 8
  | 0 => 0#8
  | c + 1 => qw_s f c ^^^ f c
theorem qw_h_congr {r : BitVec 8} {w v : Nat → BitVec 8} {n : Nat} (h : ∀ i, i < n → w i = v i) : qw_h r w n = qw_h r v n := by
  induction n with
  | zero => rfl
  | succ n ih => rw [qw_h, qw_h, ih (fun i hi => h i (by omega)), h n (by omega)]
theorem qw_s_congr {f g : Nat → BitVec 8} {n : Nat} (h : ∀ i, i < n → f i = g i) : qw_s f n = qw_s g n := by
  induction n with
  | zero => rfl
  | succ n ih => rw [qw_s, qw_s, ih (fun i hi => h i (by omega)), h n (by omega)]
theorem qw_h_up {r : BitVec 8} {w : Nat → BitVec 8} {d : BitVec 8} {n j : Nat} (hj : j < n) : qw_h r (va_up w j (w j ^^^ d)) n = qw_h r w n ^^^ qf_m d (qf_p r (n - 1 - j)) := by
  induction n with
  | zero => omega
  | succ n ih =>
    by_cases h : j = n
    · subst h
      rw [qw_h, qw_h, qw_h_congr (v := w) (fun i hi => va_up_ne _ _ (by omega)), va_up_self, show j + 1 - 1 - j = 0 by omega, qf_p, qf_1r, BitVec.xor_assoc]
    · rw [qw_h, qw_h, ih (by omega), va_up_ne _ _ (by omega), qf_m_l, qf_assoc, BitVec.xor_assoc, BitVec.xor_assoc, BitVec.xor_comm _ (w n), show n + 1 - 1 - j = (n - 1 - j) + 1 by omega, qf_p]
/-- the sums of a row of n, and the locators of its places -/
def qw_S (n : Nat) (w : Nat → BitVec 8) (k : Nat) : BitVec 8 := qw_h (qf_E k) w n
def qw_X (n j : Nat) : BitVec 8 := qf_E (n - 1 - j)
theorem qw_S_up {n j : Nat} (hj : j < n) (w : Nat → BitVec 8) (d : BitVec 8) (k : Nat) : qw_S n (va_up w j (w j ^^^ d)) k = qw_S n w k ^^^ qf_m d (qf_p (qw_X n j) k) := by
  unfold qw_S qw_X
  rw [qw_h_up hj, ← qf_E_p, ← qf_E_p, Nat.mul_comm]
theorem qw_X_ne {n i j : Nat} (hn : n ≤ 16) (hi : i < n) (hj : j < n) (h : i ≠ j) : qw_X n i ^^^ qw_X n j ≠ 0#8 := fun e => h (by
  have h1 := qf_E_inj (by omega) (by omega) (qf_xe e)
  omega)
/-- a row that is a word -/
def qw_W (n : Nat) (w : Nat → BitVec 8) : Prop := ∀ k, k < 4 → qw_S n w k = 0#8
theorem qw_W_congr {n : Nat} {w v : Nat → BitVec 8} (h : ∀ i, i < n → w i = v i) : qw_W n w ↔ qw_W n v := by
  unfold qw_W qw_S
  constructor
  · intro a k hk
    rw [← qw_h_congr h]
    exact a k hk
  · intro a k hk
    rw [qw_h_congr h]
    exact a k hk
/-- the places' changes, one behind the other -/
def qw_a (w : Nat → BitVec 8) (d : Nat → Nat) (x : Nat → BitVec 8) : Nat → (Nat → BitVec 8)
  | 0 => w
  | c + 1 => va_up (qw_a w d x c) (d c) (qw_a w d x c (d c) ^^^ x c)
theorem qw_a_S {n : Nat} {w : Nat → BitVec 8} {d : Nat → Nat} {x : Nat → BitVec 8} {m : Nat} (hd : ∀ c, c < m → d c < n) (k : Nat) : qw_S n (qw_a w d x m) k = qw_S n w k ^^^ qw_s (fun c => qf_m (x c) (qf_p (qw_X n (d c)) k)) m := by
  induction m with
  | zero => rw [qw_a, qw_s, BitVec.xor_zero]
  | succ m ih => rw [qw_a, qw_S_up (hd m (by omega)), ih (fun c hc => hd c (by omega)), qw_s, BitVec.xor_assoc]
theorem qw_a_at {w : Nat → BitVec 8} {d : Nat → Nat} {x : Nat → BitVec 8} {m j : Nat} : qw_a w d x m j = w j ^^^ qw_s (fun c => bif d c == j then x c else 0#8) m := by
  induction m with
  | zero => rw [qw_a, qw_s, BitVec.xor_zero]
  | succ m ih =>
    rw [qw_a, qw_s]
    by_cases h : j = d m
    · subst h
      rw [va_up_self, ih, beq_self_eq_true, cond_true, BitVec.xor_assoc]
    · rw [va_up_ne _ _ h, ih, beq_false_of_ne (fun e => h e.symm), cond_false, BitVec.xor_zero]
theorem qw_a_back (w : Nat → BitVec 8) (d : Nat → Nat) (x : Nat → BitVec 8) (m : Nat) : qw_a (qw_a w d x m) d x m = w := by
  funext j
  rw [qw_a_at, qw_a_at, BitVec.xor_assoc, BitVec.xor_self, BitVec.xor_zero]
/-- a sum with one term -/
theorem qw_s_one {f : Nat → BitVec 8} {n m : Nat} (hm : m < n) (h : ∀ c, c < n → c ≠ m → f c = 0#8) : qw_s f n = f m := by
  induction n with
  | zero => omega
  | succ n ih =>
    rw [qw_s]
    by_cases e : m = n
    · subst e
      have h0 : ∀ k, k ≤ m → qw_s f k = 0#8 := by
        intro k
        induction k with
        | zero => intro _; rfl
        | succ k ih2 => intro hk; rw [qw_s, ih2 (by omega), h k (by omega) (by omega), BitVec.xor_zero]
      rw [h0 m (Nat.le_refl m), BitVec.zero_xor]
    · rw [ih (by omega) (fun c hc => h c (by omega)), h n (by omega) (fun q => e q.symm), BitVec.xor_zero]
theorem qw_s_zero {f : Nat → BitVec 8} {n : Nat} (h : ∀ c, c < n → f c = 0#8) : qw_s f n = 0#8 := by
  induction n with
  | zero => rfl
  | succ n ih => rw [qw_s, ih (fun c hc => h c (by omega)), h n (by omega), BitVec.xor_zero]
theorem qw_s_x (f g : Nat → BitVec 8) (n : Nat) : qw_s (fun c => f c ^^^ g c) n = qw_s f n ^^^ qw_s g n := by
  induction n with
  | zero =>
    show (0#8 : BitVec 8) = 0#8 ^^^ 0#8
    decide
  | succ n ih => rw [qw_s, qw_s, qw_s, ih, qf_x4]
theorem qw_s_m (a : BitVec 8) (f : Nat → BitVec 8) (n : Nat) : qf_m a (qw_s f n) = qw_s (fun c => qf_m a (f c)) n := by
  induction n with
  | zero => exact qf_0r a
  | succ n ih => rw [qw_s, qw_s, qf_m_r, ih]
/-- sums of sums -/
theorem qw_s_swap (F : Nat → Nat → BitVec 8) (m n : Nat) : qw_s (fun k => qw_s (fun c => F k c) m) n = qw_s (fun c => qw_s (fun k => F k c) n) m := by
  induction n with
  | zero =>
    rw [qw_s]
    exact (qw_s_zero (fun c _ => rfl)).symm
  | succ n ih =>
    rw [qw_s, ih, ← qw_s_x]
    rfl
/-- the weights: coefficients of a polynomial of degree below 4 -/
def qw_r (V : Nat → BitVec 8) (r : BitVec 8) : Nat → BitVec 8 := fun k => if k = 0 then qf_m (V 0) r else if k < 4 then qf_m (V k) r ^^^ V (k - 1) else V k
def qw_ev (V : Nat → BitVec 8) (x : BitVec 8) : BitVec 8 := qw_s (fun k => qf_m (V k) (qf_p x k)) 4
theorem qw_ev4 (V : Nat → BitVec 8) (x : BitVec 8) : qw_ev V x = (((V 0 ^^^ qf_m (V 1) (qf_p x 1)) ^^^ qf_m (V 2) (qf_p x 2)) ^^^ qf_m (V 3) (qf_p x 3)) := by
  show ((((0#8 ^^^ qf_m (V 0) 1#8) ^^^ _) ^^^ _) ^^^ _) = _
  rw [BitVec.zero_xor, qf_1r]
theorem qw_ev_r {V : Nat → BitVec 8} (h3 : V 3 = 0#8) (r x : BitVec 8) : qw_ev (qw_r V r) x = qf_m (qw_ev V x) (x ^^^ r) := by
  have e0 : qw_r V r 0 = qf_m (V 0) r := rfl
  have e1 : qw_r V r 1 = qf_m (V 1) r ^^^ V 0 := rfl
  have e2 : qw_r V r 2 = qf_m (V 2) r ^^^ V 1 := rfl
  have e3 : qw_r V r 3 = qf_m (V 3) r ^^^ V 2 := rfl
  have s : ∀ (a : BitVec 8) (k : Nat), qf_m (qf_m a r) (qf_p x k) = qf_m (qf_m a (qf_p x k)) r := fun a k => by rw [qf_assoc, qf_comm r, ← qf_assoc]
  have t : ∀ (a : BitVec 8) (k : Nat), qf_m a (qf_p x (k + 1)) = qf_m (qf_m a (qf_p x k)) x := fun a k => by rw [qf_p, ← qf_assoc]
  rw [qw_ev4, qw_ev4, e0, e1, e2, e3, h3, qf_0l, qf_0l, BitVec.zero_xor, BitVec.xor_zero]
  rw [qf_m_r, qf_m_l, qf_m_l, qf_m_l, qf_m_l, qf_m_l, qf_m_l, s, s, t (V 0) 0, t (V 1) 1, t (V 2) 2, show qf_m (V 0) (qf_p x 0) = V 0 from qf_1r _]
  generalize qf_m (V 0) r = a0
  generalize qf_m (V 0) x = b0
  generalize qf_m (qf_m (V 1) (qf_p x 1)) r = a1
  generalize qf_m (qf_m (V 1) (qf_p x 1)) x = b1
  generalize qf_m (qf_m (V 2) (qf_p x 2)) r = a2
  generalize qf_m (qf_m (V 2) (qf_p x 2)) x = b2
  ac_rfl
/-- the class's weights and the value at the own locator, with the roots Y 0 .. but Y m -/
def qw_V0 : Nat → BitVec 8 := fun k => if k = 0 then 1#8 else 0#8
def qw_V (Y : Nat → BitVec 8) (m : Nat) (V0 : Nat → BitVec 8) : Nat → (Nat → BitVec 8)
  | 0 => V0
  | o + 1 => if o = m then qw_V Y m V0 o else qw_r (qw_V Y m V0 o) (Y o)
def qw_e (Y : Nat → BitVec 8) (m : Nat) (x : BitVec 8) : Nat → BitVec 8
  | 0 => 1#8
  | o + 1 => if o = m then qw_e Y m x o else qf_m (qw_e Y m x o) (x ^^^ Y o)
theorem qw_V_deg {Y : Nat → BitVec 8} {m : Nat} {V0 : Nat → BitVec 8} (h0 : V0 0 = 1#8) (hz : ∀ k, 0 < k → k < 4 → V0 k = 0#8) (o : Nat) : ∀ k, (if m < o then o - 1 else o) < k → k < 4 → qw_V Y m V0 o k = 0#8 := by
  induction o with
  | zero => intro k h1 h2; exact hz k (by split at h1 <;> omega) h2
  | succ o ih =>
    intro k h1 h2
    rw [qw_V]
    by_cases e : o = m
    · rw [if_pos e]
      refine ih k ?_ h2
      rw [if_pos (by omega)] at h1
      rw [if_neg (by omega)]
      omega
    · rw [if_neg e]
      have hk : (if m < o then o - 1 else o) < k - 1 := by split at h1 <;> split <;> omega
      have hk' : (if m < o then o - 1 else o) < k := by omega
      unfold qw_r
      rw [if_neg (by omega), if_pos h2, ih k hk' h2, ih (k - 1) hk (by omega), qf_0l, BitVec.zero_xor]
theorem qw_V_ev {Y : Nat → BitVec 8} {m : Nat} {V0 : Nat → BitVec 8} (h0 : V0 0 = 1#8) (hz : ∀ k, 0 < k → k < 4 → V0 k = 0#8) (x : BitVec 8) {n : Nat} (hm : m < n) (hn : n ≤ 4) (o : Nat) (ho : o ≤ n) : qw_ev (qw_V Y m V0 o) x = qw_e Y m x o := by
  induction o with
  | zero =>
    show qw_ev V0 x = 1#8
    rw [qw_ev4, h0, hz 1 (by omega) (by omega), hz 2 (by omega) (by omega), hz 3 (by omega) (by omega), qf_0l, qf_0l, qf_0l]
    simp
  | succ o ih =>
    rw [qw_V, qw_e]
    by_cases e : o = m
    · rw [if_pos e, if_pos e]
      exact ih (by omega)
    · rw [if_neg e, if_neg e, qw_ev_r (qw_V_deg h0 hz o 3 (by split <;> omega) (by omega)), ih (by omega)]
theorem qw_e_root {Y : Nat → BitVec 8} {m n c : Nat} (hc : c < n) (h : c ≠ m) : qw_e Y m (Y c) n = 0#8 := by
  induction n with
  | zero => omega
  | succ n ih =>
    rw [qw_e]
    by_cases e : n = m
    · rw [if_pos e]
      exact ih (by omega)
    · rw [if_neg e]
      by_cases e2 : c = n
      · rw [e2, BitVec.xor_self, qf_0r]
      · rw [ih (by omega), qf_0l]
theorem qw_e_nz {Y : Nat → BitVec 8} {m n : Nat} {x : BitVec 8} (h : ∀ c, c < n → c ≠ m → x ^^^ Y c ≠ 0#8) : qw_e Y m x n ≠ 0#8 := by
  induction n with
  | zero =>
    show (1#8 : BitVec 8) ≠ 0#8
    decide
  | succ n ih =>
    rw [qw_e]
    by_cases e : n = m
    · rw [if_pos e]
      exact ih (fun c hc => h c (by omega))
    · rw [if_neg e]
      exact qf_mz (ih (fun c hc => h c (by omega))) (h n (by omega) e)
/-- Lagrange: the sums weighted leave one term -/
theorem qw_lag {Y S x : Nat → BitVec 8} {m n : Nat} {V0 : Nat → BitVec 8} (h0 : V0 0 = 1#8) (hz : ∀ k, 0 < k → k < 4 → V0 k = 0#8) (hm : m < n) (hn : n ≤ 4) (hS : ∀ k, k < 4 → S k = qw_s (fun c => qf_m (x c) (qf_p (Y c) k)) n) :
    qw_s (fun k => qf_m (qw_V Y m V0 n k) (S k)) 4 = qf_m (x m) (qw_e Y m (Y m) n) := by
  have e1 : qw_s (fun k => qf_m (qw_V Y m V0 n k) (S k)) 4 = qw_s (fun k => qw_s (fun c => qf_m (x c) (qf_m (qw_V Y m V0 n k) (qf_p (Y c) k))) n) 4 := by
    refine qw_s_congr (fun k hk => ?_)
    rw [hS k hk, qw_s_m]
    refine qw_s_congr (fun c _ => ?_)
    rw [← qf_assoc, qf_comm (qw_V Y m V0 n k), qf_assoc]
  have e2 : qw_s (fun k => qw_s (fun c => qf_m (x c) (qf_m (qw_V Y m V0 n k) (qf_p (Y c) k))) n) 4 = qw_s (fun c => qf_m (x c) (qw_e Y m (Y c) n)) n := by
    rw [qw_s_swap (fun k c => qf_m (x c) (qf_m (qw_V Y m V0 n k) (qf_p (Y c) k)))]
    refine qw_s_congr (fun c _ => ?_)
    rw [← qw_s_m (x c) (fun k => qf_m (qw_V Y m V0 n k) (qf_p (Y c) k)) 4, ← qw_V_ev (Y := Y) h0 hz (Y c) hm hn n (Nat.le_refl n)]
    rfl
  rw [e1, e2]
  exact qw_s_one (f := fun c => qf_m (x c) (qw_e Y m (Y c) n)) hm (fun c hc hne => by
    show qf_m (x c) (qw_e Y m (Y c) n) = 0#8
    rw [qw_e_root hc hne, qf_0r])
/-- Vandermonde: sums that are all 0 have terms that are all 0 -/
theorem qw_van {Y x : Nat → BitVec 8} {n : Nat} (hn : n ≤ 4) (hY : ∀ i j, i < n → j < n → i ≠ j → Y i ^^^ Y j ≠ 0#8) (hS : ∀ k, k < 4 → qw_s (fun c => qf_m (x c) (qf_p (Y c) k)) n = 0#8) : ∀ m, m < n → x m = 0#8 := by
  intro m hm
  have h := qw_lag (Y := Y) (S := fun _ => 0#8) (x := x) (V0 := qw_V0) (m := m) (n := n) rfl (fun k h1 _ => if_neg (by omega)) hm hn (fun k hk => (hS k hk).symm)
  rw [qw_s_zero (fun c _ => qf_0r _)] at h
  rw [qf_comm] at h
  exact qf_nz h.symm (qw_e_nz (fun c hc hne => hY m c hm hc (fun e => hne e.symm)))
/-- the class's change at m -/
def qw_ch (Y S : Nat → BitVec 8) (V0 : Nat → BitVec 8) (n m : Nat) : BitVec 8 := qf_m (qw_s (fun k => qf_m (qw_V Y m V0 n k) (S k)) 4) (qf_i (qw_e Y m (Y m) n))
theorem qw_ch_ok {Y S x : Nat → BitVec 8} {m n : Nat} (hm : m < n) (hn : n ≤ 4) (hY : ∀ i j, i < n → j < n → i ≠ j → Y i ^^^ Y j ≠ 0#8) (hS : ∀ k, k < 4 → S k = qw_s (fun c => qf_m (x c) (qf_p (Y c) k)) n) : qw_ch Y S qw_V0 n m = x m := by
  unfold qw_ch
  rw [qw_lag (V0 := qw_V0) rfl (fun k h1 _ => if_neg (by omega)) hm hn hS, qf_assoc, qf_i_l (qw_e_nz (fun c hc hne => hY m c hm hc (fun e => hne e.symm))), qf_1r]
end
section
/-! the doubted places of a row: how many, and where -/
def qd_c (z : Nat → Bool) : Nat → Nat
  | 0 => 0
  | i + 1 => bif z i then qd_c z i + 1 else qd_c z i
def qd_d (z : Nat → Bool) (d0 : Nat → Nat) : Nat → (Nat → Nat)
  | 0 => d0
  | i + 1 => bif z i then va_up (qd_d z d0 i) (qd_c z i) i else qd_d z d0 i
theorem qd_c_le (z : Nat → Bool) (i : Nat) : qd_c z i ≤ i := by
  induction i with
  | zero => exact Nat.le_refl 0
  | succ i ih => rw [qd_c]; cases z i <;> simp <;> omega
theorem qd_c_mono (z : Nat → Bool) {i j : Nat} (h : i ≤ j) : qd_c z i ≤ qd_c z j := by
  induction j with
  | zero => have : i = 0 := by omega
            subst this; exact Nat.le_refl _
  | succ j ih =>
    by_cases e : i = j + 1
    · subst e; exact Nat.le_refl _
    · have := ih (by omega)
      rw [qd_c]
      cases z j <;> simp <;> omega
theorem qd_c_lt (z : Nat → Bool) {i n : Nat} (h : i < n) (hz : z i = true) : qd_c z i < qd_c z n := by
  have h1 := qd_c_mono z (i := i + 1) (j := n) h
  rw [qd_c, hz, cond_true] at h1
  omega
/-- place c: below n, doubted, the c-th -/
theorem qd_d_in (z : Nat → Bool) (d0 : Nat → Nat) (n : Nat) : ∀ c, c < qd_c z n → qd_d z d0 n c < n ∧ z (qd_d z d0 n c) = true ∧ qd_c z (qd_d z d0 n c) = c := by
  induction n with
  | zero => intro c h; exact absurd h (Nat.not_lt_zero c)
  | succ n ih =>
    intro c h
    rw [qd_c] at h
    rw [qd_d]
    cases hz : z n with
    | false =>
      rw [hz, cond_false] at h
      rw [cond_false]
      obtain ⟨h1, h2, h3⟩ := ih c h
      exact ⟨by omega, h2, h3⟩
    | true =>
      rw [hz, cond_true] at h
      rw [cond_true]
      by_cases e : c = qd_c z n
      · rw [e, va_up_self]
        exact ⟨by omega, hz, rfl⟩
      · rw [va_up_ne _ _ e]
        obtain ⟨h1, h2, h3⟩ := ih c (by omega)
        exact ⟨by omega, h2, h3⟩
theorem qd_d_ne (z : Nat → Bool) (d0 : Nat → Nat) (n : Nat) {a b : Nat} (ha : a < qd_c z n) (hb : b < qd_c z n) (h : a ≠ b) : qd_d z d0 n a ≠ qd_d z d0 n b := fun e => h (by
  have h1 := (qd_d_in z d0 n a ha).2.2
  have h2 := (qd_d_in z d0 n b hb).2.2
  rw [← h1, ← h2, e])
theorem qd_d_all (z : Nat → Bool) (d0 : Nat → Nat) (n : Nat) {i : Nat} (hi : i < n) (hz : z i = true) : qd_d z d0 n (qd_c z i) = i := by
  induction n with
  | zero => omega
  | succ n ih =>
    rw [qd_d]
    by_cases e : i = n
    · subst e
      rw [hz, cond_true, va_up_self]
    · have hl := qd_c_lt z (i := i) (n := n) (by omega) hz
      cases z n
      · rw [cond_false]; exact ih (by omega)
      · rw [cond_true, va_up_ne _ _ (by omega)]; exact ih (by omega)
/-- what was laid ahead of the places doesn't matter -/
theorem qd_d_any (z : Nat → Bool) (d0 d1 : Nat → Nat) (n : Nat) {c : Nat} (hc : c < qd_c z n) : qd_d z d0 n c = qd_d z d1 n c := by
  obtain ⟨h1, h2, h3⟩ := qd_d_in z d0 n c hc
  have h4 := qd_d_all z d1 n h1 h2
  rw [h3] at h4
  exact h4.symm
/-! the reference's rows: 4 of 5; their kernel stays under swaps, scalings and subtractions -/
def qg_L (M : Nat → Nat → BitVec 8) (x : Nat → BitVec 8) (r : Nat) : BitVec 8 := qw_s (fun c => qf_m (M r c) (x c)) 5
def qg_K (M : Nat → Nat → BitVec 8) (x : Nat → BitVec 8) : Prop := ∀ r, r < 4 → qg_L M x r = 0#8
def qg_up (M : Nat → Nat → BitVec 8) (r c : Nat) (v : BitVec 8) : Nat → Nat → BitVec 8 := fun a b => if a = r ∧ b = c then v else M a b
theorem qg_up_s (M : Nat → Nat → BitVec 8) (r c : Nat) (v : BitVec 8) : qg_up M r c v r c = v := if_pos ⟨rfl, rfl⟩
theorem qg_up_n (M : Nat → Nat → BitVec 8) {r c a b : Nat} (v : BitVec 8) (h : a ≠ r ∨ b ≠ c) : qg_up M r c v a b = M a b := if_neg (fun q => h.elim (fun h => h q.1) (fun h => h q.2))
def qg_sw (M : Nat → Nat → BitVec 8) (r q : Nat) : Nat → (Nat → Nat → BitVec 8)
  | 0 => M
  | i + 1 => qg_up (qg_up (qg_sw M r q i) r i (qg_sw M r q i q i)) q i (qg_sw M r q i r i)
theorem qg_sw_at (M : Nat → Nat → BitVec 8) (r q i a b : Nat) : qg_sw M r q i a b = if b < i then (if a = q then M r b else if a = r then M q b else M a b) else M a b := by
  induction i generalizing a b with
  | zero => rw [if_neg (by omega)]; rfl
  | succ i ih =>
    rw [qg_sw]
    have hr : ∀ a, qg_sw M r q i a i = M a i := fun a => by rw [ih, if_neg (by omega)]
    by_cases hb : b = i
    · subst hb
      rw [if_pos (by omega), hr, hr]
      unfold qg_up
      by_cases h1 : a = q
      · rw [if_pos ⟨h1, rfl⟩, if_pos h1]
      · rw [if_neg (fun h => h1 h.1), if_neg h1]
        by_cases h2 : a = r
        · rw [if_pos ⟨h2, rfl⟩, if_pos h2]
        · rw [if_neg (fun h => h2 h.1), if_neg h2, hr]
    · rw [qg_up_n _ _ (Or.inr hb), qg_up_n _ _ (Or.inr hb), ih]
      by_cases h : b < i
      · rw [if_pos h, if_pos (show b < i + 1 by omega)]
      · rw [if_neg h, if_neg (show ¬ b < i + 1 by omega)]
def qg_sc (M : Nat → Nat → BitVec 8) (c : Nat) (v : BitVec 8) : Nat → (Nat → Nat → BitVec 8)
  | 0 => M
  | k + 1 => qg_up (qg_sc M c v k) c k (qf_m (qg_sc M c v k c k) v)
theorem qg_sc_at (M : Nat → Nat → BitVec 8) (c : Nat) (v : BitVec 8) (k a b : Nat) : qg_sc M c v k a b = if a = c ∧ b < k then qf_m (M a b) v else M a b := by
  induction k generalizing a b with
  | zero => rw [if_neg (by omega)]; rfl
  | succ k ih =>
    rw [qg_sc]
    by_cases h : a = c ∧ b = k
    · obtain ⟨rfl, rfl⟩ := h
      rw [qg_up_s, ih, if_neg (by omega), if_pos (by omega)]
    · rw [qg_up_n _ _ (by omega), ih]
      by_cases h2 : a = c ∧ b < k
      · rw [if_pos h2, if_pos (by omega)]
      · rw [if_neg h2, if_neg (by omega)]
def qg_el (M : Nat → Nat → BitVec 8) (c q : Nat) (f : BitVec 8) : Nat → (Nat → Nat → BitVec 8)
  | 0 => M
  | k + 1 => qg_up (qg_el M c q f k) q k (qg_el M c q f k q k ^^^ qf_m f (qg_el M c q f k c k))
theorem qg_el_at {M : Nat → Nat → BitVec 8} {c q : Nat} (hq : q ≠ c) (f : BitVec 8) (k a b : Nat) : qg_el M c q f k a b = if a = q ∧ b < k then M a b ^^^ qf_m f (M c b) else M a b := by
  induction k generalizing a b with
  | zero => rw [if_neg (by omega)]; rfl
  | succ k ih =>
    rw [qg_el]
    by_cases h : a = q ∧ b = k
    · obtain ⟨rfl, rfl⟩ := h
      rw [qg_up_s, ih, if_neg (by omega), ih, if_neg (by omega), if_pos (by omega)]
    · rw [qg_up_n _ _ (by omega), ih]
      by_cases h2 : a = q ∧ b < k
      · rw [if_pos h2, if_pos (by omega)]
      · rw [if_neg h2, if_neg (by omega)]
/-- all rows but c cleared, up to row q -/
def qg_cl (M : Nat → Nat → BitVec 8) (c : Nat) : Nat → (Nat → Nat → BitVec 8)
  | 0 => M
  | q + 1 => if q = c then qg_cl M c q else qg_el (qg_cl M c q) c q (qg_cl M c q q c) 5
theorem qg_cl_at (M : Nat → Nat → BitVec 8) {c : Nat} (hc : c < 5) (q a b : Nat) (hb : b < 5) : qg_cl M c q a b = if a < q ∧ a ≠ c then M a b ^^^ qf_m (M a c) (M c b) else M a b := by
  induction q generalizing a b with
  | zero => rw [if_neg (by omega)]; rfl
  | succ q ih =>
    rw [qg_cl]
    by_cases e : q = c
    · rw [if_pos e, ih _ _ hb]
      by_cases h : a < q ∧ a ≠ c
      · rw [if_pos h, if_pos (by omega)]
      · rw [if_neg h, if_neg (by omega)]
    · rw [if_neg e, qg_el_at e]
      by_cases h : a = q
      · subst h
        rw [if_pos ⟨rfl, hb⟩, ih _ _ hb, if_neg (by omega), ih _ _ hc, if_neg (by omega), ih _ _ hb, if_neg (by omega), if_pos (by omega)]
      · rw [if_neg (by omega), ih _ _ hb]
        by_cases h2 : a < q ∧ a ≠ c
        · rw [if_pos h2, if_pos (by omega)]
        · rw [if_neg h2, if_neg (by omega)]
/-- the row with a pivot for column c, from r on -/
def qg_pr (M : Nat → Nat → BitVec 8) (c : Nat) : Nat → Nat → Nat
  | 0, r => r
  | n + 1, r => if M r c = 0#8 then qg_pr M c n (r + 1) else r
theorem qg_pr_in (M : Nat → Nat → BitVec 8) (c n r : Nat) : r ≤ qg_pr M c n r ∧ qg_pr M c n r ≤ r + n ∧ ∀ a, r ≤ a → a < qg_pr M c n r → M a c = 0#8 := by
  induction n generalizing r with
  | zero => exact ⟨Nat.le_refl r, Nat.le_refl r, fun a h1 h2 => absurd h2 (by rw [qg_pr]; omega)⟩
  | succ n ih =>
    rw [qg_pr]
    by_cases h : M r c = 0#8
    · rw [if_pos h]
      obtain ⟨h1, h2, h3⟩ := ih (r + 1)
      refine ⟨by omega, by omega, fun a a1 a2 => ?_⟩
      by_cases e : a = r
      · rw [e]; exact h
      · exact h3 a (by omega) a2
    · rw [if_neg h]
      exact ⟨Nat.le_refl r, by omega, fun a h1 h2 => absurd h2 (by omega)⟩
theorem qg_pr_nz {M : Nat → Nat → BitVec 8} {c n r : Nat} (h : ∃ a, r ≤ a ∧ a ≤ r + n ∧ M a c ≠ 0#8) : M (qg_pr M c n r) c ≠ 0#8 := by
  induction n generalizing r with
  | zero =>
    obtain ⟨a, h1, h2, h3⟩ := h
    have : a = r := by omega
    subst this
    exact h3
  | succ n ih =>
    rw [qg_pr]
    by_cases e : M r c = 0#8
    · rw [if_pos e]
      obtain ⟨a, h1, h2, h3⟩ := h
      refine ih ⟨a, ?_, by omega, h3⟩
      rcases Nat.lt_or_ge r a with h4 | h4
      · exact h4
      · exact absurd e (by have : a = r := by omega
                           rw [← this]; exact h3)
    · rw [if_neg e]; exact e
def qg_clear (M : Nat → Nat → BitVec 8) (c : Nat) : Nat → Nat → BitVec 8 :=
  qg_cl (qg_sc (qg_sw M (qg_pr M c (3 - c) c) c 5) c (qf_i (qg_sw M (qg_pr M c (3 - c) c) c 5 c c)) 5) c 4
section QG
variable {M : Nat → Nat → BitVec 8} {c : Nat}
theorem qg_L_sw (r : Nat) (x : Nat → BitVec 8) (a : Nat) : qg_L (qg_sw M r c 5) x a = if a = c then qg_L M x r else if a = r then qg_L M x c else qg_L M x a := by
  have h : ∀ b, b < 5 → qg_sw M r c 5 a b = if a = c then M r b else if a = r then M c b else M a b := fun b hb => by rw [qg_sw_at, if_pos hb]
  unfold qg_L
  rw [qw_s_congr (fun b hb => by rw [h b hb])]
  by_cases h1 : a = c
  · rw [if_pos h1]
    exact qw_s_congr (fun b _ => by rw [if_pos h1])
  · rw [if_neg h1]
    by_cases h2 : a = r
    · rw [if_pos h2]
      exact qw_s_congr (fun b _ => by rw [if_neg h1, if_pos h2])
    · rw [if_neg h2]
      exact qw_s_congr (fun b _ => by rw [if_neg h1, if_neg h2])
theorem qg_L_sc (v : BitVec 8) (x : Nat → BitVec 8) (a : Nat) : qg_L (qg_sc M c v 5) x a = if a = c then qf_m (qg_L M x a) v else qg_L M x a := by
  unfold qg_L
  by_cases h1 : a = c
  · rw [if_pos h1, qf_comm _ v, qw_s_m]
    refine qw_s_congr (fun b hb => ?_)
    rw [qg_sc_at, if_pos ⟨h1, hb⟩, qf_comm _ v, qf_assoc]
  · rw [if_neg h1]
    refine qw_s_congr (fun b hb => ?_)
    rw [qg_sc_at, if_neg (fun h => h1 h.1)]
theorem qg_L_cl (hc : c < 5) (x : Nat → BitVec 8) (a : Nat) : qg_L (qg_cl M c 4) x a = if a < 4 ∧ a ≠ c then qg_L M x a ^^^ qf_m (M a c) (qg_L M x c) else qg_L M x a := by
  unfold qg_L
  by_cases h1 : a < 4 ∧ a ≠ c
  · rw [if_pos h1, qw_s_m, ← qw_s_x]
    refine qw_s_congr (fun b hb => ?_)
    rw [qg_cl_at M hc _ _ _ hb, if_pos h1, qf_m_l, qf_assoc]
  · rw [if_neg h1]
    refine qw_s_congr (fun b hb => ?_)
    rw [qg_cl_at M hc _ _ _ hb, if_neg h1]
theorem qg_clear_K (hc : c < 4) (hp : M (qg_pr M c (3 - c) c) c ≠ 0#8) (x : Nat → BitVec 8) : qg_K (qg_clear M c) x ↔ qg_K M x := by
  obtain ⟨hr1, hr2, -⟩ := qg_pr_in M c (3 - c) c
  unfold qg_clear
  generalize qg_pr M c (3 - c) c = r at hp hr1 hr2 ⊢
  have e1 : qg_sw M r c 5 c c = M r c := by rw [qg_sw_at, if_pos (by omega), if_pos rfl]
  rw [e1]
  have hv : qf_i (M r c) ≠ 0#8 := fun h => by
    have h1 := qf_i_r hp
    rw [h, qf_0l] at h1
    exact absurd h1 (by decide)
  generalize qf_i (M r c) = v at hv ⊢
  have k1 : qg_K (qg_sw M r c 5) x ↔ qg_K M x := by
    constructor
    · intro h a ha
      by_cases h1 : a = c
      · by_cases h2 : r = c
        · have h3 := h c (by omega)
          rw [qg_L_sw, if_pos rfl, h2] at h3
          rw [h1]; exact h3
        · have h3 := h r (by omega)
          rw [qg_L_sw, if_neg h2, if_pos rfl] at h3
          rw [h1]; exact h3
      · by_cases h2 : a = r
        · have h3 := h c (by omega)
          rw [qg_L_sw, if_pos rfl] at h3
          rw [h2]; exact h3
        · have h3 := h a ha
          rw [qg_L_sw, if_neg h1, if_neg h2] at h3
          exact h3
    · intro h a ha
      rw [qg_L_sw]
      by_cases h1 : a = c
      · rw [if_pos h1]; exact h r (by omega)
      · rw [if_neg h1]
        by_cases h2 : a = r
        · rw [if_pos h2]; exact h c (by omega)
        · rw [if_neg h2]; exact h a ha
  rw [← k1]
  generalize qg_sw M r c 5 = N
  have k2 : qg_K (qg_sc N c v 5) x ↔ qg_K N x := by
    constructor
    · intro h a ha
      have h3 := h a ha
      rw [qg_L_sc] at h3
      by_cases h1 : a = c
      · rw [if_pos h1, qf_comm] at h3
        exact qf_nz h3 hv
      · rw [if_neg h1] at h3; exact h3
    · intro h a ha
      rw [qg_L_sc, h a ha, qf_0l]
      split <;> rfl
  rw [← k2]
  generalize qg_sc N c v 5 = N2
  constructor
  · intro h
    have hc0 : qg_L N2 x c = 0#8 := by
      have h3 := h c hc
      rw [qg_L_cl (by omega), if_neg (by omega)] at h3
      exact h3
    intro a ha
    have h3 := h a ha
    rw [qg_L_cl (by omega), hc0, qf_0r, BitVec.xor_zero] at h3
    by_cases h1 : a < 4 ∧ a ≠ c
    · rw [if_pos h1] at h3; exact h3
    · rw [if_neg h1] at h3; exact h3
  · intro h a ha
    rw [qg_L_cl (by omega), h a ha, h c hc, qf_0r, BitVec.xor_zero]
    split <;> rfl
/-- column c is cleared, the columns ahead of it and the empty ones stay -/
theorem qg_clear_c (hc : c < 4) (hp : M (qg_pr M c (3 - c) c) c ≠ 0#8) {a : Nat} (ha : a < 4) : qg_clear M c a c = if a = c then 1#8 else 0#8 := by
  unfold qg_clear
  have e1 : qg_sw M (qg_pr M c (3 - c) c) c 5 c c = M (qg_pr M c (3 - c) c) c := by rw [qg_sw_at, if_pos (by omega), if_pos rfl]
  have e2 : qg_sc (qg_sw M (qg_pr M c (3 - c) c) c 5) c (qf_i (qg_sw M (qg_pr M c (3 - c) c) c 5 c c)) 5 c c = 1#8 := by
    rw [qg_sc_at, if_pos ⟨rfl, by omega⟩, e1, qf_i_l hp]
  rw [qg_cl_at _ (by omega) _ _ _ (by omega)]
  by_cases h : a = c
  · rw [if_neg (by omega), if_pos h, h, e2]
  · rw [if_pos ⟨ha, h⟩, if_neg h, e2, qf_1r, BitVec.xor_self]
theorem qg_clear_j (hc : c < 4) {j : Nat} (hj : j < 5) (hz : ∀ a, c ≤ a → a < 4 → M a j = 0#8) {a : Nat} (ha : a < 4) : qg_clear M c a j = M a j := by
  obtain ⟨hr1, hr2, -⟩ := qg_pr_in M c (3 - c) c
  unfold qg_clear
  generalize qg_pr M c (3 - c) c = r at hr1 hr2 ⊢
  generalize qf_i (qg_sw M r c 5 c c) = v
  have s1 : ∀ a, a < 4 → qg_sw M r c 5 a j = M a j := by
    intro a ha
    rw [qg_sw_at, if_pos hj]
    by_cases h1 : a = c
    · rw [if_pos h1, hz r hr1 (by omega), h1, hz c (Nat.le_refl c) hc]
    · rw [if_neg h1]
      by_cases h2 : a = r
      · rw [if_pos h2, hz c (Nat.le_refl c) hc, h2, hz r hr1 (by omega)]
      · rw [if_neg h2]
  have s2 : ∀ a, a < 4 → qg_sc (qg_sw M r c 5) c v 5 a j = M a j := by
    intro a ha
    rw [qg_sc_at, s1 a ha]
    by_cases h1 : a = c ∧ j < 5
    · rw [if_pos h1, h1.1, hz c (Nat.le_refl c) hc, qf_0l]
    · rw [if_neg h1]
  rw [qg_cl_at _ (by omega) _ _ _ hj, s2 a ha, s2 c hc, hz c (Nat.le_refl c) hc, qf_0r, BitVec.xor_zero]
  split <;> rfl
end QG
/-- columns 0 .. c - 1 cleared -/
def qg_J (M : Nat → Nat → BitVec 8) : Nat → (Nat → Nat → BitVec 8)
  | 0 => M
  | c + 1 => qg_clear (qg_J M c) c
theorem qw_s_trunc {f : Nat → BitVec 8} {m n : Nat} (hm : m ≤ n) (h : ∀ c, m ≤ c → c < n → f c = 0#8) : qw_s f n = qw_s f m := by
  induction n with
  | zero => have : m = 0 := by omega
            rw [this]
  | succ n ih =>
    by_cases e : m = n + 1
    · rw [e]
    · rw [qw_s, h n (by omega) (by omega), BitVec.xor_zero, ih (by omega) (fun c h1 h2 => h c h1 (by omega))]
/-- the reference's first rows: locators' powers, and what is left -/
def qg_M0 (Y R : Nat → BitVec 8) (m : Nat) : Nat → Nat → BitVec 8 := fun k c => if c < 4 then (if c < m then qf_p (Y c) k else 0#8) else R k
theorem qg_M0_L {Y R : Nat → BitVec 8} {m : Nat} (hm : m ≤ 4) (x : Nat → BitVec 8) (k : Nat) : qg_L (qg_M0 Y R m) x k = qw_s (fun c => qf_m (x c) (qf_p (Y c) k)) m ^^^ qf_m (R k) (x 4) := by
  unfold qg_L
  rw [show (5 : Nat) = 4 + 1 from rfl, qw_s, qw_s_trunc (m := m) hm (fun c h1 h2 => by
    show qf_m (qg_M0 Y R m k c) (x c) = 0#8
    unfold qg_M0
    rw [if_pos h2, if_neg (by omega), qf_0l])]
  congr 1
  refine qw_s_congr (fun c hc => ?_)
  show qf_m (qg_M0 Y R m k c) (x c) = _
  unfold qg_M0
  rw [if_pos (by omega), if_pos hc, qf_comm]
theorem qg_inv {Y R : Nat → BitVec 8} {m : Nat} (hm : m ≤ 4) (hY : ∀ i j, i < m → j < m → i ≠ j → Y i ^^^ Y j ≠ 0#8) (c : Nat) (hc : c ≤ m) :
    (∀ x, qg_K (qg_J (qg_M0 Y R m) c) x ↔ qg_K (qg_M0 Y R m) x) ∧ (∀ j, j < c → ∀ a, a < 4 → qg_J (qg_M0 Y R m) c a j = if a = j then 1#8 else 0#8) ∧ (∀ j, m ≤ j → j < 4 → ∀ a, a < 4 → qg_J (qg_M0 Y R m) c a j = 0#8) := by
  induction c with
  | zero =>
    refine ⟨fun x => Iff.rfl, fun j h => absurd h (Nat.not_lt_zero j), fun j h1 h2 a _ => ?_⟩
    show qg_M0 Y R m a j = 0#8
    unfold qg_M0
    rw [if_pos h2, if_neg (by omega)]
  | succ c ih =>
    obtain ⟨i1, i2, i3⟩ := ih (by omega)
    rw [qg_J]
    generalize hN : qg_J (qg_M0 Y R m) c = N at i1 i2 i3 ⊢
    have hex : ∃ a, c ≤ a ∧ a ≤ c + (3 - c) ∧ N a c ≠ 0#8 := by
      apply Classical.byContradiction
      intro hno
      have hz : ∀ a, c ≤ a → a < 4 → N a c = 0#8 := fun a h1 h2 => Classical.byContradiction (fun h3 => hno ⟨a, h1, by omega, h3⟩)
      -- a vector of the kernel with 1 at c
      have hK : qg_K N (fun j => if j < c then N j c else if j = c then 1#8 else 0#8) := by
        intro a ha
        unfold qg_L
        rw [qw_s_trunc (m := c + 1) (by omega) (fun b h1 h2 => by
          show qf_m _ (if b < c then N b c else if b = c then 1#8 else 0#8) = 0#8
          rw [if_neg (by omega), if_neg (by omega), qf_0r]), qw_s]
        show qw_s (fun b => qf_m (N a b) (if b < c then N b c else if b = c then 1#8 else 0#8)) c ^^^ qf_m (N a c) (if c < c then N c c else if c = c then 1#8 else 0#8) = 0#8
        rw [if_neg (Nat.lt_irrefl c), if_pos rfl, qf_1r]
        have h1 : qw_s (fun b => qf_m (N a b) (if b < c then N b c else if b = c then 1#8 else 0#8)) c = if a < c then N a c else 0#8 := by
          by_cases h2 : a < c
          · rw [if_pos h2, qw_s_one (m := a) h2 (fun b hb hne => by
              show qf_m (N a b) _ = 0#8
              rw [i2 b hb a ha, if_neg (fun e => hne e.symm), qf_0l]), i2 a h2 a ha, if_pos rfl, if_pos h2, qf_1l]
          · rw [if_neg h2]
            exact qw_s_zero (fun b hb => by
              show qf_m (N a b) _ = 0#8
              rw [i2 b hb a ha, if_neg (by omega), qf_0l])
        rw [h1]
        by_cases h2 : a < c
        · rw [if_pos h2, BitVec.xor_self]
        · rw [if_neg h2, hz a (by omega) ha, BitVec.xor_zero]
      have hK0 := (i1 _).mp hK
      have h0 := qw_van (Y := Y) (x := fun j => if j < c then N j c else if j = c then 1#8 else 0#8) hm hY (fun k hk => by
        have h := hK0 k hk
        rw [qg_M0_L hm] at h
        have e4 : (if 4 < c then N 4 c else if 4 = c then 1#8 else 0#8) = 0#8 := by rw [if_neg (by omega), if_neg (by omega)]
        rw [e4, qf_0r, BitVec.xor_zero] at h
        exact h) c (by omega)
      have h9 : (if c < c then N c c else if c = c then 1#8 else 0#8) = 0#8 := h0
      rw [if_neg (Nat.lt_irrefl c), if_pos rfl] at h9
      exact absurd h9 (by decide)
    have hp := qg_pr_nz hex
    refine ⟨fun x => (qg_clear_K (by omega) hp x).trans (i1 x), fun j hj a ha => ?_, fun j h1 h2 a ha => ?_⟩
    · by_cases e : j = c
      · rw [e]
        exact qg_clear_c (by omega) hp ha
      · rw [qg_clear_j (by omega) (by omega) (fun b h1 h2 => by rw [i2 j (by omega) b h2, if_neg (by omega)]) ha]
        exact i2 j (by omega) a ha
    · rw [qg_clear_j (by omega) (by omega) (fun b _ h4 => i3 j h1 h2 b h4) ha]
      exact i3 j h1 h2 a ha
/-- at the end: the last column holds the one solution, if there is one -/
theorem qg_end {Y R : Nat → BitVec 8} {m : Nat} (hm : m ≤ 4) (hY : ∀ i j, i < m → j < m → i ≠ j → Y i ^^^ Y j ≠ 0#8) (x : Nat → BitVec 8) :
    (∀ k, k < 4 → qw_s (fun c => qf_m (x c) (qf_p (Y c) k)) m = R k) ↔ ((∀ c, c < m → x c = qg_J (qg_M0 Y R m) m c 4) ∧ ∀ k, m ≤ k → k < 4 → qg_J (qg_M0 Y R m) m k 4 = 0#8) := by
  obtain ⟨i1, i2, i3⟩ := qg_inv (R := R) hm hY m (Nat.le_refl m)
  let y : Nat → BitVec 8 := fun c => if c < 4 then x c else 1#8
  have y4 : y 4 = 1#8 := if_neg (by omega)
  have yc : ∀ c, c < 4 → y c = x c := fun c h => if_pos h
  have a1 : qg_K (qg_M0 Y R m) y ↔ ∀ k, k < 4 → qw_s (fun c => qf_m (x c) (qf_p (Y c) k)) m = R k := by
    have e : ∀ k, qg_L (qg_M0 Y R m) y k = qw_s (fun c => qf_m (x c) (qf_p (Y c) k)) m ^^^ R k := fun k => by
      rw [qg_M0_L hm, y4, qf_1r]
      congr 1
      exact qw_s_congr (fun c hc => by rw [yc c (by omega)])
    constructor
    · intro h k hk
      have h1 := h k hk
      rw [e] at h1
      exact qf_xe h1
    · intro h k hk
      rw [e, h k hk, BitVec.xor_self]
  rw [← a1, ← i1 y]
  generalize qg_J (qg_M0 Y R m) m = N at i2 i3 ⊢
  have e : ∀ a, a < 4 → qg_L N y a = (if a < m then x a else 0#8) ^^^ N a 4 := by
    intro a ha
    unfold qg_L
    rw [show (5 : Nat) = 4 + 1 from rfl, qw_s, y4, qf_1r]
    congr 1
    by_cases h : a < m
    · rw [if_pos h, qw_s_one (m := a) ha (fun b hb hne => by
        show qf_m (N a b) (y b) = 0#8
        by_cases hbm : b < m
        · rw [i2 b hbm a ha, if_neg (fun e => hne e.symm), qf_0l]
        · rw [i3 b (by omega) hb a ha, qf_0l]), i2 a h a ha, if_pos rfl, qf_1l, yc a ha]
    · rw [if_neg h]
      exact qw_s_zero (fun b hb => by
        show qf_m (N a b) (y b) = 0#8
        by_cases hbm : b < m
        · rw [i2 b hbm a ha, if_neg (by omega), qf_0l]
        · rw [i3 b (by omega) hb a ha, qf_0l])
  constructor
  · intro h
    refine ⟨fun c hc => ?_, fun k h1 h2 => ?_⟩
    · have h3 := h c (by omega)
      rw [e c (by omega), if_pos hc] at h3
      exact qf_xe h3
    · have h3 := h k h2
      rw [e k h2, if_neg (by omega), BitVec.zero_xor] at h3
      exact h3
  · rintro ⟨h1, h2⟩ a ha
    rw [e a ha]
    by_cases h : a < m
    · rw [if_pos h, h1 a h, BitVec.xor_self]
    · rw [if_neg h, h2 a (by omega) ha, BitVec.xor_zero]
end
section
/-! the class's filling and the reference's are one; so is mending -/
def qk_p (w : Nat → BitVec 8) (d : Nat → Nat) (x : Nat → BitVec 8) : Nat → (Nat → BitVec 8)
  | 0 => w
  | c + 1 => va_up (qk_p w d x c) (d c) (x c)
theorem qk_p_out {w : Nat → BitVec 8} {d : Nat → Nat} {x : Nat → BitVec 8} {m i : Nat} (h : ∀ c, c < m → d c ≠ i) : qk_p w d x m i = w i := by
  induction m with
  | zero => rfl
  | succ m ih => rw [qk_p, va_up_ne _ _ (fun e => h m (by omega) e.symm), ih (fun c hc => h c (by omega))]
theorem qk_p_in {w : Nat → BitVec 8} {d : Nat → Nat} {x : Nat → BitVec 8} {m c : Nat} (hc : c < m) (h : ∀ a b, a < m → b < m → a ≠ b → d a ≠ d b) : qk_p w d x m (d c) = x c := by
  induction m with
  | zero => omega
  | succ m ih =>
    rw [qk_p]
    by_cases e : c = m
    · rw [e, va_up_self]
    · rw [va_up_ne _ _ (h c m (by omega) (by omega) e), ih (by omega) (fun a b ha hb => h a b (by omega) (by omega))]
/-- the sums over the symbols that aren't doubted -/
def qk_R (n : Nat) (z : Nat → Bool) (w : Nat → BitVec 8) (k : Nat) : BitVec 8 := qw_h (qf_E k) (fun i => bif z i then 0#8 else w i) n
theorem qk_one {z : Nat → Bool} {d0 : Nat → Nat} {n i : Nat} (hi : i < n) (x : Nat → BitVec 8) : qw_s (fun c => bif qd_d z d0 n c == i then x c else 0#8) (qd_c z n) = bif z i then x (qd_c z i) else 0#8 := by
  cases hz : z i with
  | true =>
    rw [cond_true, qw_s_one (m := qd_c z i) (qd_c_lt z hi hz) (fun c hc hne => by
      show (bif qd_d z d0 n c == i then x c else 0#8) = 0#8
      rw [beq_false_of_ne (fun e => hne (by rw [← (qd_d_in z d0 n c hc).2.2, e])), cond_false])]
    show (bif qd_d z d0 n (qd_c z i) == i then x (qd_c z i) else 0#8) = x (qd_c z i)
    rw [qd_d_all z d0 n hi hz, beq_self_eq_true, cond_true]
  | false =>
    rw [cond_false]
    exact qw_s_zero (fun c hc => by
      show (bif qd_d z d0 n c == i then x c else 0#8) = 0#8
      rw [beq_false_of_ne (fun e => by have h := (qd_d_in z d0 n c hc).2.1; rw [e, hz] at h; exact absurd h (by decide)), cond_false])
theorem qk_rest {z : Nat → Bool} {d0 : Nat → Nat} {n : Nat} (w : Nat → BitVec 8) (k : Nat) : qw_S n w k = qk_R n z w k ^^^ qw_s (fun c => qf_m (w (qd_d z d0 n c)) (qf_p (qw_X n (qd_d z d0 n c)) k)) (qd_c z n) := by
  have h1 := qw_a_S (n := n) (w := fun i => bif z i then 0#8 else w i) (d := qd_d z d0 n) (x := fun c => w (qd_d z d0 n c)) (m := qd_c z n) (fun c hc => (qd_d_in z d0 n c hc).1) k
  have h2 : qw_S n (qw_a (fun i => bif z i then 0#8 else w i) (qd_d z d0 n) (fun c => w (qd_d z d0 n c)) (qd_c z n)) k = qw_S n w k := qw_h_congr (fun i hi => by
    rw [qw_a_at, qk_one hi]
    cases hz : z i with
    | true => rw [cond_true, cond_true, BitVec.zero_xor, qd_d_all z d0 n hi hz]
    | false => rw [cond_false, cond_false, BitVec.xor_zero])
  rw [← h2, h1]
  rfl
/-- the class's changes -/
def qk_ch (n : Nat) (z : Nat → Bool) (d0 : Nat → Nat) (w : Nat → BitVec 8) (c : Nat) : BitVec 8 := qw_ch (fun c => qw_X n (qd_d z d0 n c)) (qw_S n w) qw_V0 (qd_c z n) c
/-- the reference's rows at the end -/
def qk_N (n : Nat) (z : Nat → Bool) (d0 : Nat → Nat) (w : Nat → BitVec 8) : Nat → Nat → BitVec 8 := qg_J (qg_M0 (fun c => qw_X n (qd_d z d0 n c)) (qk_R n z w) (qd_c z n)) (qd_c z n)
def qk_can (n : Nat) (z : Nat → Bool) (d0 : Nat → Nat) (w : Nat → BitVec 8) : Prop := ∀ k, qd_c z n ≤ k → k < 4 → qk_N n z d0 w k 4 = 0#8
theorem qk_apart {n : Nat} (hn : n ≤ 16) (z : Nat → Bool) (d0 : Nat → Nat) : ∀ i j, i < qd_c z n → j < qd_c z n → i ≠ j → qw_X n (qd_d z d0 n i) ^^^ qw_X n (qd_d z d0 n j) ≠ 0#8 := fun i j hi hj h =>
  qw_X_ne hn (qd_d_in z d0 n i hi).1 (qd_d_in z d0 n j hj).1 (qd_d_ne z d0 n hi hj h)
theorem qk_sum {z : Nat → Bool} {d0 : Nat → Nat} {n : Nat} (w : Nat → BitVec 8) (x : Nat → BitVec 8) (k : Nat) : qw_S n (qw_a w (qd_d z d0 n) x (qd_c z n)) k = qk_R n z w k ^^^ qw_s (fun c => qf_m (x c ^^^ w (qd_d z d0 n c)) (qf_p (qw_X n (qd_d z d0 n c)) k)) (qd_c z n) := by
  rw [qw_a_S (fun c hc => (qd_d_in z d0 n c hc).1), qk_rest (z := z) (d0 := d0), BitVec.xor_assoc, ← qw_s_x]
  congr 1
  exact qw_s_congr (fun c _ => by rw [qf_m_l, BitVec.xor_comm])
section QK
variable {n : Nat} {z : Nat → Bool} {d0 : Nat → Nat} {w : Nat → BitVec 8}
theorem qk_word (hn : n ≤ 16) (hm : qd_c z n ≤ 4) (x : Nat → BitVec 8) : qw_W n (qw_a w (qd_d z d0 n) x (qd_c z n)) ↔ ((∀ c, c < qd_c z n → x c ^^^ w (qd_d z d0 n c) = qk_N n z d0 w c 4) ∧ qk_can n z d0 w) := by
  rw [show ((∀ c, c < qd_c z n → x c ^^^ w (qd_d z d0 n c) = qk_N n z d0 w c 4) ∧ qk_can n z d0 w) ↔ _ from (qg_end hm (qk_apart hn z d0) (fun c => x c ^^^ w (qd_d z d0 n c))).symm]
  constructor
  · intro h k hk
    have h1 := h k hk
    rw [qk_sum] at h1
    exact (qf_xe h1).symm
  · intro h k hk
    rw [qk_sum, h k hk, BitVec.xor_self]
theorem qk_good (hn : n ≤ 16) (hm : qd_c z n ≤ 4) : qw_W n (qw_a w (qd_d z d0 n) (qk_ch n z d0 w) (qd_c z n)) ↔ qk_can n z d0 w := by
  constructor
  · intro h
    exact ((qk_word hn hm _).mp h).2
  · intro h
    have hw := (qk_word (w := w) hn hm (fun c => qk_N n z d0 w c 4 ^^^ w (qd_d z d0 n c))).mpr ⟨fun c _ => by rw [BitVec.xor_assoc, BitVec.xor_self, BitVec.xor_zero], h⟩
    have e : ∀ c, c < qd_c z n → qk_ch n z d0 w c = qk_N n z d0 w c 4 ^^^ w (qd_d z d0 n c) := fun c hc => by
      refine qw_ch_ok (Y := fun c => qw_X n (qd_d z d0 n c)) (x := fun c => qk_N n z d0 w c 4 ^^^ w (qd_d z d0 n c)) hc hm (qk_apart hn z d0) (fun k hk => ?_)
      have h1 := hw k hk
      rw [qw_a_S (fun c hc => (qd_d_in z d0 n c hc).1)] at h1
      exact qf_xe h1
    intro k hk
    rw [qw_a_S (fun c hc => (qd_d_in z d0 n c hc).1), qw_s_congr (fun c hc => by rw [e c hc]), ← qw_a_S (fun c hc => (qd_d_in z d0 n c hc).1)]
    exact hw k hk
theorem qk_same (hn : n ≤ 16) (hm : qd_c z n ≤ 4) (h : qk_can n z d0 w) {i : Nat} (hi : i < n) : qw_a w (qd_d z d0 n) (qk_ch n z d0 w) (qd_c z n) i = qk_p w (qd_d z d0 n) (fun c => qk_N n z d0 w c 4) (qd_c z n) i := by
  have h1 := ((qk_word hn hm _).mp ((qk_good hn hm).mpr h)).1
  rw [qw_a_at, qk_one hi]
  cases hz : z i with
  | true =>
    rw [cond_true]
    have hc := qd_c_lt z hi hz
    have e := qk_p_in (w := w) (d := qd_d z d0 n) (x := fun c => qk_N n z d0 w c 4) hc (fun a b ha hb hne => qd_d_ne z d0 n ha hb hne)
    have hd := qd_d_all z d0 n hi hz
    have h2 := h1 _ hc
    rw [hd] at e h2
    rw [e, ← h2, BitVec.xor_comm]
  | false =>
    rw [cond_false, BitVec.xor_zero, qk_p_out (fun c hc e => by have h := (qd_d_in z d0 n c hc).2.1; rw [e, hz] at h; exact absurd h (by decide))]
end QK
/-- mending: the sums that a fault at i alone leaves -/
def qk_F (w : Nat → BitVec 8) (i : Nat) : Prop := ∀ k, 0 < k → k < 4 → qf_m (qw_S 16 w 0) (qf_p (qw_X 16 i) k) = qw_S 16 w k
theorem qk_mend {w : Nat → BitVec 8} (hw : ¬ qw_W 16 w) {i : Nat} (hi : i < 16) : (qw_S 16 w 0 ≠ 0#8 ∧ qw_W 16 (va_up w i (w i ^^^ qw_S 16 w 0))) ↔ qk_F w i := by
  constructor
  · rintro ⟨-, h⟩ k h0 h4
    have h1 := h k h4
    rw [qw_S_up hi] at h1
    exact (qf_xe h1).symm
  · intro h
    refine ⟨fun e => hw (fun k hk => ?_), fun k hk => ?_⟩
    · by_cases k0 : k = 0
      · rw [k0]; exact e
      · rw [← h k (by omega) hk, e, qf_0l]
    · rw [qw_S_up hi]
      by_cases k0 : k = 0
      · rw [k0, qf_p, qf_1r, BitVec.xor_self]
      · rw [h k (by omega) hk, BitVec.xor_self]
theorem qk_undo (w : Nat → BitVec 8) (i : Nat) (d : BitVec 8) : va_up (va_up w i (w i ^^^ d)) i (va_up w i (w i ^^^ d) i ^^^ d) = w := by
  funext j
  by_cases h : j = i
  · rw [h, va_up_self, va_up_self, BitVec.xor_assoc, BitVec.xor_self, BitVec.xor_zero]
  · rw [va_up_ne _ _ h, va_up_ne _ _ h]
end
section
/-! rows of our own: symbols (qS: BitVec 8), numbers (qN), truth values (qZ) in locals and arrays -/
def sI (a : BitVec 8) : Int32 := nI a.toNat
def zI (b : Bool) : Int32 := nI (bif b then 1 else 0)
def qS (f : Nat → BitVec 8) : Nat → Int32 := fun j => sI (f j)
def qN (f : Nat → Nat) : Nat → Int32 := fun j => nI (f j)
def qZ (f : Nat → Bool) : Nat → Int32 := fun j => zI (f j)
theorem qr_xorN (a b : Nat) : nI a ^^^ nI b = nI (a ^^^ b) := by
  apply Int32.toBitVec_inj.1
  show BitVec.ofNat 32 a ^^^ BitVec.ofNat 32 b = BitVec.ofNat 32 (a ^^^ b)
  apply BitVec.eq_of_getLsbD_eq
  intro i hi
  simp [hi]
theorem sI_lt (a : BitVec 8) : a.toNat < 256 := a.isLt
theorem sI_inj {a b : BitVec 8} : sI a = sI b ↔ a = b := by
  constructor
  · intro h
    have h1 := (nI_eq (by have := a.isLt; omega) (by have := b.isLt; omega)).mp h
    exact BitVec.eq_of_toNat_eq h1
  · intro h; rw [h]
theorem sI_0 : sI 0#8 = 0 := rfl
theorem sI_eq0 {a : BitVec 8} : sI a = 0 ↔ a = 0#8 := by rw [← sI_0]; exact sI_inj
theorem sI_xor (a b : BitVec 8) : sI a ^^^ sI b = sI (a ^^^ b) := by
  unfold sI
  rw [qr_xorN, BitVec.toNat_xor]
theorem zI_eq0 {b : Bool} : zI b = 0 ↔ b = false := by cases b <;> decide
theorem qS_up (f : Nat → BitVec 8) (k : Nat) (x : BitVec 8) : upd (qS f) k (sI x) = qS (va_up f k x) := by
  funext j
  unfold upd qS va_up
  split <;> rfl
theorem qN_up (f : Nat → Nat) (k : Nat) (x : Nat) : upd (qN f) k (nI x) = qN (va_up f k x) := by
  funext j
  unfold upd qN va_up
  split <;> rfl
theorem qZ_nar (b : Bool) : vp_nar .boolean (zI b) = zI b := by cases b <;> decide
theorem qZ_up (f : Nat → Bool) (k : Nat) (x : Bool) : upd (qZ f) k (vp_nar .boolean (zI x)) = qZ (va_up f k x) := by
  rw [qZ_nar]
  funext j
  unfold upd qZ va_up
  split <;> rfl
theorem qr_inc (a : Nat) : nI a + Int32.ofInt 1 = nI (a + 1) := nI_1 a
theorem qr_dec (a : Nat) : nI (a + 1) + Int32.ofInt (-1) = nI a := pk_m1 a
theorem qr_sI {n : Nat} (h : n < 256) : nI n = sI (BitVec.ofNat 8 n) := by
  unfold sI
  rw [BitVec.toNat_ofNat, Nat.mod_eq_of_lt (by omega)]
theorem qr_flip_b : ∀ n, n < 256 → nI 255 - nI n = nI (BitVec.toNat (255#8 ^^^ BitVec.ofNat 8 n)) := by decide +kernel
theorem qr_flip (a : BitVec 8) : nI 255 - sI a = sI (255#8 ^^^ a) := qf_all (P := fun a => nI 255 - sI a = sI (255#8 ^^^ a)) (fun n hn => by
  show nI 255 - nI (BitVec.ofNat 8 n).toNat = _
  rw [BitVec.toNat_ofNat, Nat.mod_eq_of_lt (by omega)]
  exact qr_flip_b n hn) a
section QR
variable {p : Program} {l : Launch} {e : Env} {R : Room} {s : State} {m : MethodId} {args : Array Value} {below : List Frame} {meth : Method} {c : Code} {H : Heap} {locs : List Loc} {cells slots : Nat} {Q : State → Prop}
variable {cc : ByteArray} {pc : Nat} {ls : Array Slot} {rest : List Value} {D : va_G} {cl : List vw_C} {tys : List (ClassId × FieldType)} {ws : va_W} {A : Nat → Prop} {H0 : Heap} {a : Nat}
theorem qr_nm (k : ∀ Q', Q' = Q → W p l e R s m args below meth c H locs cells slots Q' (F0 m pc ls rest)) : W p l e R s m args below meth c H locs cells slots Q (F0 m pc ls rest) := k Q rfl
theorem qr_iadd {x y z : Int32} (hexec : p.tables.exec = Jvm.exec) (hb : c.code = cc) (hdg : decode cc pc = .ok (.iadd, 1)) (hz : x + y = z) (k : W p l e R s m args below meth c H locs cells slots Q (F0 m (pc + 1) ls (.int z :: rest))) : W p l e R s m args below meth c H locs cells slots Q (F0 m pc ls (.int y :: .int x :: rest)) := by
  subst hz; exact lv_iadd hexec hb hdg k
theorem qr_isub {x y z : Int32} (hexec : p.tables.exec = Jvm.exec) (hb : c.code = cc) (hdg : decode cc pc = .ok (.isub, 1)) (hz : x - y = z) (k : W p l e R s m args below meth c H locs cells slots Q (F0 m (pc + 1) ls (.int z :: rest))) : W p l e R s m args below meth c H locs cells slots Q (F0 m pc ls (.int y :: .int x :: rest)) := by
  subst hz; exact lv_isub hexec hb hdg k
theorem qr_imul {x y z : Int32} (hexec : p.tables.exec = Jvm.exec) (hb : c.code = cc) (hdg : decode cc pc = .ok (.imul, 1)) (hz : x * y = z) (k : W p l e R s m args below meth c H locs cells slots Q (F0 m (pc + 1) ls (.int z :: rest))) : W p l e R s m args below meth c H locs cells slots Q (F0 m pc ls (.int y :: .int x :: rest)) := by
  subst hz; exact lv_imul hexec hb hdg k
theorem qr_ixor {x y z : Int32} (hexec : p.tables.exec = Jvm.exec) (hb : c.code = cc) (hdg : decode cc pc = .ok (.ixor, 1)) (hz : x ^^^ y = z) (k : W p l e R s m args below meth c H locs cells slots Q (F0 m (pc + 1) ls (.int z :: rest))) : W p l e R s m args below meth c H locs cells slots Q (F0 m pc ls (.int y :: .int x :: rest)) := by
  subst hz; exact lv_ixor hexec hb hdg k
theorem qr_iand {x y z : Int32} (hexec : p.tables.exec = Jvm.exec) (hb : c.code = cc) (hdg : decode cc pc = .ok (.iand, 1)) (hz : x &&& y = z) (k : W p l e R s m args below meth c H locs cells slots Q (F0 m (pc + 1) ls (.int z :: rest))) : W p l e R s m args below meth c H locs cells slots Q (F0 m pc ls (.int y :: .int x :: rest)) := by
  subst hz; exact lv_iand hexec hb hdg k
theorem qr_ishl {x y z : Int32} (hexec : p.tables.exec = Jvm.exec) (hb : c.code = cc) (hdg : decode cc pc = .ok (.ishl, 1)) (hz : x <<< (y &&& 31) = z) (k : W p l e R s m args below meth c H locs cells slots Q (F0 m (pc + 1) ls (.int z :: rest))) : W p l e R s m args below meth c H locs cells slots Q (F0 m pc ls (.int y :: .int x :: rest)) := by
  subst hz; exact lv_ishl hexec hb hdg k
theorem qr_ishr {x y z : Int32} (hexec : p.tables.exec = Jvm.exec) (hb : c.code = cc) (hdg : decode cc pc = .ok (.ishr, 1)) (hz : x >>> (y &&& 31) = z) (k : W p l e R s m args below meth c H locs cells slots Q (F0 m (pc + 1) ls (.int z :: rest))) : W p l e R s m args below meth c H locs cells slots Q (F0 m pc ls (.int y :: .int x :: rest)) := by
  subst hz; exact lv_ishr hexec hb hdg k
theorem qr_idiv {x y z : Int32} (hexec : p.tables.exec = Jvm.exec) (hb : c.code = cc) (hdg : decode cc pc = .ok (.idiv, 1)) (hne : ¬ y = 0) (hz : x / y = z) (k : W p l e R s m args below meth c H locs cells slots Q (F0 m (pc + 1) ls (.int z :: rest))) : W p l e R s m args below meth c H locs cells slots Q (F0 m pc ls (.int y :: .int x :: rest)) := by
  subst hz; exact lv_idiv hexec hb hdg hne k
theorem qr_irem {x y z : Int32} (hexec : p.tables.exec = Jvm.exec) (hb : c.code = cc) (hdg : decode cc pc = .ok (.irem, 1)) (hne : ¬ y = 0) (hz : x - x / y * y = z) (k : W p l e R s m args below meth c H locs cells slots Q (F0 m (pc + 1) ls (.int z :: rest))) : W p l e R s m args below meth c H locs cells slots Q (F0 m pc ls (.int y :: .int x :: rest)) := by
  subst hz; exact lv_irem hexec hb hdg hne k
theorem qr_ge {x y : Nat} {off : Int} {tgt : Nat} (hexec : p.tables.exec = Jvm.exec) (hb : c.code = cc) (hdg : decode cc pc = .ok (.if_icmp .ge off, 3)) (ht : (pc : Int) + off = (tgt : Int)) (hx : x < 2 ^ 31) (hy : y < 2 ^ 31)
    (kt : y ≤ x → W p l e R s m args below meth c H locs cells slots Q (F0 m tgt ls rest)) (kf : x < y → W p l e R s m args below meth c H locs cells slots Q (F0 m (pc + 3) ls rest)) : W p l e R s m args below meth c H locs cells slots Q (F0 m pc ls (.int (nI y) :: .int (nI x) :: rest)) :=
  lv_icmp_ge hexec hb hdg ht (fun h => kt ((nI_leI hy hx).mp h)) (fun h => kf (Nat.lt_of_not_le (fun h2 => h ((nI_leI hy hx).mpr h2))))
theorem qr_gt {x y : Nat} {off : Int} {tgt : Nat} (hexec : p.tables.exec = Jvm.exec) (hb : c.code = cc) (hdg : decode cc pc = .ok (.if_icmp .gt off, 3)) (ht : (pc : Int) + off = (tgt : Int)) (hx : x < 2 ^ 31) (hy : y < 2 ^ 31)
    (kt : y < x → W p l e R s m args below meth c H locs cells slots Q (F0 m tgt ls rest)) (kf : x ≤ y → W p l e R s m args below meth c H locs cells slots Q (F0 m (pc + 3) ls rest)) : W p l e R s m args below meth c H locs cells slots Q (F0 m pc ls (.int (nI y) :: .int (nI x) :: rest)) :=
  lv_icmp_gt hexec hb hdg ht (fun h => kt ((nI_ltI hy hx).mp h)) (fun h => kf (Nat.le_of_not_lt (fun h2 => h ((nI_ltI hy hx).mpr h2))))
theorem qr_lt {x y : Nat} {off : Int} {tgt : Nat} (hexec : p.tables.exec = Jvm.exec) (hb : c.code = cc) (hdg : decode cc pc = .ok (.if_icmp .lt off, 3)) (ht : (pc : Int) + off = (tgt : Int)) (hx : x < 2 ^ 31) (hy : y < 2 ^ 31)
    (kt : x < y → W p l e R s m args below meth c H locs cells slots Q (F0 m tgt ls rest)) (kf : y ≤ x → W p l e R s m args below meth c H locs cells slots Q (F0 m (pc + 3) ls rest)) : W p l e R s m args below meth c H locs cells slots Q (F0 m pc ls (.int (nI y) :: .int (nI x) :: rest)) :=
  lv_icmp_lt hexec hb hdg ht (fun h => kt ((nI_ltI hx hy).mp h)) (fun h => kf (Nat.le_of_not_lt (fun h2 => h ((nI_ltI hx hy).mpr h2))))
theorem qr_le {x y : Nat} {off : Int} {tgt : Nat} (hexec : p.tables.exec = Jvm.exec) (hb : c.code = cc) (hdg : decode cc pc = .ok (.if_icmp .le off, 3)) (ht : (pc : Int) + off = (tgt : Int)) (hx : x < 2 ^ 31) (hy : y < 2 ^ 31)
    (kt : x ≤ y → W p l e R s m args below meth c H locs cells slots Q (F0 m tgt ls rest)) (kf : y < x → W p l e R s m args below meth c H locs cells slots Q (F0 m (pc + 3) ls rest)) : W p l e R s m args below meth c H locs cells slots Q (F0 m pc ls (.int (nI y) :: .int (nI x) :: rest)) :=
  lv_icmp_le hexec hb hdg ht (fun h => kt ((nI_leI hx hy).mp h)) (fun h => kf (Nat.lt_of_not_le (fun h2 => h ((nI_leI hx hy).mpr h2))))
theorem qr_eqN {x y : Nat} {off : Int} {tgt : Nat} (hexec : p.tables.exec = Jvm.exec) (hb : c.code = cc) (hdg : decode cc pc = .ok (.if_icmp .eq off, 3)) (ht : (pc : Int) + off = (tgt : Int)) (hx : x < 2 ^ 31) (hy : y < 2 ^ 31)
    (kt : x = y → W p l e R s m args below meth c H locs cells slots Q (F0 m tgt ls rest)) (kf : x ≠ y → W p l e R s m args below meth c H locs cells slots Q (F0 m (pc + 3) ls rest)) : W p l e R s m args below meth c H locs cells slots Q (F0 m pc ls (.int (nI y) :: .int (nI x) :: rest)) :=
  lv_icmp_eq hexec hb hdg ht (fun h => kt ((nI_eq hx hy).mp h)) (fun h => kf (fun h2 => h ((nI_eq hx hy).mpr h2)))
theorem qr_neN {x y : Nat} {off : Int} {tgt : Nat} (hexec : p.tables.exec = Jvm.exec) (hb : c.code = cc) (hdg : decode cc pc = .ok (.if_icmp .ne off, 3)) (ht : (pc : Int) + off = (tgt : Int)) (hx : x < 2 ^ 31) (hy : y < 2 ^ 31)
    (kt : x ≠ y → W p l e R s m args below meth c H locs cells slots Q (F0 m tgt ls rest)) (kf : x = y → W p l e R s m args below meth c H locs cells slots Q (F0 m (pc + 3) ls rest)) : W p l e R s m args below meth c H locs cells slots Q (F0 m pc ls (.int (nI y) :: .int (nI x) :: rest)) :=
  lv_icmp_ne hexec hb hdg ht (fun h => kt (fun h2 => h ((nI_eq hx hy).mpr h2))) (fun h => kf ((nI_eq hx hy).mp h))
theorem qr_eqS {x y : BitVec 8} {off : Int} {tgt : Nat} (hexec : p.tables.exec = Jvm.exec) (hb : c.code = cc) (hdg : decode cc pc = .ok (.if_icmp .eq off, 3)) (ht : (pc : Int) + off = (tgt : Int))
    (kt : x = y → W p l e R s m args below meth c H locs cells slots Q (F0 m tgt ls rest)) (kf : x ≠ y → W p l e R s m args below meth c H locs cells slots Q (F0 m (pc + 3) ls rest)) : W p l e R s m args below meth c H locs cells slots Q (F0 m pc ls (.int (sI y) :: .int (sI x) :: rest)) :=
  lv_icmp_eq hexec hb hdg ht (fun h => kt (sI_inj.mp h)) (fun h => kf (fun h2 => h (sI_inj.mpr h2)))
theorem qr_ifeqS {x : BitVec 8} {off : Int} {tgt : Nat} (hexec : p.tables.exec = Jvm.exec) (hb : c.code = cc) (hdg : decode cc pc = .ok (.ifCond .eq off, 3)) (ht : (pc : Int) + off = (tgt : Int))
    (kt : x = 0#8 → W p l e R s m args below meth c H locs cells slots Q (F0 m tgt ls rest)) (kf : x ≠ 0#8 → W p l e R s m args below meth c H locs cells slots Q (F0 m (pc + 3) ls rest)) : W p l e R s m args below meth c H locs cells slots Q (F0 m pc ls (.int (sI x) :: rest)) :=
  lv_if_eq hexec hb hdg ht (fun h => kt (sI_eq0.mp h)) (fun h => kf (fun h2 => h (sI_eq0.mpr h2)))
theorem qr_ifneS {x : BitVec 8} {off : Int} {tgt : Nat} (hexec : p.tables.exec = Jvm.exec) (hb : c.code = cc) (hdg : decode cc pc = .ok (.ifCond .ne off, 3)) (ht : (pc : Int) + off = (tgt : Int))
    (kt : x ≠ 0#8 → W p l e R s m args below meth c H locs cells slots Q (F0 m tgt ls rest)) (kf : x = 0#8 → W p l e R s m args below meth c H locs cells slots Q (F0 m (pc + 3) ls rest)) : W p l e R s m args below meth c H locs cells slots Q (F0 m pc ls (.int (sI x) :: rest)) :=
  lv_if_ne hexec hb hdg ht (fun h => kt (fun h2 => h (sI_eq0.mpr h2))) (fun h => kf (sI_eq0.mp h))
theorem qr_ifeqZ {x : Bool} {off : Int} {tgt : Nat} (hexec : p.tables.exec = Jvm.exec) (hb : c.code = cc) (hdg : decode cc pc = .ok (.ifCond .eq off, 3)) (ht : (pc : Int) + off = (tgt : Int))
    (kt : x = false → W p l e R s m args below meth c H locs cells slots Q (F0 m tgt ls rest)) (kf : x = true → W p l e R s m args below meth c H locs cells slots Q (F0 m (pc + 3) ls rest)) : W p l e R s m args below meth c H locs cells slots Q (F0 m pc ls (.int (zI x) :: rest)) :=
  lv_if_eq hexec hb hdg ht (fun h => kt (zI_eq0.mp h)) (fun h => kf (by cases x with | true => rfl | false => exact absurd (zI_eq0.mpr rfl) h))
theorem qr_ifneZ {x : Bool} {off : Int} {tgt : Nat} (hexec : p.tables.exec = Jvm.exec) (hb : c.code = cc) (hdg : decode cc pc = .ok (.ifCond .ne off, 3)) (ht : (pc : Int) + off = (tgt : Int))
    (kt : x = true → W p l e R s m args below meth c H locs cells slots Q (F0 m tgt ls rest)) (kf : x = false → W p l e R s m args below meth c H locs cells slots Q (F0 m (pc + 3) ls rest)) : W p l e R s m args below meth c H locs cells slots Q (F0 m pc ls (.int (zI x) :: rest)) :=
  lv_if_ne hexec hb hdg ht (fun h => kt (by cases x with | true => rfl | false => exact absurd (zI_eq0.mpr rfl) h)) (fun h => kf (zI_eq0.mp h))
theorem qr_ildS (hexec : p.tables.exec = Jvm.exec) (hb : c.code = cc) (hK : va_K D cl tys s) (hP : va_P D cl ws H) (q0 t0 : Nat) {cA : ClassId} {n : Nat} {f : Nat → BitVec 8} (ha : ws[q0]? = some (a, .inl (cA, n, .inl (qS f)))) (ht : tys[t0]? = some (cA, .int)) {i : Nat} (hi : i < n) (hn : n < 2 ^ 31) (hdg : decode cc pc = .ok (.iaload, 1))
    (kk : W p l e R s m args below meth c H locs cells slots Q (F0 m (pc + 1) ls (.int (sI (f i)) :: rest))) : W p l e R s m args below meth c H locs cells slots Q (F0 m pc ls (.int (nI i) :: .ref a :: rest)) := by
  refine va_iald hexec hb hK hP q0 t0 ha ht (vp_in_nI hi hn) hdg ?_
  rw [nI_clamp (by omega)]
  exact kk
theorem qr_ildN (hexec : p.tables.exec = Jvm.exec) (hb : c.code = cc) (hK : va_K D cl tys s) (hP : va_P D cl ws H) (q0 t0 : Nat) {cA : ClassId} {n : Nat} {f : Nat → Nat} (ha : ws[q0]? = some (a, .inl (cA, n, .inl (qN f)))) (ht : tys[t0]? = some (cA, .int)) {i : Nat} (hi : i < n) (hn : n < 2 ^ 31) (hdg : decode cc pc = .ok (.iaload, 1))
    (kk : W p l e R s m args below meth c H locs cells slots Q (F0 m (pc + 1) ls (.int (nI (f i)) :: rest))) : W p l e R s m args below meth c H locs cells slots Q (F0 m pc ls (.int (nI i) :: .ref a :: rest)) := by
  refine va_iald hexec hb hK hP q0 t0 ha ht (vp_in_nI hi hn) hdg ?_
  rw [nI_clamp (by omega)]
  exact kk
theorem qr_zld (hexec : p.tables.exec = Jvm.exec) (hb : c.code = cc) (hK : va_K D cl tys s) (hP : va_P D cl ws H) (q0 t0 : Nat) {cA : ClassId} {n : Nat} {f : Nat → Bool} (ha : ws[q0]? = some (a, .inl (cA, n, .inl (qZ f)))) (ht : tys[t0]? = some (cA, .boolean)) {i : Nat} (hi : i < n) (hn : n < 2 ^ 31) (hdg : decode cc pc = .ok (.baload, 1))
    (kk : W p l e R s m args below meth c H locs cells slots Q (F0 m (pc + 1) ls (.int (zI (f i)) :: rest))) : W p l e R s m args below meth c H locs cells slots Q (F0 m pc ls (.int (nI i) :: .ref a :: rest)) := by
  refine va_zald hexec hb hK hP q0 t0 ha ht (vp_in_nI hi hn) hdg ?_
  rw [nI_clamp (by omega)]
  exact kk
theorem qr_istS (hexec : p.tables.exec = Jvm.exec) (hb : c.code = cc) (hK : va_K D cl tys s) (hP : va_P D cl ws H) (hD : va_D A ws) (hS : va_S A H0 H locs) (q0 t0 : Nat) {cA : ClassId} {n : Nat} {f : Nat → BitVec 8} (ha : ws[q0]? = some (a, .inl (cA, n, .inl (qS f)))) (ht : tys[t0]? = some (cA, .int)) {i : Nat} {x : BitVec 8} (hi : i < n) (hn : n < 2 ^ 31) (hdg : decode cc pc = .ok (.iastore, 1))
    (kk : ∀ (H1 : Heap) (locs1 : List Loc), va_P D cl (ws.set q0 (a, .inl (cA, n, .inl (qS (va_up f i x))))) H1 → va_D A (ws.set q0 (a, .inl (cA, n, .inl (qS (va_up f i x))))) → va_S A H0 H1 locs1 → W p l e R s m args below meth c H1 locs1 cells slots Q (F0 m (pc + 1) ls rest)) : W p l e R s m args below meth c H locs cells slots Q (F0 m pc ls (.int (sI x) :: .int (nI i) :: .ref a :: rest)) := by
  refine va_iast hexec hb hK hP hD hS q0 t0 ha ht (vp_in_nI hi hn) hdg (fun H1 locs1 h1 h2 h3 => ?_)
  rw [nI_clamp (by omega), qS_up] at h1 h2
  exact kk H1 locs1 h1 h2 h3
theorem qr_istN (hexec : p.tables.exec = Jvm.exec) (hb : c.code = cc) (hK : va_K D cl tys s) (hP : va_P D cl ws H) (hD : va_D A ws) (hS : va_S A H0 H locs) (q0 t0 : Nat) {cA : ClassId} {n : Nat} {f : Nat → Nat} (ha : ws[q0]? = some (a, .inl (cA, n, .inl (qN f)))) (ht : tys[t0]? = some (cA, .int)) {i x : Nat} (hi : i < n) (hn : n < 2 ^ 31) (hdg : decode cc pc = .ok (.iastore, 1))
    (kk : ∀ (H1 : Heap) (locs1 : List Loc), va_P D cl (ws.set q0 (a, .inl (cA, n, .inl (qN (va_up f i x))))) H1 → va_D A (ws.set q0 (a, .inl (cA, n, .inl (qN (va_up f i x))))) → va_S A H0 H1 locs1 → W p l e R s m args below meth c H1 locs1 cells slots Q (F0 m (pc + 1) ls rest)) : W p l e R s m args below meth c H locs cells slots Q (F0 m pc ls (.int (nI x) :: .int (nI i) :: .ref a :: rest)) := by
  refine va_iast hexec hb hK hP hD hS q0 t0 ha ht (vp_in_nI hi hn) hdg (fun H1 locs1 h1 h2 h3 => ?_)
  rw [nI_clamp (by omega), qN_up] at h1 h2
  exact kk H1 locs1 h1 h2 h3
theorem qr_zst (hexec : p.tables.exec = Jvm.exec) (hb : c.code = cc) (hK : va_K D cl tys s) (hP : va_P D cl ws H) (hD : va_D A ws) (hS : va_S A H0 H locs) (q0 t0 : Nat) {cA : ClassId} {n : Nat} {f : Nat → Bool} (ha : ws[q0]? = some (a, .inl (cA, n, .inl (qZ f)))) (ht : tys[t0]? = some (cA, .boolean)) {i : Nat} {x : Bool} (hi : i < n) (hn : n < 2 ^ 31) (hdg : decode cc pc = .ok (.bastore, 1))
    (kk : ∀ (H1 : Heap) (locs1 : List Loc), va_P D cl (ws.set q0 (a, .inl (cA, n, .inl (qZ (va_up f i x))))) H1 → va_D A (ws.set q0 (a, .inl (cA, n, .inl (qZ (va_up f i x))))) → va_S A H0 H1 locs1 → W p l e R s m args below meth c H1 locs1 cells slots Q (F0 m (pc + 1) ls rest)) : W p l e R s m args below meth c H locs cells slots Q (F0 m pc ls (.int (zI x) :: .int (nI i) :: .ref a :: rest)) := by
  refine va_zast hexec hb hK hP hD hS q0 t0 ha ht (vp_in_nI hi hn) hdg (fun H1 locs1 h1 h2 h3 => ?_)
  rw [nI_clamp (by omega), qZ_up] at h1 h2
  exact kk H1 locs1 h1 h2 h3
end QR
/-! one product: the shifts of the machine and those of the field -/
theorem qr_sh_b : ∀ n, n < 256 → (if nI 255 < nI n <<< (nI 1 &&& 31) then (nI n <<< (nI 1 &&& 31)) ^^^ nI 285 else nI n <<< (nI 1 &&& 31)) = nI (qf_x (BitVec.ofNat 8 n)).toNat := by decide +kernel
theorem qr_bit_b : ∀ n, n < 256 → ∀ k, k < 8 → ((nI n >>> (nI k &&& 31)) &&& nI 1) = nI (bif (BitVec.ofNat 8 n).getLsbD k then 1 else 0) := by decide +kernel
theorem qr_sh (a : BitVec 8) : (if nI 255 < sI a <<< (nI 1 &&& 31) then (sI a <<< (nI 1 &&& 31)) ^^^ nI 285 else sI a <<< (nI 1 &&& 31)) = sI (qf_x a) := qf_all (P := fun a => (if nI 255 < sI a <<< (nI 1 &&& 31) then (sI a <<< (nI 1 &&& 31)) ^^^ nI 285 else sI a <<< (nI 1 &&& 31)) = sI (qf_x a)) (fun n hn => by
  have e : sI (BitVec.ofNat 8 n) = nI n := (qr_sI hn).symm
  rw [e]
  exact qr_sh_b n hn) a
theorem qr_bit (b : BitVec 8) {k : Nat} (hk : k < 8) : ((sI b >>> (nI k &&& 31)) &&& nI 1) = zI (b.getLsbD k) := qf_all (P := fun b => ((sI b >>> (nI k &&& 31)) &&& nI 1) = zI (b.getLsbD k)) (fun n hn => by
  have e : sI (BitVec.ofNat 8 n) = nI n := (qr_sI hn).symm
  rw [e]
  exact qr_bit_b n hn k hk) b
end
section
/-! what the loops of the class's Word and Field do, in the field's words -/
theorem qr_narZ (b : Bool) : narrow .boolean (.int (zI b)) = .int (zI b) := by cases b <;> rfl
/-- the sums, laid one behind the other -/
def qm_su (n : Nat) (w su : Nat → BitVec 8) : Nat → (Nat → BitVec 8)
  | 0 => su
  | k + 1 => va_up (qm_su n w su k) k (qw_S n w k)
theorem qm_su_at {n : Nat} {w su : Nat → BitVec 8} {k m : Nat} (h : k < m) : qm_su n w su m k = qw_S n w k := by
  induction m with
  | zero => omega
  | succ m ih =>
    rw [qm_su]
    by_cases e : k = m
    · rw [e, va_up_self]
    · rw [va_up_ne _ _ e, ih (by omega)]
/-- a times x, k times -/
def qm_ex (a x : BitVec 8) : Nat → BitVec 8
  | 0 => a
  | k + 1 => qf_m (qm_ex a x k) x
theorem qm_ex_p (a x : BitVec 8) (k : Nat) : qm_ex a x k = qf_m a (qf_p x k) := by
  induction k with
  | zero => exact (qf_1r a).symm
  | succ k ih => rw [qm_ex, ih, qf_p, qf_assoc]
/-- the first weights -/
def qm_st (V : Nat → BitVec 8) : Nat → (Nat → BitVec 8)
  | 0 => va_up V 0 1#8
  | k + 1 => va_up (qm_st V k) (k + 1) 0#8
theorem qm_st_0 (V : Nat → BitVec 8) : qm_st V 3 0 = 1#8 := rfl
theorem qm_st_k (V : Nat → BitVec 8) : ∀ k, 0 < k → k < 4 → qm_st V 3 k = 0#8 := by
  intro k h1 h2
  rcases (show k = 1 ∨ k = 2 ∨ k = 3 by omega) with rfl | rfl | rfl <;> rfl
/-- a root more, from the top down to place c -/
def qm_ar (V : Nat → BitVec 8) (r : BitVec 8) (c : Nat) : Nat → BitVec 8 := fun j => if c < j ∧ j < 4 then qf_m (V j) r ^^^ V (j - 1) else V j
theorem qm_ar_3 (V : Nat → BitVec 8) (r : BitVec 8) : qm_ar V r 3 = V := by
  funext j
  unfold qm_ar
  rw [if_neg (by omega)]
theorem qm_ar_s (V : Nat → BitVec 8) (r : BitVec 8) {c : Nat} (hc : c + 1 < 4) : qm_ar V r c = va_up (qm_ar V r (c + 1)) (c + 1) (qf_m (qm_ar V r (c + 1) (c + 1)) r ^^^ qm_ar V r (c + 1) (c + 1 - 1)) := by
  funext j
  have e1 : qm_ar V r (c + 1) (c + 1) = V (c + 1) := by unfold qm_ar; rw [if_neg (by omega)]
  have e2 : qm_ar V r (c + 1) (c + 1 - 1) = V (c + 1 - 1) := by unfold qm_ar; rw [if_neg (by omega)]
  rw [e1, e2]
  by_cases h : j = c + 1
  · rw [h, va_up_self]
    unfold qm_ar
    rw [if_pos (by omega)]
  · rw [va_up_ne _ _ h]
    unfold qm_ar
    by_cases h2 : c < j ∧ j < 4
    · rw [if_pos h2, if_pos (by omega)]
    · rw [if_neg h2, if_neg (by omega)]
theorem qm_ar_r (V : Nat → BitVec 8) (r : BitVec 8) : va_up (qm_ar V r 0) 0 (qf_m (qm_ar V r 0 0) r) = qw_r V r := by
  funext j
  have e1 : qm_ar V r 0 0 = V 0 := by unfold qm_ar; rw [if_neg (by omega)]
  rw [e1]
  by_cases h : j = 0
  · rw [h, va_up_self]
    rfl
  · rw [va_up_ne _ _ h]
    unfold qm_ar qw_r
    rw [if_neg h]
    by_cases h2 : j < 4
    · rw [if_pos (by omega), if_pos h2]
    · rw [if_neg (by omega), if_neg h2]
theorem qm_V_congr {Y V0 V1 : Nat → BitVec 8} {m : Nat} (h : ∀ k, k < 4 → V0 k = V1 k) (o : Nat) : ∀ k, k < 4 → qw_V Y m V0 o k = qw_V Y m V1 o k := by
  induction o with
  | zero => exact h
  | succ o ih =>
    intro k hk
    rw [qw_V, qw_V]
    by_cases e : o = m
    · rw [if_pos e, if_pos e]
      exact ih k hk
    · rw [if_neg e, if_neg e]
      unfold qw_r
      rw [ih 0 (by omega), ih k hk, ih (k - 1) (by omega)]
theorem qm_V_Y {Y Z V0 : Nat → BitVec 8} {m : Nat} (o : Nat) (h : ∀ c, c < o → Y c = Z c) : qw_V Y m V0 o = qw_V Z m V0 o := by
  induction o with
  | zero => rfl
  | succ o ih => rw [qw_V, qw_V, ih (fun c hc => h c (by omega)), h o (by omega)]
theorem qm_e_Y {Y Z : Nat → BitVec 8} {m : Nat} {x : BitVec 8} (o : Nat) (h : ∀ c, c < o → Y c = Z c) : qw_e Y m x o = qw_e Z m x o := by
  induction o with
  | zero => rfl
  | succ o ih => rw [qw_e, qw_e, ih (fun c hc => h c (by omega)), h o (by omega)]
/-- the change at m as the class counts it is qw_ch -/
theorem qm_ch {Y Z S T we : Nat → BitVec 8} {m n : Nat} (hm : m < n) (hY : ∀ c, c < n → Y c = Z c) (hS : ∀ k, k < 4 → S k = T k) : qf_m (qw_s (fun k => qf_m (qw_V Y m (qm_st we 3) n k) (S k)) 4) (qf_i (qw_e Y m (Y m) n)) = qw_ch Z T qw_V0 n m := by
  unfold qw_ch
  rw [qm_V_Y n hY, qm_e_Y n hY, hY m hm]
  congr 1
  refine qw_s_congr (fun k hk => ?_)
  rw [hS k hk, qm_V_congr (V1 := qw_V0) (fun k hk => ?_) n k hk]
  by_cases h0 : k = 0
  · rw [h0]; rfl
  · rw [qm_st_k we k (by omega) hk]
    exact (if_neg h0).symm
/-- the changes laid one behind the other -/
def qm_cs (ch x : Nat → BitVec 8) : Nat → (Nat → BitVec 8)
  | 0 => ch
  | c + 1 => va_up (qm_cs ch x c) c (x c)
theorem qm_cs_at {ch x : Nat → BitVec 8} {c m : Nat} (h : c < m) : qm_cs ch x m c = x c := by
  induction m with
  | zero => omega
  | succ m ih =>
    rw [qm_cs]
    by_cases e : c = m
    · rw [e, va_up_self]
    · rw [va_up_ne _ _ e, ih (by omega)]
theorem qw_a_congr {w : Nat → BitVec 8} {d : Nat → Nat} {x y : Nat → BitVec 8} {m : Nat} (h : ∀ c, c < m → x c = y c) : qw_a w d x m = qw_a w d y m := by
  induction m with
  | zero => rfl
  | succ m ih => rw [qw_a, qw_a, ih (fun c hc => h c (by omega)), h m (by omega)]
/-- the last four doubted -/
def qm_mc (n : Nat) (z : Nat → Bool) : Nat → (Nat → Bool)
  | 0 => z
  | i + 1 => va_up (qm_mc n z i) i (decide (n - 4 ≤ i))
theorem qm_mc_at {n : Nat} {z : Nat → Bool} {i m : Nat} (h : i < m) : qm_mc n z m i = decide (n - 4 ≤ i) := by
  induction m with
  | zero => omega
  | succ m ih =>
    rw [qm_mc]
    by_cases e : i = m
    · rw [e, va_up_self]
    · rw [va_up_ne _ _ e, ih (by omega)]
/-- the eight bytes -/
def qm_by (x : Int64) (i : Nat) : BitVec 8 := BitVec.ofNat 8 (x.toBitVec.toNat / 2 ^ (8 * i))
def qm_bw (x : Int64) (w : Nat → BitVec 8) : Nat → (Nat → BitVec 8)
  | 0 => w
  | i + 1 => va_up (qm_bw x w i) i (qm_by x i)
theorem qm_bw_at {x : Int64} {w : Nat → BitVec 8} {i m : Nat} (h : i < m) : qm_bw x w m i = qm_by x i := by
  induction m with
  | zero => omega
  | succ m ih =>
    rw [qm_bw]
    by_cases e : i = m
    · rw [e, va_up_self]
    · rw [va_up_ne _ _ e, ih (by omega)]
/-- the long shifted down by i bytes -/
def qm_sx (x : Int64) (i : Nat) : Int64 := (x.toUInt64 >>> ((nI (8 * i)).toInt64.toUInt64 &&& Int64.toUInt64 63)).toInt64
theorem qm_sx_n (x : Int64) {i : Nat} (hi : i < 8) : (qm_sx x i).toBitVec.toNat = x.toBitVec.toNat / 2 ^ (8 * i) := by
  have e : ∀ k, k < 64 → ((nI k).toInt64.toUInt64 &&& Int64.toUInt64 63) = UInt64.ofNat k := by decide +kernel
  unfold qm_sx
  rw [e (8 * i) (by omega)]
  show (x.toUInt64 >>> UInt64.ofNat (8 * i)).toBitVec.toNat = _
  have h1 : (x.toUInt64 >>> UInt64.ofNat (8 * i)).toNat = x.toUInt64.toNat >>> ((UInt64.ofNat (8 * i)).toNat % 64) := UInt64.toNat_shiftRight ..
  have h2 : (UInt64.ofNat (8 * i)).toNat = 8 * i := by rw [UInt64.toNat_ofNat']; omega
  rw [h2, Nat.mod_eq_of_lt (by omega), Nat.shiftRight_eq_div_pow] at h1
  exact h1
theorem qm_byte (x : Int64) {i : Nat} (hi : i < 8) : (qm_sx x i).toInt32 &&& nI 255 = sI (qm_by x i) := by
  rw [pk_and _ 8 (by decide)]
  unfold sI qm_by
  rw [BitVec.toNat_ofNat, ← qm_sx_n x hi]
  congr 1
  show (BitVec.toNat (BitVec.signExtend 32 (qm_sx x i).toBitVec)) % 2 ^ 8 = _
  rw [BitVec.signExtend_eq_setWidth_of_le _ (by decide), BitVec.toNat_setWidth]
  omega
theorem qm_mc_4 {n : Nat} (z : Nat → Bool) (h : 4 ≤ n) : qd_c (qm_mc n z n) n = 4 := by
  have key : ∀ i, i ≤ n → qd_c (qm_mc n z n) i = i - (n - 4) := by
    intro i
    induction i with
    | zero => intro _; show 0 = 0 - (n - 4); omega
    | succ i ih =>
      intro hi
      rw [qd_c, qm_mc_at (by omega), ih (by omega)]
      by_cases e : n - 4 ≤ i
      · rw [decide_eq_true e, cond_true]; omega
      · rw [decide_eq_false e, cond_false]; omega
  rw [key n (Nat.le_refl n)]
  omega
/-- a fault at i alone, by the class's rows of sums and locators -/
theorem qm_F2 {n : Nat} {w lo su : Nat → BitVec 8} (hn : n = 16) (hlo : ∀ i, i < n → lo i = qw_X n i) {i : Nat} (hi : i < n) (h : ∀ k, 0 < k → k < 4 → qf_m (qm_su n w su 4 0) (qf_p (lo i) k) = qm_su n w su 4 k) : qk_F w i := by
  subst hn
  intro k h1 h2
  have h3 := h k h1 h2
  rw [qm_su_at (by omega), qm_su_at h2, hlo i hi] at h3
  exact h3
theorem qm_F {n : Nat} {w lo su : Nat → BitVec 8} (hn : n = 16) (hlo : ∀ i, i < n → lo i = qw_X n i) {i : Nat} (hi : i < n) (h : qk_F w i) : ∀ k, 0 < k → k < 4 → qf_m (qm_su n w su 4 0) (qf_p (lo i) k) = qm_su n w su 4 k := by
  subst hn
  intro k h1 h2
  rw [qm_su_at (by omega), qm_su_at h2, hlo i hi]
  exact h k h1 h2
theorem qm_pos {a : BitVec 8} (h : a ≠ 0#8) : ¬ sI a ≤ 0 := nI_nle (by
  rcases Nat.eq_zero_or_pos a.toNat with h1 | h1
  · exact absurd (BitVec.eq_of_toNat_eq (by rw [h1]; rfl)) h
  · exact h1) (by have := a.isLt; omega)
/-- the long shifted down by i bytes, its sign kept -/
def qm_rx (x : Int64) (i : Nat) : Int64 := x >>> ((nI (8 * i)).toInt64 &&& 63)
end
section
/-! the filling depends on what stands below n alone -/
theorem qd_c_congr {z y : Nat → Bool} {n : Nat} (h : ∀ i, i < n → z i = y i) : qd_c z n = qd_c y n := by
  induction n with
  | zero => rfl
  | succ n ih => rw [qd_c, qd_c, ih (fun i hi => h i (by omega)), h n (by omega)]
theorem qd_d_congr {z y : Nat → Bool} {d : Nat → Nat} {n : Nat} (h : ∀ i, i < n → z i = y i) : qd_d z d n = qd_d y d n := by
  induction n with
  | zero => rfl
  | succ n ih => rw [qd_d, qd_d, ih (fun i hi => h i (by omega)), h n (by omega), qd_c_congr (fun i hi => h i (by omega))]
theorem qk_R_congr {z y : Nat → Bool} {w v : Nat → BitVec 8} {n : Nat} (h : ∀ i, i < n → z i = y i) (hw : ∀ i, i < n → w i = v i) : qk_R n z w = qk_R n y v := by
  funext k
  unfold qk_R
  exact qw_h_congr (fun i hi => by rw [h i hi, hw i hi])
theorem qk_N_congr {z y : Nat → Bool} {w v : Nat → BitVec 8} {d e : Nat → Nat} {n : Nat} (h : ∀ i, i < n → z i = y i) (hw : ∀ i, i < n → w i = v i) : qk_N n z d w = qk_N n y e v := by
  unfold qk_N
  rw [qk_R_congr h hw, qd_c_congr h]
  congr 1
  funext k c
  unfold qg_M0
  by_cases h4 : c < 4
  · rw [if_pos h4, if_pos h4]
    by_cases hc : c < qd_c y n
    · rw [if_pos hc, if_pos hc, qd_d_congr h]
      show qf_p (qw_X n (qd_d y d n c)) k = qf_p (qw_X n (qd_d y e n c)) k
      rw [qd_d_any y d e n hc]
    · rw [if_neg hc, if_neg hc]
  · rw [if_neg h4, if_neg h4]
theorem qk_can_congr {z y : Nat → Bool} {w v : Nat → BitVec 8} {d e : Nat → Nat} {n : Nat} (h : ∀ i, i < n → z i = y i) (hw : ∀ i, i < n → w i = v i) : qk_can n z d w ↔ qk_can n y e v := by
  unfold qk_can
  rw [qk_N_congr (d := d) (e := e) h hw, qd_c_congr h]
theorem qk_p_congr {w v : Nat → BitVec 8} {d e : Nat → Nat} {x y : Nat → BitVec 8} {m i : Nat} (hw : w i = v i) (hd : ∀ c, c < m → d c = e c) (hx : ∀ c, c < m → x c = y c) : qk_p w d x m i = qk_p v e y m i := by
  induction m with
  | zero => exact hw
  | succ m ih =>
    rw [qk_p, qk_p, hd m (by omega), hx m (by omega)]
    by_cases h : i = e m
    · rw [h, va_up_self, va_up_self]
    · rw [va_up_ne _ _ h, va_up_ne _ _ h, ih (fun c hc => hd c (by omega)) (fun c hc => hx c (by omega))]
/-- class and reference, both filled: the same symbols below n -/
theorem qk_both {n : Nat} (hn : n ≤ 16) {z y : Nat → Bool} {w v : Nat → BitVec 8} {d e : Nat → Nat} (hm : qd_c z n ≤ 4) (h : ∀ i, i < n → z i = y i) (hw : ∀ i, i < n → w i = v i) (hc : qk_can n z d w) {i : Nat} (hi : i < n) : qw_a w (qd_d z d n) (qk_ch n z d w) (qd_c z n) i = qk_p v (qd_d y e n) (fun c => qk_N n y e v c 4) (qd_c y n) i := by
  rw [qk_same hn hm hc hi, ← qd_c_congr h]
  refine qk_p_congr (hw i hi) (fun c hc => ?_) (fun c _ => ?_)
  · rw [qd_d_congr h]
    exact qd_d_any y d e n (by rw [← qd_c_congr h]; exact hc)
  · rw [qk_N_congr (d := d) (e := e) h hw]
/-- the reference's last four -/
def qm_fi (n : Nat) (z : Nat → Bool) : Nat → (Nat → Bool)
  | 0 => z
  | i + 1 => va_up (qm_fi n z i) i (decide (n - 4 ≤ i) && decide (i < n))
theorem qm_fi_at {n : Nat} {z : Nat → Bool} {i m : Nat} (h : i < m) : qm_fi n z m i = (decide (n - 4 ≤ i) && decide (i < n)) := by
  induction m with
  | zero => omega
  | succ m ih =>
    rw [qm_fi]
    by_cases e : i = m
    · rw [e, va_up_self]
    · rw [va_up_ne _ _ e, ih (by omega)]
theorem qm_fi_mc {n : Nat} (hn : n ≤ 16) (z y : Nat → Bool) : ∀ i, i < n → qm_mc n z n i = qm_fi n y 16 i := by
  intro i hi
  rw [qm_mc_at hi, qm_fi_at (by omega), decide_eq_true hi, Bool.and_true]
theorem qm_fi_4 {n : Nat} (hn : n ≤ 16) (z : Nat → Bool) (h : 4 ≤ n) : qd_c (qm_fi n z 16) n = 4 := by
  rw [← qd_c_congr (qm_fi_mc hn z z), qm_mc_4 z h]
end
section
/-! the reference's rows: a 4 by 5 table laid flat -/
def qg_f (M : Nat → Nat → BitVec 8) : Nat → BitVec 8 := fun j => M (j / 5) (j % 5)
theorem qg_f_at (M : Nat → Nat → BitVec 8) {r c : Nat} (hc : c < 5) : qg_f M (5 * r + c) = M r c := by
  unfold qg_f
  rw [show (5 * r + c) / 5 = r by omega, show (5 * r + c) % 5 = c by omega]
theorem qg_f_up (M : Nat → Nat → BitVec 8) {r c : Nat} (hc : c < 5) (x : BitVec 8) : va_up (qg_f M) (5 * r + c) x = qg_f (qg_up M r c x) := by
  funext j
  unfold va_up qg_f qg_up
  by_cases h : j = 5 * r + c
  · rw [if_pos h, if_pos ⟨by omega, by omega⟩]
  · rw [if_neg h, if_neg (by omega)]
section QG2
variable {p : Program} {l : Launch} {e : Env} {R : Room} {s : State} {m : MethodId} {args : Array Value} {below : List Frame} {meth : Method} {c : Code} {H : Heap} {locs : List Loc} {cells slots : Nat} {Q : State → Prop}
variable {cc : ByteArray} {pc : Nat} {ls : Array Slot} {rest : List Value} {D : va_G} {cl : List vw_C} {tys : List (ClassId × FieldType)} {ws : va_W} {A : Nat → Prop} {H0 : Heap} {a : Nat}
theorem qr_ildG (hexec : p.tables.exec = Jvm.exec) (hb : c.code = cc) (hK : va_K D cl tys s) (hP : va_P D cl ws H) (q0 t0 : Nat) {cA : ClassId} {M : Nat → Nat → BitVec 8} (ha : ws[q0]? = some (a, .inl (cA, 20, .inl (qS (qg_f M))))) (ht : tys[t0]? = some (cA, .int)) {i j : Nat} (hi : i < 4) (hj : j < 5) (hdg : decode cc pc = .ok (.iaload, 1))
    (kk : W p l e R s m args below meth c H locs cells slots Q (F0 m (pc + 1) ls (.int (sI (M i j)) :: rest))) : W p l e R s m args below meth c H locs cells slots Q (F0 m pc ls (.int (nI (5 * i + j)) :: .ref a :: rest)) := by
  refine qr_ildS hexec hb hK hP q0 t0 ha ht (by omega) (by omega) hdg ?_
  rw [qg_f_at M hj]
  exact kk
theorem qr_istG (hexec : p.tables.exec = Jvm.exec) (hb : c.code = cc) (hK : va_K D cl tys s) (hP : va_P D cl ws H) (hD : va_D A ws) (hS : va_S A H0 H locs) (q0 t0 : Nat) {cA : ClassId} {M : Nat → Nat → BitVec 8} (ha : ws[q0]? = some (a, .inl (cA, 20, .inl (qS (qg_f M))))) (ht : tys[t0]? = some (cA, .int)) {i j : Nat} {x : BitVec 8} (hi : i < 4) (hj : j < 5) (hdg : decode cc pc = .ok (.iastore, 1))
    (kk : ∀ (H1 : Heap) (locs1 : List Loc), va_P D cl (ws.set q0 (a, .inl (cA, 20, .inl (qS (qg_f (qg_up M i j x)))))) H1 → va_D A (ws.set q0 (a, .inl (cA, 20, .inl (qS (qg_f (qg_up M i j x)))))) → va_S A H0 H1 locs1 → W p l e R s m args below meth c H1 locs1 cells slots Q (F0 m (pc + 1) ls rest)) : W p l e R s m args below meth c H locs cells slots Q (F0 m pc ls (.int (sI x) :: .int (nI (5 * i + j)) :: .ref a :: rest)) := by
  refine qr_istS hexec hb hK hP hD hS q0 t0 ha ht (by omega) (by omega) hdg (fun H1 locs1 h1 h2 h3 => ?_)
  rw [qg_f_up M hj] at h1 h2
  exact kk H1 locs1 h1 h2 h3
end QG2
theorem qr_cell (cA : ClassId) {n : Nat} {f g : Nat → Int32} (h : ∀ j, j < n → f j = g j) : vp_cell cA (n, .inl f) = vp_cell cA (n, .inl g) := by
  rw [vp_cell_i, vp_cell_i]
  unfold arrV
  congr 1
  apply congrArg
  funext j
  exact congrArg Value.int (h j.val j.isLt)
theorem qr_same {D : va_G} {cl : List vw_C} {A : Nat → Prop} {ws : va_W} {H : Heap} (hP : va_P D cl ws H) (hD : va_D A ws) (q0 : Nat) {a : Nat} {cA : ClassId} {n : Nat} {f g : Nat → Int32} (ha : ws[q0]? = some (a, .inl (cA, n, .inl f))) (h : ∀ j, j < n → f j = g j) : va_P D cl (ws.set q0 (a, .inl (cA, n, .inl g))) H ∧ va_D A (ws.set q0 (a, .inl (cA, n, .inl g))) := by
  refine ⟨hP.set hD ha ?_ (fun _ _ => rfl), hD.set ha⟩
  show H[a]? = some (vp_cell cA (n, .inl g))
  rw [← qr_cell cA h]
  exact hP q0 _ ha
theorem qr_one : ∀ k, k < 4 → nI 1 <<< (nI k &&& 31) = nI (qf_E k).toNat := by decide +kernel
theorem qr_shE {k : Nat} (h : k < 4) : nI 1 <<< (nI k &&& 31) = sI (qf_E k) := qr_one k h
theorem zI_eq1 {b : Bool} : zI b = nI 1 ↔ b = true := by cases b <;> decide
section QG3
variable {p : Program} {l : Launch} {e : Env} {R : Room} {s : State} {m : MethodId} {args : Array Value} {below : List Frame} {meth : Method} {c : Code} {H : Heap} {locs : List Loc} {cells slots : Nat} {Q : State → Prop}
variable {cc : ByteArray} {pc : Nat} {ls : Array Slot} {rest : List Value}
theorem qr_ne1Z {x : Bool} {off : Int} {tgt : Nat} (hexec : p.tables.exec = Jvm.exec) (hb : c.code = cc) (hdg : decode cc pc = .ok (.if_icmp .ne off, 3)) (ht : (pc : Int) + off = (tgt : Int))
    (kt : x = false → W p l e R s m args below meth c H locs cells slots Q (F0 m tgt ls rest)) (kf : x = true → W p l e R s m args below meth c H locs cells slots Q (F0 m (pc + 3) ls rest)) : W p l e R s m args below meth c H locs cells slots Q (F0 m pc ls (.int (nI 1) :: .int (zI x) :: rest)) :=
  lv_icmp_ne hexec hb hdg ht (fun h => kt (by cases x with | false => rfl | true => exact absurd (zI_eq1.mpr rfl) h)) (fun h => kf (zI_eq1.mp h))
end QG3
theorem qm_W4 {n : Nat} {w : Nat → BitVec 8} (h0 : qw_S n w 0 = 0#8) (h1 : qw_S n w 1 = 0#8) (h2 : qw_S n w 2 = 0#8) (h3 : qw_S n w 3 = 0#8) : qw_W n w := by
  intro k hk
  rcases (show k = 0 ∨ k = 1 ∨ k = 2 ∨ k = 3 by omega) with rfl | rfl | rfl | rfl
  · exact h0
  · exact h1
  · exact h2
  · exact h3
/-! the reference's first rows, laid place by place -/
def qm_rc (N : Nat → Nat → BitVec 8) (k : Nat) (F : Nat → BitVec 8) : Nat → (Nat → Nat → BitVec 8)
  | 0 => N
  | c + 1 => qg_up (qm_rc N k F c) k c (F c)
theorem qm_rc_at (N : Nat → Nat → BitVec 8) (k : Nat) (F : Nat → BitVec 8) (m a b : Nat) : qm_rc N k F m a b = if a = k ∧ b < m then F b else N a b := by
  induction m with
  | zero => rw [if_neg (by omega)]; rfl
  | succ m ih =>
    rw [qm_rc]
    by_cases h : a = k ∧ b = m
    · obtain ⟨rfl, rfl⟩ := h
      rw [qg_up_s, if_pos (by omega)]
    · rw [qg_up_n _ _ (by omega), ih]
      by_cases h2 : a = k ∧ b < m
      · rw [if_pos h2, if_pos (by omega)]
      · rw [if_neg h2, if_neg (by omega)]
def qm_ro (M : Nat → Nat → BitVec 8) (F : Nat → Nat → BitVec 8) (R : Nat → BitVec 8) : Nat → (Nat → Nat → BitVec 8)
  | 0 => M
  | k + 1 => qg_up (qm_rc (qm_ro M F R k) k (F k) 4) k 4 (R k)
theorem qm_ro_at (M : Nat → Nat → BitVec 8) (F : Nat → Nat → BitVec 8) (R : Nat → BitVec 8) (m a b : Nat) (hb : b < 5) : qm_ro M F R m a b = if a < m then (if b < 4 then F a b else R a) else M a b := by
  induction m with
  | zero => rw [if_neg (by omega)]; rfl
  | succ m ih =>
    rw [qm_ro]
    by_cases h : a = m
    · subst h
      rw [if_pos (by omega)]
      by_cases h4 : b < 4
      · rw [qg_up_n _ _ (by omega), qm_rc_at, if_pos ⟨rfl, h4⟩, if_pos h4]
      · have : b = 4 := by omega
        subst this
        rw [qg_up_s, if_neg (by omega)]
    · rw [qg_up_n _ _ (Or.inl h), qm_rc_at, if_neg (by omega), ih]
      by_cases h2 : a < m
      · rw [if_pos h2, if_pos (show a < m + 1 by omega)]
      · rw [if_neg h2, if_neg (show ¬ a < m + 1 by omega)]
def qm_F0 (n m : Nat) (d : Nat → Nat) : Nat → Nat → BitVec 8 := fun k c => if c < m then qf_E (k * (n - 1 - d c)) else 0#8
theorem qm_ro_M0 (M : Nat → Nat → BitVec 8) (n m : Nat) (d : Nat → Nat) (R : Nat → BitVec 8) : ∀ j, j < 20 → qS (qg_f (qm_ro M (qm_F0 n m d) R 4)) j = qS (qg_f (qg_M0 (fun c => qw_X n (d c)) R m)) j := by
  intro j hj
  unfold qS qg_f
  rw [qm_ro_at _ _ _ _ _ _ (by omega), if_pos (by omega)]
  unfold qg_M0 qm_F0
  by_cases h : j % 5 < 4
  · rw [if_pos h, if_pos h]
    by_cases h2 : j % 5 < m
    · rw [if_pos h2, if_pos h2, Nat.mul_comm, qf_E_p]
      rfl
    · rw [if_neg h2, if_neg h2]
  · rw [if_neg h, if_neg h]
end
section
def RX0 : String := "DiscCoder$Disc"
def TX0 : u_T := fun k => match k with
  | 0 => ("DiscCoder$Disc", "symbols", "[I", true)
  | 1 => ("DiscCoder$Disc", "rowsWritten", "I", false)
  | _ => ("DiscCoder$Disc", "rowsRead", "I", false)
def tyX0 : Nat → FieldType := fun k => match k with
  | 0 => .array .int
  | 1 => .int
  | _ => .int
abbrev wsX00 : List Cond := u_ws RX0 TX0 3
theorem nmX0 : ∀ a, a < 3 → ∀ b, b < 3 → a ≠ b → (TX0 a).2.1 ≠ (TX0 b).2.1 := by decide +kernel
theorem tyX0_ok : ∀ k, k < 3 → parseFieldDescriptor (TX0 k).2.2.1 = some (tyX0 k) := by decide +kernel
def RX1 : String := "DiscCoder$Field"
def TX1 : u_T := fun k => match k with
  | _ => ("", "", "", false)
def tyX1 : Nat → FieldType := fun k => match k with
  | _ => .int
abbrev wsX10 : List Cond := u_ws RX1 TX1 0
theorem nmX1 : ∀ a, a < 0 → ∀ b, b < 0 → a ≠ b → (TX1 a).2.1 ≠ (TX1 b).2.1 := by decide +kernel
theorem tyX1_ok : ∀ k, k < 0 → parseFieldDescriptor (TX1 k).2.2.1 = some (tyX1 k) := by decide +kernel
def RX2 : String := "DiscCoder$Reader"
def TX2 : u_T := fun k => match k with
  | 0 => ("DiscCoder$Reader", "disc", "LDiscCoder$Disc;", true)
  | 1 => ("DiscCoder$Reader", "inner", "LDiscCoder$Word;", true)
  | 2 => ("DiscCoder$Reader", "outer", "LDiscCoder$Word;", true)
  | 3 => ("DiscCoder$Reader", "outerWords", "[[I", true)
  | 4 => ("DiscCoder$Reader", "outerDoubted", "[Z", true)
  | 5 => ("DiscCoder$Reader", "output", "[I", true)
  | 6 => ("DiscCoder$Reader", "lost", "[Z", true)
  | 7 => ("DiscCoder$Reader", "wordsMended", "I", false)
  | 8 => ("DiscCoder$Reader", "wordsDoubted", "I", false)
  | 9 => ("DiscCoder$Reader", "symbolsFilled", "I", false)
  | _ => ("DiscCoder$Reader", "wordsLost", "I", false)
def tyX2 : Nat → FieldType := fun k => match k with
  | 0 => .object "DiscCoder$Disc"
  | 1 => .object "DiscCoder$Word"
  | 2 => .object "DiscCoder$Word"
  | 3 => .array (.array .int)
  | 4 => .array .boolean
  | 5 => .array .int
  | 6 => .array .boolean
  | 7 => .int
  | 8 => .int
  | 9 => .int
  | _ => .int
abbrev wsX20 : List Cond := u_ws RX2 TX2 11
theorem nmX2 : ∀ a, a < 11 → ∀ b, b < 11 → a ≠ b → (TX2 a).2.1 ≠ (TX2 b).2.1 := by decide +kernel
theorem tyX2_ok : ∀ k, k < 11 → parseFieldDescriptor (TX2 k).2.2.1 = some (tyX2 k) := by decide +kernel
def RX3 : String := "DiscCoder$Word"
def TX3 : u_T := fun k => match k with
  | 0 => ("DiscCoder$Word", "size", "I", true)
  | 1 => ("DiscCoder$Word", "symbols", "[I", true)
  | 2 => ("DiscCoder$Word", "doubted", "[Z", true)
  | 3 => ("DiscCoder$Word", "locators", "[I", true)
  | 4 => ("DiscCoder$Word", "sums", "[I", true)
  | 5 => ("DiscCoder$Word", "doubtedAt", "[I", true)
  | 6 => ("DiscCoder$Word", "changes", "[I", true)
  | _ => ("DiscCoder$Word", "weights", "[I", true)
def tyX3 : Nat → FieldType := fun k => match k with
  | 0 => .int
  | 1 => .array .int
  | 2 => .array .boolean
  | 3 => .array .int
  | 4 => .array .int
  | 5 => .array .int
  | 6 => .array .int
  | _ => .array .int
abbrev wsX30 : List Cond := u_ws RX3 TX3 8
theorem nmX3 : ∀ a, a < 8 → ∀ b, b < 8 → a ≠ b → (TX3 a).2.1 ≠ (TX3 b).2.1 := by decide +kernel
theorem tyX3_ok : ∀ k, k < 8 → parseFieldDescriptor (TX3 k).2.2.1 = some (tyX3 k) := by decide +kernel
def RX4 : String := "DiscCoder$Writer"
def TX4 : u_T := fun k => match k with
  | 0 => ("DiscCoder$Writer", "disc", "LDiscCoder$Disc;", true)
  | 1 => ("DiscCoder$Writer", "inner", "LDiscCoder$Word;", true)
  | 2 => ("DiscCoder$Writer", "outer", "LDiscCoder$Word;", true)
  | 3 => ("DiscCoder$Writer", "innerWords", "[[I", true)
  | _ => ("DiscCoder$Writer", "outerBefore", "[I", true)
def tyX4 : Nat → FieldType := fun k => match k with
  | 0 => .object "DiscCoder$Disc"
  | 1 => .object "DiscCoder$Word"
  | 2 => .object "DiscCoder$Word"
  | 3 => .array (.array .int)
  | _ => .array .int
abbrev wsX40 : List Cond := u_ws RX4 TX4 5
theorem nmX4 : ∀ a, a < 5 → ∀ b, b < 5 → a ≠ b → (TX4 a).2.1 ≠ (TX4 b).2.1 := by decide +kernel
theorem tyX4_ok : ∀ k, k < 5 → parseFieldDescriptor (TX4 k).2.2.1 = some (tyX4 k) := by decide +kernel
def RX5 : String := "DiscCoder"
def TX5 : u_T := fun k => match k with
  | 0 => ("DiscCoder", "inner", "LDiscCoder$Word;", true)
  | 1 => ("DiscCoder", "disc", "LDiscCoder$Disc;", true)
  | 2 => ("DiscCoder", "writer", "LDiscCoder$Writer;", true)
  | _ => ("DiscCoder", "reader", "LDiscCoder$Reader;", true)
def tyX5 : Nat → FieldType := fun k => match k with
  | 0 => .object "DiscCoder$Word"
  | 1 => .object "DiscCoder$Disc"
  | 2 => .object "DiscCoder$Writer"
  | _ => .object "DiscCoder$Reader"
abbrev wsX50 : List Cond := u_ws RX5 TX5 4
theorem nmX5 : ∀ a, a < 4 → ∀ b, b < 4 → a ≠ b → (TX5 a).2.1 ≠ (TX5 b).2.1 := by decide +kernel
theorem tyX5_ok : ∀ k, k < 4 → parseFieldDescriptor (TX5 k).2.2.1 = some (tyX5 k) := by decide +kernel
def RX6 : String := "DiscCoderModel"
def TX6 : u_T := fun k => match k with
  | 0 => ("DiscCoderModel", "code", "I", false)
  | 1 => ("DiscCoderModel", "frames", "I", false)
  | 2 => ("DiscCoderModel", "inner", "[I", true)
  | 3 => ("DiscCoderModel", "outer", "[I", true)
  | 4 => ("DiscCoderModel", "disc", "[I", true)
  | 5 => ("DiscCoderModel", "done", "I", false)
  | 6 => ("DiscCoderModel", "got", "[I", true)
  | 7 => ("DiscCoderModel", "right", "[I", true)
  | 8 => ("DiscCoderModel", "doubted", "[Z", true)
  | 9 => ("DiscCoderModel", "output", "[I", true)
  | 10 => ("DiscCoderModel", "flags", "[Z", true)
  | 11 => ("DiscCoderModel", "mended", "I", false)
  | 12 => ("DiscCoderModel", "doubts", "I", false)
  | 13 => ("DiscCoderModel", "filled", "I", false)
  | 14 => ("DiscCoderModel", "lost", "I", false)
  | 15 => ("DiscCoderModel", "word", "[I", true)
  | 16 => ("DiscCoderModel", "missing", "[Z", true)
  | 17 => ("DiscCoderModel", "rows", "[I", true)
  | _ => ("DiscCoderModel", "places", "[I", true)
def tyX6 : Nat → FieldType := fun k => match k with
  | 0 => .int
  | 1 => .int
  | 2 => .array .int
  | 3 => .array .int
  | 4 => .array .int
  | 5 => .int
  | 6 => .array .int
  | 7 => .array .int
  | 8 => .array .boolean
  | 9 => .array .int
  | 10 => .array .boolean
  | 11 => .int
  | 12 => .int
  | 13 => .int
  | 14 => .int
  | 15 => .array .int
  | 16 => .array .boolean
  | 17 => .array .int
  | _ => .array .int
abbrev wsX60 : List Cond := u_ws RX6 TX6 19
theorem nmX6 : ∀ a, a < 19 → ∀ b, b < 19 → a ≠ b → (TX6 a).2.1 ≠ (TX6 b).2.1 := by decide +kernel
theorem tyX6_ok : ∀ k, k < 19 → parseFieldDescriptor (TX6 k).2.2.1 = some (tyX6 k) := by decide +kernel
def RL : String := "DiscCoderLaw"
abbrev vwCl : List vw_C := [(RX0, TX0, 3), (RX2, TX2, 11), (RX3, TX3, 8), (RX4, TX4, 5), (RX5, TX5, 4), (RX6, TX6, 19)]
abbrev cX0_init : ByteArray := prog_2_method_1_code
def yX0_init : MethodName := ⟨RX0, "<init>", "()V"⟩
abbrev cX0_has : ByteArray := prog_2_method_2_code
def yX0_has : MethodName := ⟨RX0, "has", "(II)Z"⟩
abbrev cX0_setPlain : ByteArray := prog_2_method_3_code
def yX0_setPlain : MethodName := ⟨RX0, "setPlain", "(III)V"⟩
abbrev cX0_getPlain : ByteArray := prog_2_method_4_code
def yX0_getPlain : MethodName := ⟨RX0, "getPlain", "(II)I"⟩
abbrev cX0_turned : ByteArray := prog_2_method_5_code
def yX0_turned : MethodName := ⟨RX0, "turned", "(II)I"⟩
abbrev cX1_holds : ByteArray := prog_3_method_2_code
def yX1_holds : MethodName := ⟨RX1, "holds", "(I)Z"⟩
abbrev cX1_times : ByteArray := prog_3_method_3_code
def yX1_times : MethodName := ⟨RX1, "times", "(II)I"⟩
abbrev cX1_inverse : ByteArray := prog_3_method_4_code
def yX1_inverse : MethodName := ⟨RX1, "inverse", "(I)I"⟩
abbrev cX2_init : ByteArray := prog_4_method_1_code
def yX2_init : MethodName := ⟨RX2, "<init>", "(LDiscCoder$Disc;LDiscCoder$Word;LDiscCoder$Word;)V"⟩
abbrev cX2_readRow : ByteArray := prog_4_method_2_code
def yX2_readRow : MethodName := ⟨RX2, "readRow", "()Z"⟩
abbrev cX2_gatherOuter : ByteArray := prog_4_method_3_code
def yX2_gatherOuter : MethodName := ⟨RX2, "gatherOuter", "(I)V"⟩
abbrev cX2_rightOuter : ByteArray := prog_4_method_4_code
def yX2_rightOuter : MethodName := ⟨RX2, "rightOuter", "(I)V"⟩
abbrev cX2_gatherInner : ByteArray := prog_4_method_5_code
def yX2_gatherInner : MethodName := ⟨RX2, "gatherInner", "(I)V"⟩
abbrev cX2_rightInner : ByteArray := prog_4_method_6_code
def yX2_rightInner : MethodName := ⟨RX2, "rightInner", "(I)V"⟩
abbrev cX3_init : ByteArray := prog_5_method_1_code
def yX3_init : MethodName := ⟨RX3, "<init>", "(I)V"⟩
abbrev cX3_beginWith : ByteArray := prog_5_method_2_code
def yX3_beginWith : MethodName := ⟨RX3, "beginWith", "(J)V"⟩
abbrev cX3_makeChecks : ByteArray := prog_5_method_3_code
def yX3_makeChecks : MethodName := ⟨RX3, "makeChecks", "()V"⟩
abbrev cX3_isWord : ByteArray := prog_5_method_4_code
def yX3_isWord : MethodName := ⟨RX3, "isWord", "()Z"⟩
abbrev cX3_makeSums : ByteArray := prog_5_method_5_code
def yX3_makeSums : MethodName := ⟨RX3, "makeSums", "()V"⟩
abbrev cX3_mendOne : ByteArray := prog_5_method_6_code
def yX3_mendOne : MethodName := ⟨RX3, "mendOne", "()Z"⟩
abbrev cX3_isOnlyFault : ByteArray := prog_5_method_7_code
def yX3_isOnlyFault : MethodName := ⟨RX3, "isOnlyFault", "(I)Z"⟩
abbrev cX3_countDoubted : ByteArray := prog_5_method_8_code
def yX3_countDoubted : MethodName := ⟨RX3, "countDoubted", "()I"⟩
abbrev cX3_fillDoubted : ByteArray := prog_5_method_9_code
def yX3_fillDoubted : MethodName := ⟨RX3, "fillDoubted", "()Z"⟩
abbrev cX3_listDoubted : ByteArray := prog_5_method_10_code
def yX3_listDoubted : MethodName := ⟨RX3, "listDoubted", "()V"⟩
abbrev cX3_addChanges : ByteArray := prog_5_method_11_code
def yX3_addChanges : MethodName := ⟨RX3, "addChanges", "(I)V"⟩
abbrev cX3_changeAt : ByteArray := prog_5_method_12_code
def yX3_changeAt : MethodName := ⟨RX3, "changeAt", "(II)I"⟩
abbrev cX3_startWeights : ByteArray := prog_5_method_13_code
def yX3_startWeights : MethodName := ⟨RX3, "startWeights", "()V"⟩
abbrev cX3_addRoot : ByteArray := prog_5_method_14_code
def yX3_addRoot : MethodName := ⟨RX3, "addRoot", "(I)V"⟩
abbrev cX3_weightedSums : ByteArray := prog_5_method_15_code
def yX3_weightedSums : MethodName := ⟨RX3, "weightedSums", "()I"⟩
abbrev cX4_init : ByteArray := prog_6_method_1_code
def yX4_init : MethodName := ⟨RX4, "<init>", "(LDiscCoder$Disc;LDiscCoder$Word;LDiscCoder$Word;)V"⟩
abbrev cX4_writeFrame : ByteArray := prog_6_method_2_code
def yX4_writeFrame : MethodName := ⟨RX4, "writeFrame", "(J)I"⟩
abbrev cX4_makeInner : ByteArray := prog_6_method_3_code
def yX4_makeInner : MethodName := ⟨RX4, "makeInner", "(IJ)V"⟩
abbrev cX4_makeOuter : ByteArray := prog_6_method_4_code
def yX4_makeOuter : MethodName := ⟨RX4, "makeOuter", "(I)V"⟩
abbrev cX4_writeRow : ByteArray := prog_6_method_5_code
def yX4_writeRow : MethodName := ⟨RX4, "writeRow", "(I)V"⟩
abbrev cX5_init : ByteArray := prog_1_method_1_code
def yX5_init : MethodName := ⟨RX5, "<init>", "()V"⟩
abbrev cX5_feed : ByteArray := prog_1_method_2_code
def yX5_feed : MethodName := ⟨RX5, "feed", "(J)I"⟩
abbrev cX5_rows : ByteArray := prog_1_method_3_code
def yX5_rows : MethodName := ⟨RX5, "rows", "()I"⟩
abbrev cX5_symbol : ByteArray := prog_1_method_4_code
def yX5_symbol : MethodName := ⟨RX5, "symbol", "(II)I"⟩
abbrev cX5_scratch : ByteArray := prog_1_method_5_code
def yX5_scratch : MethodName := ⟨RX5, "scratch", "(III)V"⟩
abbrev cX5_burst : ByteArray := prog_1_method_6_code
def yX5_burst : MethodName := ⟨RX5, "burst", "(III)V"⟩
abbrev cX5_read : ByteArray := prog_1_method_7_code
def yX5_read : MethodName := ⟨RX5, "read", "()I"⟩
abbrev cX5_out : ByteArray := prog_1_method_8_code
def yX5_out : MethodName := ⟨RX5, "out", "(I)I"⟩
abbrev cX5_flagged : ByteArray := prog_1_method_9_code
def yX5_flagged : MethodName := ⟨RX5, "flagged", "(I)Z"⟩
abbrev cX5_figure : ByteArray := prog_1_method_10_code
def yX5_figure : MethodName := ⟨RX5, "figure", "(I)I"⟩
abbrev cX5_check : ByteArray := prog_1_method_11_code
def yX5_check : MethodName := ⟨RX5, "check", "(JI)I"⟩
abbrev cX5_product : ByteArray := prog_1_method_12_code
def yX5_product : MethodName := ⟨RX5, "product", "(II)I"⟩
abbrev cX6_init : ByteArray := prog_8_method_1_code
def yX6_init : MethodName := ⟨RX6, "<init>", "()V"⟩
abbrev cX6_thrown : ByteArray := prog_8_method_2_code
def yX6_thrown : MethodName := ⟨RX6, "thrown", "()I"⟩
abbrev cX6_times : ByteArray := prog_8_method_3_code
def yX6_times : MethodName := ⟨RX6, "times", "(II)I"⟩
abbrev cX6_power : ByteArray := prog_8_method_4_code
def yX6_power : MethodName := ⟨RX6, "power", "(I)I"⟩
abbrev cX6_inverse : ByteArray := prog_8_method_5_code
def yX6_inverse : MethodName := ⟨RX6, "inverse", "(I)I"⟩
abbrev cX6_sum : ByteArray := prog_8_method_6_code
def yX6_sum : MethodName := ⟨RX6, "sum", "(II)I"⟩
abbrev cX6_isWord : ByteArray := prog_8_method_7_code
def yX6_isWord : MethodName := ⟨RX6, "isWord", "(I)Z"⟩
abbrev cX6_swap : ByteArray := prog_8_method_8_code
def yX6_swap : MethodName := ⟨RX6, "swap", "(II)V"⟩
abbrev cX6_clear : ByteArray := prog_8_method_9_code
def yX6_clear : MethodName := ⟨RX6, "clear", "(I)V"⟩
abbrev cX6_fill : ByteArray := prog_8_method_10_code
def yX6_fill : MethodName := ⟨RX6, "fill", "(I)Z"⟩
abbrev cX6_finish : ByteArray := prog_8_method_11_code
def yX6_finish : MethodName := ⟨RX6, "finish", "(I)V"⟩
abbrev cX6_loadData : ByteArray := prog_8_method_12_code
def yX6_loadData : MethodName := ⟨RX6, "loadData", "(J)V"⟩
abbrev cX6_feed : ByteArray := prog_8_method_13_code
def yX6_feed : MethodName := ⟨RX6, "feed", "(J)I"⟩
abbrev cX6_rows : ByteArray := prog_8_method_14_code
def yX6_rows : MethodName := ⟨RX6, "rows", "()I"⟩
abbrev cX6_onDisc : ByteArray := prog_8_method_15_code
def yX6_onDisc : MethodName := ⟨RX6, "onDisc", "(II)Z"⟩
abbrev cX6_isSymbol : ByteArray := prog_8_method_16_code
def yX6_isSymbol : MethodName := ⟨RX6, "isSymbol", "(I)Z"⟩
abbrev cX6_symbol : ByteArray := prog_8_method_17_code
def yX6_symbol : MethodName := ⟨RX6, "symbol", "(II)I"⟩
abbrev cX6_scratch : ByteArray := prog_8_method_18_code
def yX6_scratch : MethodName := ⟨RX6, "scratch", "(III)V"⟩
abbrev cX6_burst : ByteArray := prog_8_method_19_code
def yX6_burst : MethodName := ⟨RX6, "burst", "(III)V"⟩
abbrev cX6_mend : ByteArray := prog_8_method_20_code
def yX6_mend : MethodName := ⟨RX6, "mend", "()I"⟩
abbrev cX6_gather : ByteArray := prog_8_method_21_code
def yX6_gather : MethodName := ⟨RX6, "gather", "(I)V"⟩
abbrev cX6_read : ByteArray := prog_8_method_22_code
def yX6_read : MethodName := ⟨RX6, "read", "()I"⟩
abbrev cX6_isOut : ByteArray := prog_8_method_23_code
def yX6_isOut : MethodName := ⟨RX6, "isOut", "(I)Z"⟩
abbrev cX6_out : ByteArray := prog_8_method_24_code
def yX6_out : MethodName := ⟨RX6, "out", "(I)I"⟩
abbrev cX6_flagged : ByteArray := prog_8_method_25_code
def yX6_flagged : MethodName := ⟨RX6, "flagged", "(I)Z"⟩
abbrev cX6_figure : ByteArray := prog_8_method_26_code
def yX6_figure : MethodName := ⟨RX6, "figure", "(I)I"⟩
abbrev cX6_check : ByteArray := prog_8_method_27_code
def yX6_check : MethodName := ⟨RX6, "check", "(JI)I"⟩
abbrev cX6_product : ByteArray := prog_8_method_28_code
def yX6_product : MethodName := ⟨RX6, "product", "(II)I"⟩
end
section
def wsX1_holds : List Cond := .code yX1_holds cX1_holds 1 (some .boolean) :: ([])
def wsX1_times : List Cond := .code yX1_times cX1_times 5 (some .int) :: ([])
def wsX1_inverse : List Cond := .code yX1_inverse cX1_inverse 4 (some .int) :: ([.methodLink RX1 11 yX1_times, .static yX1_times, .initialized RX1, .code yX1_times cX1_times 5 (some .int)])
set_option maxRecDepth 20000 in
theorem ggX1_inverse_X1_times : GoodIn wsX1_inverse wsX1_times := goodIn_r _ [4] (by decide +kernel) (by decide +kernel)
theorem gX1_inverse_X1_times : GoodIn wsX1_inverse (va_wsS RX1 11 yX1_times wsX1_times) := goodIn_app (goodIn_of _ (by decide +kernel)) ggX1_inverse_X1_times
theorem dX1_holds_0 : decode cX1_holds 0 = .ok (.iload_n 0, 1) := by decide +kernel
theorem dX1_holds_1 : decode cX1_holds 1 = .ok (.ifCond .lt 14, 3) := by decide +kernel
theorem dX1_holds_4 : decode cX1_holds 4 = .ok (.iload_n 0, 1) := by decide +kernel
theorem dX1_holds_5 : decode cX1_holds 5 = .ok (.sipush 255, 3) := by decide +kernel
theorem dX1_holds_8 : decode cX1_holds 8 = .ok (.if_icmp .gt 7, 3) := by decide +kernel
theorem dX1_holds_11 : decode cX1_holds 11 = .ok (.iconst 1, 1) := by decide +kernel
theorem dX1_holds_12 : decode cX1_holds 12 = .ok (.goto 4, 3) := by decide +kernel
theorem dX1_holds_15 : decode cX1_holds 15 = .ok (.iconst 0, 1) := by decide +kernel
theorem dX1_holds_16 : decode cX1_holds 16 = .ok (.ireturn, 1) := by decide +kernel
theorem dX1_times_0 : decode cX1_times 0 = .ok (.iconst 0, 1) := by decide +kernel
theorem dX1_times_1 : decode cX1_times 1 = .ok (.istore_n 2, 1) := by decide +kernel
theorem dX1_times_2 : decode cX1_times 2 = .ok (.iload_n 0, 1) := by decide +kernel
theorem dX1_times_3 : decode cX1_times 3 = .ok (.istore_n 3, 1) := by decide +kernel
theorem dX1_times_4 : decode cX1_times 4 = .ok (.iconst 0, 1) := by decide +kernel
theorem dX1_times_5 : decode cX1_times 5 = .ok (.istore 4, 2) := by decide +kernel
theorem dX1_times_7 : decode cX1_times 7 = .ok (.iload 4, 2) := by decide +kernel
theorem dX1_times_9 : decode cX1_times 9 = .ok (.bipush 8, 2) := by decide +kernel
theorem dX1_times_11 : decode cX1_times 11 = .ok (.if_icmp .ge 39, 3) := by decide +kernel
theorem dX1_times_14 : decode cX1_times 14 = .ok (.iload_n 1, 1) := by decide +kernel
theorem dX1_times_15 : decode cX1_times 15 = .ok (.iload 4, 2) := by decide +kernel
theorem dX1_times_17 : decode cX1_times 17 = .ok (.ishr, 1) := by decide +kernel
theorem dX1_times_18 : decode cX1_times 18 = .ok (.iconst 1, 1) := by decide +kernel
theorem dX1_times_19 : decode cX1_times 19 = .ok (.iand, 1) := by decide +kernel
theorem dX1_times_20 : decode cX1_times 20 = .ok (.ifCond .eq 7, 3) := by decide +kernel
theorem dX1_times_23 : decode cX1_times 23 = .ok (.iload_n 2, 1) := by decide +kernel
theorem dX1_times_24 : decode cX1_times 24 = .ok (.iload_n 3, 1) := by decide +kernel
theorem dX1_times_25 : decode cX1_times 25 = .ok (.ixor, 1) := by decide +kernel
theorem dX1_times_26 : decode cX1_times 26 = .ok (.istore_n 2, 1) := by decide +kernel
theorem dX1_times_27 : decode cX1_times 27 = .ok (.iload_n 3, 1) := by decide +kernel
theorem dX1_times_28 : decode cX1_times 28 = .ok (.iconst 1, 1) := by decide +kernel
theorem dX1_times_29 : decode cX1_times 29 = .ok (.ishl, 1) := by decide +kernel
theorem dX1_times_30 : decode cX1_times 30 = .ok (.istore_n 3, 1) := by decide +kernel
theorem dX1_times_31 : decode cX1_times 31 = .ok (.iload_n 3, 1) := by decide +kernel
theorem dX1_times_32 : decode cX1_times 32 = .ok (.sipush 255, 3) := by decide +kernel
theorem dX1_times_35 : decode cX1_times 35 = .ok (.if_icmp .le 9, 3) := by decide +kernel
theorem dX1_times_38 : decode cX1_times 38 = .ok (.iload_n 3, 1) := by decide +kernel
theorem dX1_times_39 : decode cX1_times 39 = .ok (.sipush 285, 3) := by decide +kernel
theorem dX1_times_42 : decode cX1_times 42 = .ok (.ixor, 1) := by decide +kernel
theorem dX1_times_43 : decode cX1_times 43 = .ok (.istore_n 3, 1) := by decide +kernel
theorem dX1_times_44 : decode cX1_times 44 = .ok (.iinc 4 1, 3) := by decide +kernel
theorem dX1_times_47 : decode cX1_times 47 = .ok (.goto (-40), 3) := by decide +kernel
theorem dX1_times_50 : decode cX1_times 50 = .ok (.iload_n 2, 1) := by decide +kernel
theorem dX1_times_51 : decode cX1_times 51 = .ok (.ireturn, 1) := by decide +kernel
theorem dX1_inverse_0 : decode cX1_inverse 0 = .ok (.iload_n 0, 1) := by decide +kernel
theorem dX1_inverse_1 : decode cX1_inverse 1 = .ok (.istore_n 1, 1) := by decide +kernel
theorem dX1_inverse_2 : decode cX1_inverse 2 = .ok (.iconst 1, 1) := by decide +kernel
theorem dX1_inverse_3 : decode cX1_inverse 3 = .ok (.istore_n 2, 1) := by decide +kernel
theorem dX1_inverse_4 : decode cX1_inverse 4 = .ok (.iconst 1, 1) := by decide +kernel
theorem dX1_inverse_5 : decode cX1_inverse 5 = .ok (.istore_n 3, 1) := by decide +kernel
theorem dX1_inverse_6 : decode cX1_inverse 6 = .ok (.iload_n 3, 1) := by decide +kernel
theorem dX1_inverse_7 : decode cX1_inverse 7 = .ok (.bipush 8, 2) := by decide +kernel
theorem dX1_inverse_9 : decode cX1_inverse 9 = .ok (.if_icmp .ge 21, 3) := by decide +kernel
theorem dX1_inverse_12 : decode cX1_inverse 12 = .ok (.iload_n 1, 1) := by decide +kernel
theorem dX1_inverse_13 : decode cX1_inverse 13 = .ok (.iload_n 1, 1) := by decide +kernel
theorem dX1_inverse_14 : decode cX1_inverse 14 = .ok (.invokestatic 11, 3) := by decide +kernel
theorem dX1_inverse_17 : decode cX1_inverse 17 = .ok (.istore_n 1, 1) := by decide +kernel
theorem dX1_inverse_18 : decode cX1_inverse 18 = .ok (.iload_n 2, 1) := by decide +kernel
theorem dX1_inverse_19 : decode cX1_inverse 19 = .ok (.iload_n 1, 1) := by decide +kernel
theorem dX1_inverse_20 : decode cX1_inverse 20 = .ok (.invokestatic 11, 3) := by decide +kernel
theorem dX1_inverse_23 : decode cX1_inverse 23 = .ok (.istore_n 2, 1) := by decide +kernel
theorem dX1_inverse_24 : decode cX1_inverse 24 = .ok (.iinc 3 1, 3) := by decide +kernel
theorem dX1_inverse_27 : decode cX1_inverse 27 = .ok (.goto (-21), 3) := by decide +kernel
theorem dX1_inverse_30 : decode cX1_inverse 30 = .ok (.iload_n 2, 1) := by decide +kernel
theorem dX1_inverse_31 : decode cX1_inverse 31 = .ok (.ireturn, 1) := by decide +kernel
end
section
def wsX3_init : List Cond := .code yX3_init cX3_init 4 none :: ([.methodLink RX3 3 objectInit, .instanceMethod objectInit, .code objectInit ⟨#[0xb1]⟩ 1 none, .fieldLink RX3 9 "DiscCoder$Word" "size" "I", .arrayClass .int, .fieldLink RX3 15 "DiscCoder$Word" "symbols" "[I", .arrayClass .boolean, .fieldLink RX3 19 "DiscCoder$Word" "doubted" "[Z", .fieldLink RX3 23 "DiscCoder$Word" "locators" "[I", .fieldLink RX3 26 "DiscCoder$Word" "sums" "[I", .fieldLink RX3 29 "DiscCoder$Word" "doubtedAt" "[I", .fieldLink RX3 32 "DiscCoder$Word" "changes" "[I", .fieldLink RX3 35 "DiscCoder$Word" "weights" "[I", .methodLink RX3 38 yX1_times, .static yX1_times, .initialized RX1, .code yX1_times cX1_times 5 (some .int)] ++ wsX30)
def wsX3_beginWith : List Cond := .code yX3_beginWith cX3_beginWith 4 none :: ([.fieldLink RX3 15 "DiscCoder$Word" "symbols" "[I"] ++ wsX30)
def wsX3_makeChecks : List Cond := .code yX3_makeChecks cX3_makeChecks 2 none :: ([.fieldLink RX3 9 "DiscCoder$Word" "size" "I", .fieldLink RX3 19 "DiscCoder$Word" "doubted" "[Z", .methodLink RX3 44 yX3_fillDoubted, .instanceMethod yX3_fillDoubted, .selects RX3 yX3_fillDoubted yX3_fillDoubted, .initialized RX3, .code yX3_fillDoubted cX3_fillDoubted 3 (some .boolean), .methodLink RX3 58 yX3_countDoubted, .instanceMethod yX3_countDoubted, .selects RX3 yX3_countDoubted yX3_countDoubted, .code yX3_countDoubted cX3_countDoubted 3 (some .int), .methodLink RX3 62 yX3_listDoubted, .instanceMethod yX3_listDoubted, .selects RX3 yX3_listDoubted yX3_listDoubted, .code yX3_listDoubted cX3_listDoubted 3 none, .fieldLink RX3 29 "DiscCoder$Word" "doubtedAt" "[I", .methodLink RX3 48 yX3_makeSums, .instanceMethod yX3_makeSums, .selects RX3 yX3_makeSums yX3_makeSums, .code yX3_makeSums cX3_makeSums 5 none, .methodLink RX3 38 yX1_times, .static yX1_times, .initialized RX1, .code yX1_times cX1_times 5 (some .int), .fieldLink RX3 15 "DiscCoder$Word" "symbols" "[I", .fieldLink RX3 26 "DiscCoder$Word" "sums" "[I", .fieldLink RX3 32 "DiscCoder$Word" "changes" "[I", .methodLink RX3 65 yX3_changeAt, .instanceMethod yX3_changeAt, .selects RX3 yX3_changeAt yX3_changeAt, .code yX3_changeAt cX3_changeAt 7 (some .int), .fieldLink RX3 23 "DiscCoder$Word" "locators" "[I", .methodLink RX3 72 yX3_startWeights, .instanceMethod yX3_startWeights, .selects RX3 yX3_startWeights yX3_startWeights, .code yX3_startWeights cX3_startWeights 2 none, .fieldLink RX3 35 "DiscCoder$Word" "weights" "[I", .methodLink RX3 75 yX3_addRoot, .instanceMethod yX3_addRoot, .selects RX3 yX3_addRoot yX3_addRoot, .code yX3_addRoot cX3_addRoot 3 none, .methodLink RX3 78 yX3_weightedSums, .instanceMethod yX3_weightedSums, .selects RX3 yX3_weightedSums yX3_weightedSums, .code yX3_weightedSums cX3_weightedSums 3 (some .int), .methodLink RX3 81 yX1_inverse, .static yX1_inverse, .code yX1_inverse cX1_inverse 4 (some .int), .methodLink RX1 11 yX1_times, .methodLink RX3 68 yX3_addChanges, .instanceMethod yX3_addChanges, .selects RX3 yX3_addChanges yX3_addChanges, .code yX3_addChanges cX3_addChanges 3 none, .methodLink RX3 51 yX3_isWord, .instanceMethod yX3_isWord, .selects RX3 yX3_isWord yX3_isWord, .code yX3_isWord cX3_isWord 2 (some .boolean)] ++ wsX30)
def wsX3_isWord : List Cond := .code yX3_isWord cX3_isWord 2 (some .boolean) :: ([.methodLink RX3 48 yX3_makeSums, .instanceMethod yX3_makeSums, .selects RX3 yX3_makeSums yX3_makeSums, .initialized RX3, .code yX3_makeSums cX3_makeSums 5 none, .fieldLink RX3 9 "DiscCoder$Word" "size" "I", .methodLink RX3 38 yX1_times, .static yX1_times, .initialized RX1, .code yX1_times cX1_times 5 (some .int), .fieldLink RX3 15 "DiscCoder$Word" "symbols" "[I", .fieldLink RX3 26 "DiscCoder$Word" "sums" "[I"] ++ wsX30)
def wsX3_makeSums : List Cond := .code yX3_makeSums cX3_makeSums 5 none :: ([.fieldLink RX3 9 "DiscCoder$Word" "size" "I", .methodLink RX3 38 yX1_times, .static yX1_times, .initialized RX1, .code yX1_times cX1_times 5 (some .int), .fieldLink RX3 15 "DiscCoder$Word" "symbols" "[I", .fieldLink RX3 26 "DiscCoder$Word" "sums" "[I"] ++ wsX30)
def wsX3_mendOne : List Cond := .code yX3_mendOne cX3_mendOne 2 (some .boolean) :: ([.methodLink RX3 51 yX3_isWord, .instanceMethod yX3_isWord, .selects RX3 yX3_isWord yX3_isWord, .initialized RX3, .code yX3_isWord cX3_isWord 2 (some .boolean), .methodLink RX3 48 yX3_makeSums, .instanceMethod yX3_makeSums, .selects RX3 yX3_makeSums yX3_makeSums, .code yX3_makeSums cX3_makeSums 5 none, .fieldLink RX3 9 "DiscCoder$Word" "size" "I", .methodLink RX3 38 yX1_times, .static yX1_times, .initialized RX1, .code yX1_times cX1_times 5 (some .int), .fieldLink RX3 15 "DiscCoder$Word" "symbols" "[I", .fieldLink RX3 26 "DiscCoder$Word" "sums" "[I", .methodLink RX3 54 yX3_isOnlyFault, .instanceMethod yX3_isOnlyFault, .selects RX3 yX3_isOnlyFault yX3_isOnlyFault, .code yX3_isOnlyFault cX3_isOnlyFault 4 (some .boolean), .fieldLink RX3 23 "DiscCoder$Word" "locators" "[I"] ++ wsX30)
def wsX3_isOnlyFault : List Cond := .code yX3_isOnlyFault cX3_isOnlyFault 4 (some .boolean) :: ([.fieldLink RX3 26 "DiscCoder$Word" "sums" "[I", .fieldLink RX3 23 "DiscCoder$Word" "locators" "[I", .methodLink RX3 38 yX1_times, .static yX1_times, .initialized RX1, .code yX1_times cX1_times 5 (some .int)] ++ wsX30)
def wsX3_countDoubted : List Cond := .code yX3_countDoubted cX3_countDoubted 3 (some .int) :: ([.fieldLink RX3 9 "DiscCoder$Word" "size" "I", .fieldLink RX3 19 "DiscCoder$Word" "doubted" "[Z"] ++ wsX30)
def wsX3_fillDoubted : List Cond := .code yX3_fillDoubted cX3_fillDoubted 3 (some .boolean) :: ([.methodLink RX3 58 yX3_countDoubted, .instanceMethod yX3_countDoubted, .selects RX3 yX3_countDoubted yX3_countDoubted, .initialized RX3, .code yX3_countDoubted cX3_countDoubted 3 (some .int), .fieldLink RX3 9 "DiscCoder$Word" "size" "I", .fieldLink RX3 19 "DiscCoder$Word" "doubted" "[Z", .methodLink RX3 62 yX3_listDoubted, .instanceMethod yX3_listDoubted, .selects RX3 yX3_listDoubted yX3_listDoubted, .code yX3_listDoubted cX3_listDoubted 3 none, .fieldLink RX3 29 "DiscCoder$Word" "doubtedAt" "[I", .methodLink RX3 48 yX3_makeSums, .instanceMethod yX3_makeSums, .selects RX3 yX3_makeSums yX3_makeSums, .code yX3_makeSums cX3_makeSums 5 none, .methodLink RX3 38 yX1_times, .static yX1_times, .initialized RX1, .code yX1_times cX1_times 5 (some .int), .fieldLink RX3 15 "DiscCoder$Word" "symbols" "[I", .fieldLink RX3 26 "DiscCoder$Word" "sums" "[I", .fieldLink RX3 32 "DiscCoder$Word" "changes" "[I", .methodLink RX3 65 yX3_changeAt, .instanceMethod yX3_changeAt, .selects RX3 yX3_changeAt yX3_changeAt, .code yX3_changeAt cX3_changeAt 7 (some .int), .fieldLink RX3 23 "DiscCoder$Word" "locators" "[I", .methodLink RX3 72 yX3_startWeights, .instanceMethod yX3_startWeights, .selects RX3 yX3_startWeights yX3_startWeights, .code yX3_startWeights cX3_startWeights 2 none, .fieldLink RX3 35 "DiscCoder$Word" "weights" "[I", .methodLink RX3 75 yX3_addRoot, .instanceMethod yX3_addRoot, .selects RX3 yX3_addRoot yX3_addRoot, .code yX3_addRoot cX3_addRoot 3 none, .methodLink RX3 78 yX3_weightedSums, .instanceMethod yX3_weightedSums, .selects RX3 yX3_weightedSums yX3_weightedSums, .code yX3_weightedSums cX3_weightedSums 3 (some .int), .methodLink RX3 81 yX1_inverse, .static yX1_inverse, .code yX1_inverse cX1_inverse 4 (some .int), .methodLink RX1 11 yX1_times, .methodLink RX3 68 yX3_addChanges, .instanceMethod yX3_addChanges, .selects RX3 yX3_addChanges yX3_addChanges, .code yX3_addChanges cX3_addChanges 3 none, .methodLink RX3 51 yX3_isWord, .instanceMethod yX3_isWord, .selects RX3 yX3_isWord yX3_isWord, .code yX3_isWord cX3_isWord 2 (some .boolean)] ++ wsX30)
def wsX3_listDoubted : List Cond := .code yX3_listDoubted cX3_listDoubted 3 none :: ([.fieldLink RX3 9 "DiscCoder$Word" "size" "I", .fieldLink RX3 19 "DiscCoder$Word" "doubted" "[Z", .fieldLink RX3 29 "DiscCoder$Word" "doubtedAt" "[I"] ++ wsX30)
def wsX3_addChanges : List Cond := .code yX3_addChanges cX3_addChanges 3 none :: ([.fieldLink RX3 15 "DiscCoder$Word" "symbols" "[I", .fieldLink RX3 29 "DiscCoder$Word" "doubtedAt" "[I", .fieldLink RX3 32 "DiscCoder$Word" "changes" "[I"] ++ wsX30)
def wsX3_changeAt : List Cond := .code yX3_changeAt cX3_changeAt 7 (some .int) :: ([.fieldLink RX3 23 "DiscCoder$Word" "locators" "[I", .fieldLink RX3 29 "DiscCoder$Word" "doubtedAt" "[I", .methodLink RX3 72 yX3_startWeights, .instanceMethod yX3_startWeights, .selects RX3 yX3_startWeights yX3_startWeights, .initialized RX3, .code yX3_startWeights cX3_startWeights 2 none, .fieldLink RX3 35 "DiscCoder$Word" "weights" "[I", .methodLink RX3 75 yX3_addRoot, .instanceMethod yX3_addRoot, .selects RX3 yX3_addRoot yX3_addRoot, .code yX3_addRoot cX3_addRoot 3 none, .methodLink RX3 38 yX1_times, .static yX1_times, .initialized RX1, .code yX1_times cX1_times 5 (some .int), .methodLink RX3 78 yX3_weightedSums, .instanceMethod yX3_weightedSums, .selects RX3 yX3_weightedSums yX3_weightedSums, .code yX3_weightedSums cX3_weightedSums 3 (some .int), .fieldLink RX3 26 "DiscCoder$Word" "sums" "[I", .methodLink RX3 81 yX1_inverse, .static yX1_inverse, .code yX1_inverse cX1_inverse 4 (some .int), .methodLink RX1 11 yX1_times] ++ wsX30)
def wsX3_startWeights : List Cond := .code yX3_startWeights cX3_startWeights 2 none :: ([.fieldLink RX3 35 "DiscCoder$Word" "weights" "[I"] ++ wsX30)
def wsX3_addRoot : List Cond := .code yX3_addRoot cX3_addRoot 3 none :: ([.fieldLink RX3 35 "DiscCoder$Word" "weights" "[I", .methodLink RX3 38 yX1_times, .static yX1_times, .initialized RX1, .code yX1_times cX1_times 5 (some .int)] ++ wsX30)
def wsX3_weightedSums : List Cond := .code yX3_weightedSums cX3_weightedSums 3 (some .int) :: ([.fieldLink RX3 35 "DiscCoder$Word" "weights" "[I", .fieldLink RX3 26 "DiscCoder$Word" "sums" "[I", .methodLink RX3 38 yX1_times, .static yX1_times, .initialized RX1, .code yX1_times cX1_times 5 (some .int)] ++ wsX30)
set_option maxRecDepth 20000 in
theorem ggX3_init_X1_times : GoodIn wsX3_init wsX1_times := goodIn_r _ [17] (by decide +kernel) (by decide +kernel)
theorem gX3_init_X1_times : GoodIn wsX3_init (va_wsS RX3 38 yX1_times wsX1_times) := goodIn_app (goodIn_of _ (by decide +kernel)) ggX3_init_X1_times
set_option maxRecDepth 20000 in
theorem ggX3_makeChecks_X3_fillDoubted : GoodIn wsX3_makeChecks wsX3_fillDoubted := goodIn_r _ [7, 8, 9, 10, 6, 11, 1, 2, 12, 13, 14, 15, 16, 17, 18, 19, 20, 21, 22, 23, 24, 25, 26, 27, 28, 29, 30, 31, 32, 33, 34, 35, 36, 37, 38, 39, 40, 41, 42, 43, 44, 45, 46, 47, 48, 49, 50, 51, 52, 53, 54, 55, 56, 57, 58, 59, 60, 61, 62, 63, 64, 65] (by decide +kernel) (by decide +kernel)
theorem gX3_makeChecks_X3_fillDoubted : GoodIn wsX3_makeChecks (wsV RX3 44 RX3 yX3_fillDoubted wsX3_fillDoubted) := goodIn_app (goodIn_of _ (by decide +kernel)) ggX3_makeChecks_X3_fillDoubted
set_option maxRecDepth 20000 in
theorem ggX3_isWord_X3_makeSums : GoodIn wsX3_isWord wsX3_makeSums := goodIn_r _ [5, 6, 7, 8, 9, 10, 11, 12, 13, 14, 15, 16, 17, 18, 19, 20] (by decide +kernel) (by decide +kernel)
theorem gX3_isWord_X3_makeSums : GoodIn wsX3_isWord (wsV RX3 48 RX3 yX3_makeSums wsX3_makeSums) := goodIn_app (goodIn_of _ (by decide +kernel)) ggX3_isWord_X3_makeSums
set_option maxRecDepth 20000 in
theorem ggX3_makeSums_X1_times : GoodIn wsX3_makeSums wsX1_times := goodIn_r _ [5] (by decide +kernel) (by decide +kernel)
theorem gX3_makeSums_X1_times : GoodIn wsX3_makeSums (va_wsS RX3 38 yX1_times wsX1_times) := goodIn_app (goodIn_of _ (by decide +kernel)) ggX3_makeSums_X1_times
set_option maxRecDepth 20000 in
theorem ggX3_mendOne_X3_isWord : GoodIn wsX3_mendOne wsX3_isWord := goodIn_r _ [5, 6, 7, 8, 4, 9, 10, 11, 12, 13, 14, 15, 16, 22, 23, 24, 25, 26, 27, 28, 29] (by decide +kernel) (by decide +kernel)
theorem gX3_mendOne_X3_isWord : GoodIn wsX3_mendOne (wsV RX3 51 RX3 yX3_isWord wsX3_isWord) := goodIn_app (goodIn_of _ (by decide +kernel)) ggX3_mendOne_X3_isWord
set_option maxRecDepth 20000 in
theorem ggX3_mendOne_X3_isOnlyFault : GoodIn wsX3_mendOne wsX3_isOnlyFault := goodIn_r _ [20, 16, 21, 11, 12, 13, 14, 22, 23, 24, 25, 26, 27, 28, 29] (by decide +kernel) (by decide +kernel)
theorem gX3_mendOne_X3_isOnlyFault : GoodIn wsX3_mendOne (wsV RX3 54 RX3 yX3_isOnlyFault wsX3_isOnlyFault) := goodIn_app (goodIn_of _ (by decide +kernel)) ggX3_mendOne_X3_isOnlyFault
set_option maxRecDepth 20000 in
theorem ggX3_isOnlyFault_X1_times : GoodIn wsX3_isOnlyFault wsX1_times := goodIn_r _ [6] (by decide +kernel) (by decide +kernel)
theorem gX3_isOnlyFault_X1_times : GoodIn wsX3_isOnlyFault (va_wsS RX3 38 yX1_times wsX1_times) := goodIn_app (goodIn_of _ (by decide +kernel)) ggX3_isOnlyFault_X1_times
set_option maxRecDepth 20000 in
theorem ggX3_fillDoubted_X3_countDoubted : GoodIn wsX3_fillDoubted wsX3_countDoubted := goodIn_r _ [5, 6, 7, 54, 55, 56, 57, 58, 59, 60, 61] (by decide +kernel) (by decide +kernel)
theorem gX3_fillDoubted_X3_countDoubted : GoodIn wsX3_fillDoubted (wsV RX3 58 RX3 yX3_countDoubted wsX3_countDoubted) := goodIn_app (goodIn_of _ (by decide +kernel)) ggX3_fillDoubted_X3_countDoubted
set_option maxRecDepth 20000 in
theorem ggX3_fillDoubted_X3_listDoubted : GoodIn wsX3_fillDoubted wsX3_listDoubted := goodIn_r _ [11, 6, 7, 12, 54, 55, 56, 57, 58, 59, 60, 61] (by decide +kernel) (by decide +kernel)
theorem gX3_fillDoubted_X3_listDoubted : GoodIn wsX3_fillDoubted (wsV RX3 62 RX3 yX3_listDoubted wsX3_listDoubted) := goodIn_app (goodIn_of _ (by decide +kernel)) ggX3_fillDoubted_X3_listDoubted
set_option maxRecDepth 20000 in
theorem ggX3_fillDoubted_X3_makeSums : GoodIn wsX3_fillDoubted wsX3_makeSums := goodIn_r _ [16, 6, 17, 18, 19, 20, 21, 22, 54, 55, 56, 57, 58, 59, 60, 61] (by decide +kernel) (by decide +kernel)
theorem gX3_fillDoubted_X3_makeSums : GoodIn wsX3_fillDoubted (wsV RX3 48 RX3 yX3_makeSums wsX3_makeSums) := goodIn_app (goodIn_of _ (by decide +kernel)) ggX3_fillDoubted_X3_makeSums
set_option maxRecDepth 20000 in
theorem ggX3_fillDoubted_X3_changeAt : GoodIn wsX3_fillDoubted wsX3_changeAt := goodIn_r _ [27, 28, 12, 29, 30, 31, 4, 32, 33, 34, 35, 36, 37, 17, 18, 19, 20, 38, 39, 40, 41, 22, 42, 43, 44, 45, 54, 55, 56, 57, 58, 59, 60, 61] (by decide +kernel) (by decide +kernel)
theorem gX3_fillDoubted_X3_changeAt : GoodIn wsX3_fillDoubted (wsV RX3 65 RX3 yX3_changeAt wsX3_changeAt) := goodIn_app (goodIn_of _ (by decide +kernel)) ggX3_fillDoubted_X3_changeAt
set_option maxRecDepth 20000 in
theorem ggX3_fillDoubted_X3_addChanges : GoodIn wsX3_fillDoubted wsX3_addChanges := goodIn_r _ [49, 21, 12, 23, 54, 55, 56, 57, 58, 59, 60, 61] (by decide +kernel) (by decide +kernel)
theorem gX3_fillDoubted_X3_addChanges : GoodIn wsX3_fillDoubted (wsV RX3 68 RX3 yX3_addChanges wsX3_addChanges) := goodIn_app (goodIn_of _ (by decide +kernel)) ggX3_fillDoubted_X3_addChanges
set_option maxRecDepth 20000 in
theorem ggX3_fillDoubted_X3_isWord : GoodIn wsX3_fillDoubted wsX3_isWord := goodIn_r _ [53, 13, 14, 15, 4, 16, 6, 17, 18, 19, 20, 21, 22, 54, 55, 56, 57, 58, 59, 60, 61] (by decide +kernel) (by decide +kernel)
theorem gX3_fillDoubted_X3_isWord : GoodIn wsX3_fillDoubted (wsV RX3 51 RX3 yX3_isWord wsX3_isWord) := goodIn_app (goodIn_of _ (by decide +kernel)) ggX3_fillDoubted_X3_isWord
set_option maxRecDepth 20000 in
theorem ggX3_changeAt_X3_startWeights : GoodIn wsX3_changeAt wsX3_startWeights := goodIn_r _ [7, 8, 26, 27, 28, 29, 30, 31, 32, 33] (by decide +kernel) (by decide +kernel)
theorem gX3_changeAt_X3_startWeights : GoodIn wsX3_changeAt (wsV RX3 72 RX3 yX3_startWeights wsX3_startWeights) := goodIn_app (goodIn_of _ (by decide +kernel)) ggX3_changeAt_X3_startWeights
set_option maxRecDepth 20000 in
theorem ggX3_changeAt_X3_addRoot : GoodIn wsX3_changeAt wsX3_addRoot := goodIn_r _ [12, 8, 13, 14, 15, 16, 26, 27, 28, 29, 30, 31, 32, 33] (by decide +kernel) (by decide +kernel)
theorem gX3_changeAt_X3_addRoot : GoodIn wsX3_changeAt (wsV RX3 75 RX3 yX3_addRoot wsX3_addRoot) := goodIn_app (goodIn_of _ (by decide +kernel)) ggX3_changeAt_X3_addRoot
set_option maxRecDepth 20000 in
theorem ggX3_changeAt_X1_times : GoodIn wsX3_changeAt wsX1_times := goodIn_r _ [16] (by decide +kernel) (by decide +kernel)
theorem gX3_changeAt_X1_times : GoodIn wsX3_changeAt (va_wsS RX3 38 yX1_times wsX1_times) := goodIn_app (goodIn_of _ (by decide +kernel)) ggX3_changeAt_X1_times
set_option maxRecDepth 20000 in
theorem ggX3_changeAt_X3_weightedSums : GoodIn wsX3_changeAt wsX3_weightedSums := goodIn_r _ [20, 8, 21, 13, 14, 15, 16, 26, 27, 28, 29, 30, 31, 32, 33] (by decide +kernel) (by decide +kernel)
theorem gX3_changeAt_X3_weightedSums : GoodIn wsX3_changeAt (wsV RX3 78 RX3 yX3_weightedSums wsX3_weightedSums) := goodIn_app (goodIn_of _ (by decide +kernel)) ggX3_changeAt_X3_weightedSums
set_option maxRecDepth 20000 in
theorem ggX3_changeAt_X1_inverse : GoodIn wsX3_changeAt wsX1_inverse := goodIn_r _ [24, 25, 14, 15, 16] (by decide +kernel) (by decide +kernel)
theorem gX3_changeAt_X1_inverse : GoodIn wsX3_changeAt (va_wsS RX3 81 yX1_inverse wsX1_inverse) := goodIn_app (goodIn_of _ (by decide +kernel)) ggX3_changeAt_X1_inverse
set_option maxRecDepth 20000 in
theorem ggX3_addRoot_X1_times : GoodIn wsX3_addRoot wsX1_times := goodIn_r _ [5] (by decide +kernel) (by decide +kernel)
theorem gX3_addRoot_X1_times : GoodIn wsX3_addRoot (va_wsS RX3 38 yX1_times wsX1_times) := goodIn_app (goodIn_of _ (by decide +kernel)) ggX3_addRoot_X1_times
set_option maxRecDepth 20000 in
theorem ggX3_weightedSums_X1_times : GoodIn wsX3_weightedSums wsX1_times := goodIn_r _ [6] (by decide +kernel) (by decide +kernel)
theorem gX3_weightedSums_X1_times : GoodIn wsX3_weightedSums (va_wsS RX3 38 yX1_times wsX1_times) := goodIn_app (goodIn_of _ (by decide +kernel)) ggX3_weightedSums_X1_times
theorem dX3_init_0 : decode cX3_init 0 = .ok (.aload_n 0, 1) := by decide +kernel
theorem dX3_init_1 : decode cX3_init 1 = .ok (.invokespecial 3, 3) := by decide +kernel
theorem dX3_init_4 : decode cX3_init 4 = .ok (.aload_n 0, 1) := by decide +kernel
theorem dX3_init_5 : decode cX3_init 5 = .ok (.iload_n 1, 1) := by decide +kernel
theorem dX3_init_6 : decode cX3_init 6 = .ok (.putfield 9, 3) := by decide +kernel
theorem dX3_init_9 : decode cX3_init 9 = .ok (.aload_n 0, 1) := by decide +kernel
theorem dX3_init_10 : decode cX3_init 10 = .ok (.iload_n 1, 1) := by decide +kernel
theorem dX3_init_11 : decode cX3_init 11 = .ok (.newarray .int, 2) := by decide +kernel
theorem dX3_init_13 : decode cX3_init 13 = .ok (.putfield 15, 3) := by decide +kernel
theorem dX3_init_16 : decode cX3_init 16 = .ok (.aload_n 0, 1) := by decide +kernel
theorem dX3_init_17 : decode cX3_init 17 = .ok (.iload_n 1, 1) := by decide +kernel
theorem dX3_init_18 : decode cX3_init 18 = .ok (.newarray .boolean, 2) := by decide +kernel
theorem dX3_init_20 : decode cX3_init 20 = .ok (.putfield 19, 3) := by decide +kernel
theorem dX3_init_23 : decode cX3_init 23 = .ok (.aload_n 0, 1) := by decide +kernel
theorem dX3_init_24 : decode cX3_init 24 = .ok (.iload_n 1, 1) := by decide +kernel
theorem dX3_init_25 : decode cX3_init 25 = .ok (.newarray .int, 2) := by decide +kernel
theorem dX3_init_27 : decode cX3_init 27 = .ok (.putfield 23, 3) := by decide +kernel
theorem dX3_init_30 : decode cX3_init 30 = .ok (.aload_n 0, 1) := by decide +kernel
theorem dX3_init_31 : decode cX3_init 31 = .ok (.iconst 4, 1) := by decide +kernel
theorem dX3_init_32 : decode cX3_init 32 = .ok (.newarray .int, 2) := by decide +kernel
theorem dX3_init_34 : decode cX3_init 34 = .ok (.putfield 26, 3) := by decide +kernel
theorem dX3_init_37 : decode cX3_init 37 = .ok (.aload_n 0, 1) := by decide +kernel
theorem dX3_init_38 : decode cX3_init 38 = .ok (.iconst 4, 1) := by decide +kernel
theorem dX3_init_39 : decode cX3_init 39 = .ok (.newarray .int, 2) := by decide +kernel
theorem dX3_init_41 : decode cX3_init 41 = .ok (.putfield 29, 3) := by decide +kernel
theorem dX3_init_44 : decode cX3_init 44 = .ok (.aload_n 0, 1) := by decide +kernel
theorem dX3_init_45 : decode cX3_init 45 = .ok (.iconst 4, 1) := by decide +kernel
theorem dX3_init_46 : decode cX3_init 46 = .ok (.newarray .int, 2) := by decide +kernel
theorem dX3_init_48 : decode cX3_init 48 = .ok (.putfield 32, 3) := by decide +kernel
theorem dX3_init_51 : decode cX3_init 51 = .ok (.aload_n 0, 1) := by decide +kernel
theorem dX3_init_52 : decode cX3_init 52 = .ok (.iconst 4, 1) := by decide +kernel
theorem dX3_init_53 : decode cX3_init 53 = .ok (.newarray .int, 2) := by decide +kernel
theorem dX3_init_55 : decode cX3_init 55 = .ok (.putfield 35, 3) := by decide +kernel
theorem dX3_init_58 : decode cX3_init 58 = .ok (.iconst 1, 1) := by decide +kernel
theorem dX3_init_59 : decode cX3_init 59 = .ok (.istore_n 2, 1) := by decide +kernel
theorem dX3_init_60 : decode cX3_init 60 = .ok (.iload_n 1, 1) := by decide +kernel
theorem dX3_init_61 : decode cX3_init 61 = .ok (.iconst 1, 1) := by decide +kernel
theorem dX3_init_62 : decode cX3_init 62 = .ok (.isub, 1) := by decide +kernel
theorem dX3_init_63 : decode cX3_init 63 = .ok (.istore_n 3, 1) := by decide +kernel
theorem dX3_init_64 : decode cX3_init 64 = .ok (.iload_n 3, 1) := by decide +kernel
theorem dX3_init_65 : decode cX3_init 65 = .ok (.ifCond .lt 22, 3) := by decide +kernel
theorem dX3_init_68 : decode cX3_init 68 = .ok (.aload_n 0, 1) := by decide +kernel
theorem dX3_init_69 : decode cX3_init 69 = .ok (.getfield 23, 3) := by decide +kernel
theorem dX3_init_72 : decode cX3_init 72 = .ok (.iload_n 3, 1) := by decide +kernel
theorem dX3_init_73 : decode cX3_init 73 = .ok (.iload_n 2, 1) := by decide +kernel
theorem dX3_init_74 : decode cX3_init 74 = .ok (.iastore, 1) := by decide +kernel
theorem dX3_init_75 : decode cX3_init 75 = .ok (.iload_n 2, 1) := by decide +kernel
theorem dX3_init_76 : decode cX3_init 76 = .ok (.iconst 2, 1) := by decide +kernel
theorem dX3_init_77 : decode cX3_init 77 = .ok (.invokestatic 38, 3) := by decide +kernel
theorem dX3_init_80 : decode cX3_init 80 = .ok (.istore_n 2, 1) := by decide +kernel
theorem dX3_init_81 : decode cX3_init 81 = .ok (.iinc 3 (-1), 3) := by decide +kernel
theorem dX3_init_84 : decode cX3_init 84 = .ok (.goto (-20), 3) := by decide +kernel
theorem dX3_init_87 : decode cX3_init 87 = .ok (.return_, 1) := by decide +kernel
theorem dX3_beginWith_0 : decode cX3_beginWith 0 = .ok (.iconst 0, 1) := by decide +kernel
theorem dX3_beginWith_1 : decode cX3_beginWith 1 = .ok (.istore_n 3, 1) := by decide +kernel
theorem dX3_beginWith_2 : decode cX3_beginWith 2 = .ok (.iload_n 3, 1) := by decide +kernel
theorem dX3_beginWith_3 : decode cX3_beginWith 3 = .ok (.bipush 8, 2) := by decide +kernel
theorem dX3_beginWith_5 : decode cX3_beginWith 5 = .ok (.if_icmp .ge 26, 3) := by decide +kernel
theorem dX3_beginWith_8 : decode cX3_beginWith 8 = .ok (.aload_n 0, 1) := by decide +kernel
theorem dX3_beginWith_9 : decode cX3_beginWith 9 = .ok (.getfield 15, 3) := by decide +kernel
theorem dX3_beginWith_12 : decode cX3_beginWith 12 = .ok (.iload_n 3, 1) := by decide +kernel
theorem dX3_beginWith_13 : decode cX3_beginWith 13 = .ok (.lload_n 1, 1) := by decide +kernel
theorem dX3_beginWith_14 : decode cX3_beginWith 14 = .ok (.bipush 8, 2) := by decide +kernel
theorem dX3_beginWith_16 : decode cX3_beginWith 16 = .ok (.iload_n 3, 1) := by decide +kernel
theorem dX3_beginWith_17 : decode cX3_beginWith 17 = .ok (.imul, 1) := by decide +kernel
theorem dX3_beginWith_18 : decode cX3_beginWith 18 = .ok (.lushr, 1) := by decide +kernel
theorem dX3_beginWith_19 : decode cX3_beginWith 19 = .ok (.l2i, 1) := by decide +kernel
theorem dX3_beginWith_20 : decode cX3_beginWith 20 = .ok (.sipush 255, 3) := by decide +kernel
theorem dX3_beginWith_23 : decode cX3_beginWith 23 = .ok (.iand, 1) := by decide +kernel
theorem dX3_beginWith_24 : decode cX3_beginWith 24 = .ok (.iastore, 1) := by decide +kernel
theorem dX3_beginWith_25 : decode cX3_beginWith 25 = .ok (.iinc 3 1, 3) := by decide +kernel
theorem dX3_beginWith_28 : decode cX3_beginWith 28 = .ok (.goto (-26), 3) := by decide +kernel
theorem dX3_beginWith_31 : decode cX3_beginWith 31 = .ok (.return_, 1) := by decide +kernel
theorem dX3_makeChecks_0 : decode cX3_makeChecks 0 = .ok (.iconst 0, 1) := by decide +kernel
theorem dX3_makeChecks_1 : decode cX3_makeChecks 1 = .ok (.istore_n 1, 1) := by decide +kernel
theorem dX3_makeChecks_2 : decode cX3_makeChecks 2 = .ok (.iload_n 1, 1) := by decide +kernel
theorem dX3_makeChecks_3 : decode cX3_makeChecks 3 = .ok (.aload_n 0, 1) := by decide +kernel
theorem dX3_makeChecks_4 : decode cX3_makeChecks 4 = .ok (.getfield 9, 3) := by decide +kernel
theorem dX3_makeChecks_7 : decode cX3_makeChecks 7 = .ok (.if_icmp .ge 30, 3) := by decide +kernel
theorem dX3_makeChecks_10 : decode cX3_makeChecks 10 = .ok (.aload_n 0, 1) := by decide +kernel
theorem dX3_makeChecks_11 : decode cX3_makeChecks 11 = .ok (.getfield 19, 3) := by decide +kernel
theorem dX3_makeChecks_14 : decode cX3_makeChecks 14 = .ok (.iload_n 1, 1) := by decide +kernel
theorem dX3_makeChecks_15 : decode cX3_makeChecks 15 = .ok (.iload_n 1, 1) := by decide +kernel
theorem dX3_makeChecks_16 : decode cX3_makeChecks 16 = .ok (.aload_n 0, 1) := by decide +kernel
theorem dX3_makeChecks_17 : decode cX3_makeChecks 17 = .ok (.getfield 9, 3) := by decide +kernel
theorem dX3_makeChecks_20 : decode cX3_makeChecks 20 = .ok (.iconst 4, 1) := by decide +kernel
theorem dX3_makeChecks_21 : decode cX3_makeChecks 21 = .ok (.isub, 1) := by decide +kernel
theorem dX3_makeChecks_22 : decode cX3_makeChecks 22 = .ok (.if_icmp .lt 7, 3) := by decide +kernel
theorem dX3_makeChecks_25 : decode cX3_makeChecks 25 = .ok (.iconst 1, 1) := by decide +kernel
theorem dX3_makeChecks_26 : decode cX3_makeChecks 26 = .ok (.goto 4, 3) := by decide +kernel
theorem dX3_makeChecks_29 : decode cX3_makeChecks 29 = .ok (.iconst 0, 1) := by decide +kernel
theorem dX3_makeChecks_30 : decode cX3_makeChecks 30 = .ok (.bastore, 1) := by decide +kernel
theorem dX3_makeChecks_31 : decode cX3_makeChecks 31 = .ok (.iinc 1 1, 3) := by decide +kernel
theorem dX3_makeChecks_34 : decode cX3_makeChecks 34 = .ok (.goto (-32), 3) := by decide +kernel
theorem dX3_makeChecks_37 : decode cX3_makeChecks 37 = .ok (.aload_n 0, 1) := by decide +kernel
theorem dX3_makeChecks_38 : decode cX3_makeChecks 38 = .ok (.invokevirtual 44, 3) := by decide +kernel
theorem dX3_makeChecks_41 : decode cX3_makeChecks 41 = .ok (.pop, 1) := by decide +kernel
theorem dX3_makeChecks_42 : decode cX3_makeChecks 42 = .ok (.return_, 1) := by decide +kernel
theorem dX3_isWord_0 : decode cX3_isWord 0 = .ok (.aload_n 0, 1) := by decide +kernel
theorem dX3_isWord_1 : decode cX3_isWord 1 = .ok (.invokevirtual 48, 3) := by decide +kernel
theorem dX3_isWord_4 : decode cX3_isWord 4 = .ok (.iconst 0, 1) := by decide +kernel
theorem dX3_isWord_5 : decode cX3_isWord 5 = .ok (.istore_n 1, 1) := by decide +kernel
theorem dX3_isWord_6 : decode cX3_isWord 6 = .ok (.iload_n 1, 1) := by decide +kernel
theorem dX3_isWord_7 : decode cX3_isWord 7 = .ok (.iconst 4, 1) := by decide +kernel
theorem dX3_isWord_8 : decode cX3_isWord 8 = .ok (.if_icmp .ge 20, 3) := by decide +kernel
theorem dX3_isWord_11 : decode cX3_isWord 11 = .ok (.aload_n 0, 1) := by decide +kernel
theorem dX3_isWord_12 : decode cX3_isWord 12 = .ok (.getfield 26, 3) := by decide +kernel
theorem dX3_isWord_15 : decode cX3_isWord 15 = .ok (.iload_n 1, 1) := by decide +kernel
theorem dX3_isWord_16 : decode cX3_isWord 16 = .ok (.iaload, 1) := by decide +kernel
theorem dX3_isWord_17 : decode cX3_isWord 17 = .ok (.ifCond .eq 5, 3) := by decide +kernel
theorem dX3_isWord_20 : decode cX3_isWord 20 = .ok (.iconst 0, 1) := by decide +kernel
theorem dX3_isWord_21 : decode cX3_isWord 21 = .ok (.ireturn, 1) := by decide +kernel
theorem dX3_isWord_22 : decode cX3_isWord 22 = .ok (.iinc 1 1, 3) := by decide +kernel
theorem dX3_isWord_25 : decode cX3_isWord 25 = .ok (.goto (-19), 3) := by decide +kernel
theorem dX3_isWord_28 : decode cX3_isWord 28 = .ok (.iconst 1, 1) := by decide +kernel
theorem dX3_isWord_29 : decode cX3_isWord 29 = .ok (.ireturn, 1) := by decide +kernel
theorem dX3_makeSums_0 : decode cX3_makeSums 0 = .ok (.iconst 1, 1) := by decide +kernel
theorem dX3_makeSums_1 : decode cX3_makeSums 1 = .ok (.istore_n 1, 1) := by decide +kernel
theorem dX3_makeSums_2 : decode cX3_makeSums 2 = .ok (.iconst 0, 1) := by decide +kernel
theorem dX3_makeSums_3 : decode cX3_makeSums 3 = .ok (.istore_n 2, 1) := by decide +kernel
theorem dX3_makeSums_4 : decode cX3_makeSums 4 = .ok (.iload_n 2, 1) := by decide +kernel
theorem dX3_makeSums_5 : decode cX3_makeSums 5 = .ok (.iconst 4, 1) := by decide +kernel
theorem dX3_makeSums_6 : decode cX3_makeSums 6 = .ok (.if_icmp .ge 56, 3) := by decide +kernel
theorem dX3_makeSums_9 : decode cX3_makeSums 9 = .ok (.iconst 0, 1) := by decide +kernel
theorem dX3_makeSums_10 : decode cX3_makeSums 10 = .ok (.istore_n 3, 1) := by decide +kernel
theorem dX3_makeSums_11 : decode cX3_makeSums 11 = .ok (.iconst 0, 1) := by decide +kernel
theorem dX3_makeSums_12 : decode cX3_makeSums 12 = .ok (.istore 4, 2) := by decide +kernel
theorem dX3_makeSums_14 : decode cX3_makeSums 14 = .ok (.iload 4, 2) := by decide +kernel
theorem dX3_makeSums_16 : decode cX3_makeSums 16 = .ok (.aload_n 0, 1) := by decide +kernel
theorem dX3_makeSums_17 : decode cX3_makeSums 17 = .ok (.getfield 9, 3) := by decide +kernel
theorem dX3_makeSums_20 : decode cX3_makeSums 20 = .ok (.if_icmp .ge 23, 3) := by decide +kernel
theorem dX3_makeSums_23 : decode cX3_makeSums 23 = .ok (.iload_n 3, 1) := by decide +kernel
theorem dX3_makeSums_24 : decode cX3_makeSums 24 = .ok (.iload_n 1, 1) := by decide +kernel
theorem dX3_makeSums_25 : decode cX3_makeSums 25 = .ok (.invokestatic 38, 3) := by decide +kernel
theorem dX3_makeSums_28 : decode cX3_makeSums 28 = .ok (.aload_n 0, 1) := by decide +kernel
theorem dX3_makeSums_29 : decode cX3_makeSums 29 = .ok (.getfield 15, 3) := by decide +kernel
theorem dX3_makeSums_32 : decode cX3_makeSums 32 = .ok (.iload 4, 2) := by decide +kernel
theorem dX3_makeSums_34 : decode cX3_makeSums 34 = .ok (.iaload, 1) := by decide +kernel
theorem dX3_makeSums_35 : decode cX3_makeSums 35 = .ok (.ixor, 1) := by decide +kernel
theorem dX3_makeSums_36 : decode cX3_makeSums 36 = .ok (.istore_n 3, 1) := by decide +kernel
theorem dX3_makeSums_37 : decode cX3_makeSums 37 = .ok (.iinc 4 1, 3) := by decide +kernel
theorem dX3_makeSums_40 : decode cX3_makeSums 40 = .ok (.goto (-26), 3) := by decide +kernel
theorem dX3_makeSums_43 : decode cX3_makeSums 43 = .ok (.aload_n 0, 1) := by decide +kernel
theorem dX3_makeSums_44 : decode cX3_makeSums 44 = .ok (.getfield 26, 3) := by decide +kernel
theorem dX3_makeSums_47 : decode cX3_makeSums 47 = .ok (.iload_n 2, 1) := by decide +kernel
theorem dX3_makeSums_48 : decode cX3_makeSums 48 = .ok (.iload_n 3, 1) := by decide +kernel
theorem dX3_makeSums_49 : decode cX3_makeSums 49 = .ok (.iastore, 1) := by decide +kernel
theorem dX3_makeSums_50 : decode cX3_makeSums 50 = .ok (.iload_n 1, 1) := by decide +kernel
theorem dX3_makeSums_51 : decode cX3_makeSums 51 = .ok (.iconst 2, 1) := by decide +kernel
theorem dX3_makeSums_52 : decode cX3_makeSums 52 = .ok (.invokestatic 38, 3) := by decide +kernel
theorem dX3_makeSums_55 : decode cX3_makeSums 55 = .ok (.istore_n 1, 1) := by decide +kernel
theorem dX3_makeSums_56 : decode cX3_makeSums 56 = .ok (.iinc 2 1, 3) := by decide +kernel
theorem dX3_makeSums_59 : decode cX3_makeSums 59 = .ok (.goto (-55), 3) := by decide +kernel
theorem dX3_makeSums_62 : decode cX3_makeSums 62 = .ok (.return_, 1) := by decide +kernel
theorem dX3_mendOne_0 : decode cX3_mendOne 0 = .ok (.aload_n 0, 1) := by decide +kernel
theorem dX3_mendOne_1 : decode cX3_mendOne 1 = .ok (.invokevirtual 51, 3) := by decide +kernel
theorem dX3_mendOne_4 : decode cX3_mendOne 4 = .ok (.ifCond .eq 5, 3) := by decide +kernel
theorem dX3_mendOne_7 : decode cX3_mendOne 7 = .ok (.iconst 0, 1) := by decide +kernel
theorem dX3_mendOne_8 : decode cX3_mendOne 8 = .ok (.ireturn, 1) := by decide +kernel
theorem dX3_mendOne_9 : decode cX3_mendOne 9 = .ok (.iconst 0, 1) := by decide +kernel
theorem dX3_mendOne_10 : decode cX3_mendOne 10 = .ok (.istore_n 1, 1) := by decide +kernel
theorem dX3_mendOne_11 : decode cX3_mendOne 11 = .ok (.iload_n 1, 1) := by decide +kernel
theorem dX3_mendOne_12 : decode cX3_mendOne 12 = .ok (.aload_n 0, 1) := by decide +kernel
theorem dX3_mendOne_13 : decode cX3_mendOne 13 = .ok (.getfield 9, 3) := by decide +kernel
theorem dX3_mendOne_16 : decode cX3_mendOne 16 = .ok (.if_icmp .ge 34, 3) := by decide +kernel
theorem dX3_mendOne_19 : decode cX3_mendOne 19 = .ok (.aload_n 0, 1) := by decide +kernel
theorem dX3_mendOne_20 : decode cX3_mendOne 20 = .ok (.iload_n 1, 1) := by decide +kernel
theorem dX3_mendOne_21 : decode cX3_mendOne 21 = .ok (.invokevirtual 54, 3) := by decide +kernel
theorem dX3_mendOne_24 : decode cX3_mendOne 24 = .ok (.ifCond .eq 20, 3) := by decide +kernel
theorem dX3_mendOne_27 : decode cX3_mendOne 27 = .ok (.aload_n 0, 1) := by decide +kernel
theorem dX3_mendOne_28 : decode cX3_mendOne 28 = .ok (.getfield 15, 3) := by decide +kernel
theorem dX3_mendOne_31 : decode cX3_mendOne 31 = .ok (.iload_n 1, 1) := by decide +kernel
theorem dX3_mendOne_32 : decode cX3_mendOne 32 = .ok (.dup2, 1) := by decide +kernel
theorem dX3_mendOne_33 : decode cX3_mendOne 33 = .ok (.iaload, 1) := by decide +kernel
theorem dX3_mendOne_34 : decode cX3_mendOne 34 = .ok (.aload_n 0, 1) := by decide +kernel
theorem dX3_mendOne_35 : decode cX3_mendOne 35 = .ok (.getfield 26, 3) := by decide +kernel
theorem dX3_mendOne_38 : decode cX3_mendOne 38 = .ok (.iconst 0, 1) := by decide +kernel
theorem dX3_mendOne_39 : decode cX3_mendOne 39 = .ok (.iaload, 1) := by decide +kernel
theorem dX3_mendOne_40 : decode cX3_mendOne 40 = .ok (.ixor, 1) := by decide +kernel
theorem dX3_mendOne_41 : decode cX3_mendOne 41 = .ok (.iastore, 1) := by decide +kernel
theorem dX3_mendOne_42 : decode cX3_mendOne 42 = .ok (.iconst 1, 1) := by decide +kernel
theorem dX3_mendOne_43 : decode cX3_mendOne 43 = .ok (.ireturn, 1) := by decide +kernel
theorem dX3_mendOne_44 : decode cX3_mendOne 44 = .ok (.iinc 1 1, 3) := by decide +kernel
theorem dX3_mendOne_47 : decode cX3_mendOne 47 = .ok (.goto (-36), 3) := by decide +kernel
theorem dX3_mendOne_50 : decode cX3_mendOne 50 = .ok (.iconst 0, 1) := by decide +kernel
theorem dX3_mendOne_51 : decode cX3_mendOne 51 = .ok (.ireturn, 1) := by decide +kernel
theorem dX3_isOnlyFault_0 : decode cX3_isOnlyFault 0 = .ok (.aload_n 0, 1) := by decide +kernel
theorem dX3_isOnlyFault_1 : decode cX3_isOnlyFault 1 = .ok (.getfield 26, 3) := by decide +kernel
theorem dX3_isOnlyFault_4 : decode cX3_isOnlyFault 4 = .ok (.iconst 0, 1) := by decide +kernel
theorem dX3_isOnlyFault_5 : decode cX3_isOnlyFault 5 = .ok (.iaload, 1) := by decide +kernel
theorem dX3_isOnlyFault_6 : decode cX3_isOnlyFault 6 = .ok (.istore_n 2, 1) := by decide +kernel
theorem dX3_isOnlyFault_7 : decode cX3_isOnlyFault 7 = .ok (.iconst 1, 1) := by decide +kernel
theorem dX3_isOnlyFault_8 : decode cX3_isOnlyFault 8 = .ok (.istore_n 3, 1) := by decide +kernel
theorem dX3_isOnlyFault_9 : decode cX3_isOnlyFault 9 = .ok (.iload_n 3, 1) := by decide +kernel
theorem dX3_isOnlyFault_10 : decode cX3_isOnlyFault 10 = .ok (.iconst 4, 1) := by decide +kernel
theorem dX3_isOnlyFault_11 : decode cX3_isOnlyFault 11 = .ok (.if_icmp .ge 32, 3) := by decide +kernel
theorem dX3_isOnlyFault_14 : decode cX3_isOnlyFault 14 = .ok (.iload_n 2, 1) := by decide +kernel
theorem dX3_isOnlyFault_15 : decode cX3_isOnlyFault 15 = .ok (.aload_n 0, 1) := by decide +kernel
theorem dX3_isOnlyFault_16 : decode cX3_isOnlyFault 16 = .ok (.getfield 23, 3) := by decide +kernel
theorem dX3_isOnlyFault_19 : decode cX3_isOnlyFault 19 = .ok (.iload_n 1, 1) := by decide +kernel
theorem dX3_isOnlyFault_20 : decode cX3_isOnlyFault 20 = .ok (.iaload, 1) := by decide +kernel
theorem dX3_isOnlyFault_21 : decode cX3_isOnlyFault 21 = .ok (.invokestatic 38, 3) := by decide +kernel
theorem dX3_isOnlyFault_24 : decode cX3_isOnlyFault 24 = .ok (.istore_n 2, 1) := by decide +kernel
theorem dX3_isOnlyFault_25 : decode cX3_isOnlyFault 25 = .ok (.iload_n 2, 1) := by decide +kernel
theorem dX3_isOnlyFault_26 : decode cX3_isOnlyFault 26 = .ok (.aload_n 0, 1) := by decide +kernel
theorem dX3_isOnlyFault_27 : decode cX3_isOnlyFault 27 = .ok (.getfield 26, 3) := by decide +kernel
theorem dX3_isOnlyFault_30 : decode cX3_isOnlyFault 30 = .ok (.iload_n 3, 1) := by decide +kernel
theorem dX3_isOnlyFault_31 : decode cX3_isOnlyFault 31 = .ok (.iaload, 1) := by decide +kernel
theorem dX3_isOnlyFault_32 : decode cX3_isOnlyFault 32 = .ok (.if_icmp .eq 5, 3) := by decide +kernel
theorem dX3_isOnlyFault_35 : decode cX3_isOnlyFault 35 = .ok (.iconst 0, 1) := by decide +kernel
theorem dX3_isOnlyFault_36 : decode cX3_isOnlyFault 36 = .ok (.ireturn, 1) := by decide +kernel
theorem dX3_isOnlyFault_37 : decode cX3_isOnlyFault 37 = .ok (.iinc 3 1, 3) := by decide +kernel
theorem dX3_isOnlyFault_40 : decode cX3_isOnlyFault 40 = .ok (.goto (-31), 3) := by decide +kernel
theorem dX3_isOnlyFault_43 : decode cX3_isOnlyFault 43 = .ok (.iconst 1, 1) := by decide +kernel
theorem dX3_isOnlyFault_44 : decode cX3_isOnlyFault 44 = .ok (.ireturn, 1) := by decide +kernel
theorem dX3_countDoubted_0 : decode cX3_countDoubted 0 = .ok (.iconst 0, 1) := by decide +kernel
theorem dX3_countDoubted_1 : decode cX3_countDoubted 1 = .ok (.istore_n 1, 1) := by decide +kernel
theorem dX3_countDoubted_2 : decode cX3_countDoubted 2 = .ok (.iconst 0, 1) := by decide +kernel
theorem dX3_countDoubted_3 : decode cX3_countDoubted 3 = .ok (.istore_n 2, 1) := by decide +kernel
theorem dX3_countDoubted_4 : decode cX3_countDoubted 4 = .ok (.iload_n 2, 1) := by decide +kernel
theorem dX3_countDoubted_5 : decode cX3_countDoubted 5 = .ok (.aload_n 0, 1) := by decide +kernel
theorem dX3_countDoubted_6 : decode cX3_countDoubted 6 = .ok (.getfield 9, 3) := by decide +kernel
theorem dX3_countDoubted_9 : decode cX3_countDoubted 9 = .ok (.if_icmp .ge 21, 3) := by decide +kernel
theorem dX3_countDoubted_12 : decode cX3_countDoubted 12 = .ok (.aload_n 0, 1) := by decide +kernel
theorem dX3_countDoubted_13 : decode cX3_countDoubted 13 = .ok (.getfield 19, 3) := by decide +kernel
theorem dX3_countDoubted_16 : decode cX3_countDoubted 16 = .ok (.iload_n 2, 1) := by decide +kernel
theorem dX3_countDoubted_17 : decode cX3_countDoubted 17 = .ok (.baload, 1) := by decide +kernel
theorem dX3_countDoubted_18 : decode cX3_countDoubted 18 = .ok (.ifCond .eq 6, 3) := by decide +kernel
theorem dX3_countDoubted_21 : decode cX3_countDoubted 21 = .ok (.iinc 1 1, 3) := by decide +kernel
theorem dX3_countDoubted_24 : decode cX3_countDoubted 24 = .ok (.iinc 2 1, 3) := by decide +kernel
theorem dX3_countDoubted_27 : decode cX3_countDoubted 27 = .ok (.goto (-23), 3) := by decide +kernel
theorem dX3_countDoubted_30 : decode cX3_countDoubted 30 = .ok (.iload_n 1, 1) := by decide +kernel
theorem dX3_countDoubted_31 : decode cX3_countDoubted 31 = .ok (.ireturn, 1) := by decide +kernel
theorem dX3_fillDoubted_0 : decode cX3_fillDoubted 0 = .ok (.aload_n 0, 1) := by decide +kernel
theorem dX3_fillDoubted_1 : decode cX3_fillDoubted 1 = .ok (.invokevirtual 58, 3) := by decide +kernel
theorem dX3_fillDoubted_4 : decode cX3_fillDoubted 4 = .ok (.istore_n 1, 1) := by decide +kernel
theorem dX3_fillDoubted_5 : decode cX3_fillDoubted 5 = .ok (.iload_n 1, 1) := by decide +kernel
theorem dX3_fillDoubted_6 : decode cX3_fillDoubted 6 = .ok (.iconst 4, 1) := by decide +kernel
theorem dX3_fillDoubted_7 : decode cX3_fillDoubted 7 = .ok (.if_icmp .le 5, 3) := by decide +kernel
theorem dX3_fillDoubted_10 : decode cX3_fillDoubted 10 = .ok (.iconst 0, 1) := by decide +kernel
theorem dX3_fillDoubted_11 : decode cX3_fillDoubted 11 = .ok (.ireturn, 1) := by decide +kernel
theorem dX3_fillDoubted_12 : decode cX3_fillDoubted 12 = .ok (.aload_n 0, 1) := by decide +kernel
theorem dX3_fillDoubted_13 : decode cX3_fillDoubted 13 = .ok (.invokevirtual 62, 3) := by decide +kernel
theorem dX3_fillDoubted_16 : decode cX3_fillDoubted 16 = .ok (.aload_n 0, 1) := by decide +kernel
theorem dX3_fillDoubted_17 : decode cX3_fillDoubted 17 = .ok (.invokevirtual 48, 3) := by decide +kernel
theorem dX3_fillDoubted_20 : decode cX3_fillDoubted 20 = .ok (.iconst 0, 1) := by decide +kernel
theorem dX3_fillDoubted_21 : decode cX3_fillDoubted 21 = .ok (.istore_n 2, 1) := by decide +kernel
theorem dX3_fillDoubted_22 : decode cX3_fillDoubted 22 = .ok (.iload_n 2, 1) := by decide +kernel
theorem dX3_fillDoubted_23 : decode cX3_fillDoubted 23 = .ok (.iload_n 1, 1) := by decide +kernel
theorem dX3_fillDoubted_24 : decode cX3_fillDoubted 24 = .ok (.if_icmp .ge 21, 3) := by decide +kernel
theorem dX3_fillDoubted_27 : decode cX3_fillDoubted 27 = .ok (.aload_n 0, 1) := by decide +kernel
theorem dX3_fillDoubted_28 : decode cX3_fillDoubted 28 = .ok (.getfield 32, 3) := by decide +kernel
theorem dX3_fillDoubted_31 : decode cX3_fillDoubted 31 = .ok (.iload_n 2, 1) := by decide +kernel
theorem dX3_fillDoubted_32 : decode cX3_fillDoubted 32 = .ok (.aload_n 0, 1) := by decide +kernel
theorem dX3_fillDoubted_33 : decode cX3_fillDoubted 33 = .ok (.iload_n 2, 1) := by decide +kernel
theorem dX3_fillDoubted_34 : decode cX3_fillDoubted 34 = .ok (.iload_n 1, 1) := by decide +kernel
theorem dX3_fillDoubted_35 : decode cX3_fillDoubted 35 = .ok (.invokevirtual 65, 3) := by decide +kernel
theorem dX3_fillDoubted_38 : decode cX3_fillDoubted 38 = .ok (.iastore, 1) := by decide +kernel
theorem dX3_fillDoubted_39 : decode cX3_fillDoubted 39 = .ok (.iinc 2 1, 3) := by decide +kernel
theorem dX3_fillDoubted_42 : decode cX3_fillDoubted 42 = .ok (.goto (-20), 3) := by decide +kernel
theorem dX3_fillDoubted_45 : decode cX3_fillDoubted 45 = .ok (.aload_n 0, 1) := by decide +kernel
theorem dX3_fillDoubted_46 : decode cX3_fillDoubted 46 = .ok (.iload_n 1, 1) := by decide +kernel
theorem dX3_fillDoubted_47 : decode cX3_fillDoubted 47 = .ok (.invokevirtual 68, 3) := by decide +kernel
theorem dX3_fillDoubted_50 : decode cX3_fillDoubted 50 = .ok (.aload_n 0, 1) := by decide +kernel
theorem dX3_fillDoubted_51 : decode cX3_fillDoubted 51 = .ok (.invokevirtual 51, 3) := by decide +kernel
theorem dX3_fillDoubted_54 : decode cX3_fillDoubted 54 = .ok (.ifCond .eq 5, 3) := by decide +kernel
theorem dX3_fillDoubted_57 : decode cX3_fillDoubted 57 = .ok (.iconst 1, 1) := by decide +kernel
theorem dX3_fillDoubted_58 : decode cX3_fillDoubted 58 = .ok (.ireturn, 1) := by decide +kernel
theorem dX3_fillDoubted_59 : decode cX3_fillDoubted 59 = .ok (.aload_n 0, 1) := by decide +kernel
theorem dX3_fillDoubted_60 : decode cX3_fillDoubted 60 = .ok (.iload_n 1, 1) := by decide +kernel
theorem dX3_fillDoubted_61 : decode cX3_fillDoubted 61 = .ok (.invokevirtual 68, 3) := by decide +kernel
theorem dX3_fillDoubted_64 : decode cX3_fillDoubted 64 = .ok (.iconst 0, 1) := by decide +kernel
theorem dX3_fillDoubted_65 : decode cX3_fillDoubted 65 = .ok (.ireturn, 1) := by decide +kernel
theorem dX3_listDoubted_0 : decode cX3_listDoubted 0 = .ok (.iconst 0, 1) := by decide +kernel
theorem dX3_listDoubted_1 : decode cX3_listDoubted 1 = .ok (.istore_n 1, 1) := by decide +kernel
theorem dX3_listDoubted_2 : decode cX3_listDoubted 2 = .ok (.iconst 0, 1) := by decide +kernel
theorem dX3_listDoubted_3 : decode cX3_listDoubted 3 = .ok (.istore_n 2, 1) := by decide +kernel
theorem dX3_listDoubted_4 : decode cX3_listDoubted 4 = .ok (.iload_n 2, 1) := by decide +kernel
theorem dX3_listDoubted_5 : decode cX3_listDoubted 5 = .ok (.aload_n 0, 1) := by decide +kernel
theorem dX3_listDoubted_6 : decode cX3_listDoubted 6 = .ok (.getfield 9, 3) := by decide +kernel
theorem dX3_listDoubted_9 : decode cX3_listDoubted 9 = .ok (.if_icmp .ge 33, 3) := by decide +kernel
theorem dX3_listDoubted_12 : decode cX3_listDoubted 12 = .ok (.aload_n 0, 1) := by decide +kernel
theorem dX3_listDoubted_13 : decode cX3_listDoubted 13 = .ok (.getfield 19, 3) := by decide +kernel
theorem dX3_listDoubted_16 : decode cX3_listDoubted 16 = .ok (.iload_n 2, 1) := by decide +kernel
theorem dX3_listDoubted_17 : decode cX3_listDoubted 17 = .ok (.baload, 1) := by decide +kernel
theorem dX3_listDoubted_18 : decode cX3_listDoubted 18 = .ok (.ifCond .eq 18, 3) := by decide +kernel
theorem dX3_listDoubted_21 : decode cX3_listDoubted 21 = .ok (.iload_n 1, 1) := by decide +kernel
theorem dX3_listDoubted_22 : decode cX3_listDoubted 22 = .ok (.iconst 4, 1) := by decide +kernel
theorem dX3_listDoubted_23 : decode cX3_listDoubted 23 = .ok (.if_icmp .ge 13, 3) := by decide +kernel
theorem dX3_listDoubted_26 : decode cX3_listDoubted 26 = .ok (.aload_n 0, 1) := by decide +kernel
theorem dX3_listDoubted_27 : decode cX3_listDoubted 27 = .ok (.getfield 29, 3) := by decide +kernel
theorem dX3_listDoubted_30 : decode cX3_listDoubted 30 = .ok (.iload_n 1, 1) := by decide +kernel
theorem dX3_listDoubted_31 : decode cX3_listDoubted 31 = .ok (.iload_n 2, 1) := by decide +kernel
theorem dX3_listDoubted_32 : decode cX3_listDoubted 32 = .ok (.iastore, 1) := by decide +kernel
theorem dX3_listDoubted_33 : decode cX3_listDoubted 33 = .ok (.iinc 1 1, 3) := by decide +kernel
theorem dX3_listDoubted_36 : decode cX3_listDoubted 36 = .ok (.iinc 2 1, 3) := by decide +kernel
theorem dX3_listDoubted_39 : decode cX3_listDoubted 39 = .ok (.goto (-35), 3) := by decide +kernel
theorem dX3_listDoubted_42 : decode cX3_listDoubted 42 = .ok (.return_, 1) := by decide +kernel
theorem dX3_addChanges_0 : decode cX3_addChanges 0 = .ok (.iconst 0, 1) := by decide +kernel
theorem dX3_addChanges_1 : decode cX3_addChanges 1 = .ok (.istore_n 2, 1) := by decide +kernel
theorem dX3_addChanges_2 : decode cX3_addChanges 2 = .ok (.iload_n 2, 1) := by decide +kernel
theorem dX3_addChanges_3 : decode cX3_addChanges 3 = .ok (.iload_n 1, 1) := by decide +kernel
theorem dX3_addChanges_4 : decode cX3_addChanges 4 = .ok (.if_icmp .ge 29, 3) := by decide +kernel
theorem dX3_addChanges_7 : decode cX3_addChanges 7 = .ok (.aload_n 0, 1) := by decide +kernel
theorem dX3_addChanges_8 : decode cX3_addChanges 8 = .ok (.getfield 15, 3) := by decide +kernel
theorem dX3_addChanges_11 : decode cX3_addChanges 11 = .ok (.aload_n 0, 1) := by decide +kernel
theorem dX3_addChanges_12 : decode cX3_addChanges 12 = .ok (.getfield 29, 3) := by decide +kernel
theorem dX3_addChanges_15 : decode cX3_addChanges 15 = .ok (.iload_n 2, 1) := by decide +kernel
theorem dX3_addChanges_16 : decode cX3_addChanges 16 = .ok (.iaload, 1) := by decide +kernel
theorem dX3_addChanges_17 : decode cX3_addChanges 17 = .ok (.dup2, 1) := by decide +kernel
theorem dX3_addChanges_18 : decode cX3_addChanges 18 = .ok (.iaload, 1) := by decide +kernel
theorem dX3_addChanges_19 : decode cX3_addChanges 19 = .ok (.aload_n 0, 1) := by decide +kernel
theorem dX3_addChanges_20 : decode cX3_addChanges 20 = .ok (.getfield 32, 3) := by decide +kernel
theorem dX3_addChanges_23 : decode cX3_addChanges 23 = .ok (.iload_n 2, 1) := by decide +kernel
theorem dX3_addChanges_24 : decode cX3_addChanges 24 = .ok (.iaload, 1) := by decide +kernel
theorem dX3_addChanges_25 : decode cX3_addChanges 25 = .ok (.ixor, 1) := by decide +kernel
theorem dX3_addChanges_26 : decode cX3_addChanges 26 = .ok (.iastore, 1) := by decide +kernel
theorem dX3_addChanges_27 : decode cX3_addChanges 27 = .ok (.iinc 2 1, 3) := by decide +kernel
theorem dX3_addChanges_30 : decode cX3_addChanges 30 = .ok (.goto (-28), 3) := by decide +kernel
theorem dX3_addChanges_33 : decode cX3_addChanges 33 = .ok (.return_, 1) := by decide +kernel
theorem dX3_changeAt_0 : decode cX3_changeAt 0 = .ok (.aload_n 0, 1) := by decide +kernel
theorem dX3_changeAt_1 : decode cX3_changeAt 1 = .ok (.getfield 23, 3) := by decide +kernel
theorem dX3_changeAt_4 : decode cX3_changeAt 4 = .ok (.aload_n 0, 1) := by decide +kernel
theorem dX3_changeAt_5 : decode cX3_changeAt 5 = .ok (.getfield 29, 3) := by decide +kernel
theorem dX3_changeAt_8 : decode cX3_changeAt 8 = .ok (.iload_n 1, 1) := by decide +kernel
theorem dX3_changeAt_9 : decode cX3_changeAt 9 = .ok (.iaload, 1) := by decide +kernel
theorem dX3_changeAt_10 : decode cX3_changeAt 10 = .ok (.iaload, 1) := by decide +kernel
theorem dX3_changeAt_11 : decode cX3_changeAt 11 = .ok (.istore_n 3, 1) := by decide +kernel
theorem dX3_changeAt_12 : decode cX3_changeAt 12 = .ok (.iconst 1, 1) := by decide +kernel
theorem dX3_changeAt_13 : decode cX3_changeAt 13 = .ok (.istore 4, 2) := by decide +kernel
theorem dX3_changeAt_15 : decode cX3_changeAt 15 = .ok (.aload_n 0, 1) := by decide +kernel
theorem dX3_changeAt_16 : decode cX3_changeAt 16 = .ok (.invokevirtual 72, 3) := by decide +kernel
theorem dX3_changeAt_19 : decode cX3_changeAt 19 = .ok (.iconst 0, 1) := by decide +kernel
theorem dX3_changeAt_20 : decode cX3_changeAt 20 = .ok (.istore 5, 2) := by decide +kernel
theorem dX3_changeAt_22 : decode cX3_changeAt 22 = .ok (.iload 5, 2) := by decide +kernel
theorem dX3_changeAt_24 : decode cX3_changeAt 24 = .ok (.iload_n 2, 1) := by decide +kernel
theorem dX3_changeAt_25 : decode cX3_changeAt 25 = .ok (.if_icmp .ge 46, 3) := by decide +kernel
theorem dX3_changeAt_28 : decode cX3_changeAt 28 = .ok (.iload 5, 2) := by decide +kernel
theorem dX3_changeAt_30 : decode cX3_changeAt 30 = .ok (.iload_n 1, 1) := by decide +kernel
theorem dX3_changeAt_31 : decode cX3_changeAt 31 = .ok (.if_icmp .eq 34, 3) := by decide +kernel
theorem dX3_changeAt_34 : decode cX3_changeAt 34 = .ok (.aload_n 0, 1) := by decide +kernel
theorem dX3_changeAt_35 : decode cX3_changeAt 35 = .ok (.getfield 23, 3) := by decide +kernel
theorem dX3_changeAt_38 : decode cX3_changeAt 38 = .ok (.aload_n 0, 1) := by decide +kernel
theorem dX3_changeAt_39 : decode cX3_changeAt 39 = .ok (.getfield 29, 3) := by decide +kernel
theorem dX3_changeAt_42 : decode cX3_changeAt 42 = .ok (.iload 5, 2) := by decide +kernel
theorem dX3_changeAt_44 : decode cX3_changeAt 44 = .ok (.iaload, 1) := by decide +kernel
theorem dX3_changeAt_45 : decode cX3_changeAt 45 = .ok (.iaload, 1) := by decide +kernel
theorem dX3_changeAt_46 : decode cX3_changeAt 46 = .ok (.istore 6, 2) := by decide +kernel
theorem dX3_changeAt_48 : decode cX3_changeAt 48 = .ok (.aload_n 0, 1) := by decide +kernel
theorem dX3_changeAt_49 : decode cX3_changeAt 49 = .ok (.iload 6, 2) := by decide +kernel
theorem dX3_changeAt_51 : decode cX3_changeAt 51 = .ok (.invokevirtual 75, 3) := by decide +kernel
theorem dX3_changeAt_54 : decode cX3_changeAt 54 = .ok (.iload 4, 2) := by decide +kernel
theorem dX3_changeAt_56 : decode cX3_changeAt 56 = .ok (.iload_n 3, 1) := by decide +kernel
theorem dX3_changeAt_57 : decode cX3_changeAt 57 = .ok (.iload 6, 2) := by decide +kernel
theorem dX3_changeAt_59 : decode cX3_changeAt 59 = .ok (.ixor, 1) := by decide +kernel
theorem dX3_changeAt_60 : decode cX3_changeAt 60 = .ok (.invokestatic 38, 3) := by decide +kernel
theorem dX3_changeAt_63 : decode cX3_changeAt 63 = .ok (.istore 4, 2) := by decide +kernel
theorem dX3_changeAt_65 : decode cX3_changeAt 65 = .ok (.iinc 5 1, 3) := by decide +kernel
theorem dX3_changeAt_68 : decode cX3_changeAt 68 = .ok (.goto (-46), 3) := by decide +kernel
theorem dX3_changeAt_71 : decode cX3_changeAt 71 = .ok (.aload_n 0, 1) := by decide +kernel
theorem dX3_changeAt_72 : decode cX3_changeAt 72 = .ok (.invokevirtual 78, 3) := by decide +kernel
theorem dX3_changeAt_75 : decode cX3_changeAt 75 = .ok (.iload 4, 2) := by decide +kernel
theorem dX3_changeAt_77 : decode cX3_changeAt 77 = .ok (.invokestatic 81, 3) := by decide +kernel
theorem dX3_changeAt_80 : decode cX3_changeAt 80 = .ok (.invokestatic 38, 3) := by decide +kernel
theorem dX3_changeAt_83 : decode cX3_changeAt 83 = .ok (.ireturn, 1) := by decide +kernel
theorem dX3_startWeights_0 : decode cX3_startWeights 0 = .ok (.aload_n 0, 1) := by decide +kernel
theorem dX3_startWeights_1 : decode cX3_startWeights 1 = .ok (.getfield 35, 3) := by decide +kernel
theorem dX3_startWeights_4 : decode cX3_startWeights 4 = .ok (.iconst 0, 1) := by decide +kernel
theorem dX3_startWeights_5 : decode cX3_startWeights 5 = .ok (.iconst 1, 1) := by decide +kernel
theorem dX3_startWeights_6 : decode cX3_startWeights 6 = .ok (.iastore, 1) := by decide +kernel
theorem dX3_startWeights_7 : decode cX3_startWeights 7 = .ok (.iconst 1, 1) := by decide +kernel
theorem dX3_startWeights_8 : decode cX3_startWeights 8 = .ok (.istore_n 1, 1) := by decide +kernel
theorem dX3_startWeights_9 : decode cX3_startWeights 9 = .ok (.iload_n 1, 1) := by decide +kernel
theorem dX3_startWeights_10 : decode cX3_startWeights 10 = .ok (.iconst 4, 1) := by decide +kernel
theorem dX3_startWeights_11 : decode cX3_startWeights 11 = .ok (.if_icmp .ge 16, 3) := by decide +kernel
theorem dX3_startWeights_14 : decode cX3_startWeights 14 = .ok (.aload_n 0, 1) := by decide +kernel
theorem dX3_startWeights_15 : decode cX3_startWeights 15 = .ok (.getfield 35, 3) := by decide +kernel
theorem dX3_startWeights_18 : decode cX3_startWeights 18 = .ok (.iload_n 1, 1) := by decide +kernel
theorem dX3_startWeights_19 : decode cX3_startWeights 19 = .ok (.iconst 0, 1) := by decide +kernel
theorem dX3_startWeights_20 : decode cX3_startWeights 20 = .ok (.iastore, 1) := by decide +kernel
theorem dX3_startWeights_21 : decode cX3_startWeights 21 = .ok (.iinc 1 1, 3) := by decide +kernel
theorem dX3_startWeights_24 : decode cX3_startWeights 24 = .ok (.goto (-15), 3) := by decide +kernel
theorem dX3_startWeights_27 : decode cX3_startWeights 27 = .ok (.return_, 1) := by decide +kernel
theorem dX3_addRoot_0 : decode cX3_addRoot 0 = .ok (.iconst 3, 1) := by decide +kernel
theorem dX3_addRoot_1 : decode cX3_addRoot 1 = .ok (.istore_n 2, 1) := by decide +kernel
theorem dX3_addRoot_2 : decode cX3_addRoot 2 = .ok (.iload_n 2, 1) := by decide +kernel
theorem dX3_addRoot_3 : decode cX3_addRoot 3 = .ok (.ifCond .le 34, 3) := by decide +kernel
theorem dX3_addRoot_6 : decode cX3_addRoot 6 = .ok (.aload_n 0, 1) := by decide +kernel
theorem dX3_addRoot_7 : decode cX3_addRoot 7 = .ok (.getfield 35, 3) := by decide +kernel
theorem dX3_addRoot_10 : decode cX3_addRoot 10 = .ok (.iload_n 2, 1) := by decide +kernel
theorem dX3_addRoot_11 : decode cX3_addRoot 11 = .ok (.aload_n 0, 1) := by decide +kernel
theorem dX3_addRoot_12 : decode cX3_addRoot 12 = .ok (.getfield 35, 3) := by decide +kernel
theorem dX3_addRoot_15 : decode cX3_addRoot 15 = .ok (.iload_n 2, 1) := by decide +kernel
theorem dX3_addRoot_16 : decode cX3_addRoot 16 = .ok (.iaload, 1) := by decide +kernel
theorem dX3_addRoot_17 : decode cX3_addRoot 17 = .ok (.iload_n 1, 1) := by decide +kernel
theorem dX3_addRoot_18 : decode cX3_addRoot 18 = .ok (.invokestatic 38, 3) := by decide +kernel
theorem dX3_addRoot_21 : decode cX3_addRoot 21 = .ok (.aload_n 0, 1) := by decide +kernel
theorem dX3_addRoot_22 : decode cX3_addRoot 22 = .ok (.getfield 35, 3) := by decide +kernel
theorem dX3_addRoot_25 : decode cX3_addRoot 25 = .ok (.iload_n 2, 1) := by decide +kernel
theorem dX3_addRoot_26 : decode cX3_addRoot 26 = .ok (.iconst 1, 1) := by decide +kernel
theorem dX3_addRoot_27 : decode cX3_addRoot 27 = .ok (.isub, 1) := by decide +kernel
theorem dX3_addRoot_28 : decode cX3_addRoot 28 = .ok (.iaload, 1) := by decide +kernel
theorem dX3_addRoot_29 : decode cX3_addRoot 29 = .ok (.ixor, 1) := by decide +kernel
theorem dX3_addRoot_30 : decode cX3_addRoot 30 = .ok (.iastore, 1) := by decide +kernel
theorem dX3_addRoot_31 : decode cX3_addRoot 31 = .ok (.iinc 2 (-1), 3) := by decide +kernel
theorem dX3_addRoot_34 : decode cX3_addRoot 34 = .ok (.goto (-32), 3) := by decide +kernel
theorem dX3_addRoot_37 : decode cX3_addRoot 37 = .ok (.aload_n 0, 1) := by decide +kernel
theorem dX3_addRoot_38 : decode cX3_addRoot 38 = .ok (.getfield 35, 3) := by decide +kernel
theorem dX3_addRoot_41 : decode cX3_addRoot 41 = .ok (.iconst 0, 1) := by decide +kernel
theorem dX3_addRoot_42 : decode cX3_addRoot 42 = .ok (.aload_n 0, 1) := by decide +kernel
theorem dX3_addRoot_43 : decode cX3_addRoot 43 = .ok (.getfield 35, 3) := by decide +kernel
theorem dX3_addRoot_46 : decode cX3_addRoot 46 = .ok (.iconst 0, 1) := by decide +kernel
theorem dX3_addRoot_47 : decode cX3_addRoot 47 = .ok (.iaload, 1) := by decide +kernel
theorem dX3_addRoot_48 : decode cX3_addRoot 48 = .ok (.iload_n 1, 1) := by decide +kernel
theorem dX3_addRoot_49 : decode cX3_addRoot 49 = .ok (.invokestatic 38, 3) := by decide +kernel
theorem dX3_addRoot_52 : decode cX3_addRoot 52 = .ok (.iastore, 1) := by decide +kernel
theorem dX3_addRoot_53 : decode cX3_addRoot 53 = .ok (.return_, 1) := by decide +kernel
theorem dX3_weightedSums_0 : decode cX3_weightedSums 0 = .ok (.iconst 0, 1) := by decide +kernel
theorem dX3_weightedSums_1 : decode cX3_weightedSums 1 = .ok (.istore_n 1, 1) := by decide +kernel
theorem dX3_weightedSums_2 : decode cX3_weightedSums 2 = .ok (.iconst 0, 1) := by decide +kernel
theorem dX3_weightedSums_3 : decode cX3_weightedSums 3 = .ok (.istore_n 2, 1) := by decide +kernel
theorem dX3_weightedSums_4 : decode cX3_weightedSums 4 = .ok (.iload_n 2, 1) := by decide +kernel
theorem dX3_weightedSums_5 : decode cX3_weightedSums 5 = .ok (.iconst 4, 1) := by decide +kernel
theorem dX3_weightedSums_6 : decode cX3_weightedSums 6 = .ok (.if_icmp .ge 27, 3) := by decide +kernel
theorem dX3_weightedSums_9 : decode cX3_weightedSums 9 = .ok (.iload_n 1, 1) := by decide +kernel
theorem dX3_weightedSums_10 : decode cX3_weightedSums 10 = .ok (.aload_n 0, 1) := by decide +kernel
theorem dX3_weightedSums_11 : decode cX3_weightedSums 11 = .ok (.getfield 35, 3) := by decide +kernel
theorem dX3_weightedSums_14 : decode cX3_weightedSums 14 = .ok (.iload_n 2, 1) := by decide +kernel
theorem dX3_weightedSums_15 : decode cX3_weightedSums 15 = .ok (.iaload, 1) := by decide +kernel
theorem dX3_weightedSums_16 : decode cX3_weightedSums 16 = .ok (.aload_n 0, 1) := by decide +kernel
theorem dX3_weightedSums_17 : decode cX3_weightedSums 17 = .ok (.getfield 26, 3) := by decide +kernel
theorem dX3_weightedSums_20 : decode cX3_weightedSums 20 = .ok (.iload_n 2, 1) := by decide +kernel
theorem dX3_weightedSums_21 : decode cX3_weightedSums 21 = .ok (.iaload, 1) := by decide +kernel
theorem dX3_weightedSums_22 : decode cX3_weightedSums 22 = .ok (.invokestatic 38, 3) := by decide +kernel
theorem dX3_weightedSums_25 : decode cX3_weightedSums 25 = .ok (.ixor, 1) := by decide +kernel
theorem dX3_weightedSums_26 : decode cX3_weightedSums 26 = .ok (.istore_n 1, 1) := by decide +kernel
theorem dX3_weightedSums_27 : decode cX3_weightedSums 27 = .ok (.iinc 2 1, 3) := by decide +kernel
theorem dX3_weightedSums_30 : decode cX3_weightedSums 30 = .ok (.goto (-26), 3) := by decide +kernel
theorem dX3_weightedSums_33 : decode cX3_weightedSums 33 = .ok (.iload_n 1, 1) := by decide +kernel
theorem dX3_weightedSums_34 : decode cX3_weightedSums 34 = .ok (.ireturn, 1) := by decide +kernel
end
section
def wsX6_init : List Cond := .code yX6_init cX6_init 1 none :: ([.methodLink RX6 1 objectInit, .instanceMethod objectInit, .code objectInit ⟨#[0xb1]⟩ 1 none, .arrayClass .int, .fieldLink RX6 7 "DiscCoderModel" "inner" "[I", .fieldLink RX6 13 "DiscCoderModel" "outer" "[I", .fieldLink RX6 16 "DiscCoderModel" "disc" "[I", .fieldLink RX6 19 "DiscCoderModel" "got" "[I", .fieldLink RX6 22 "DiscCoderModel" "right" "[I", .arrayClass .boolean, .fieldLink RX6 25 "DiscCoderModel" "doubted" "[Z", .fieldLink RX6 29 "DiscCoderModel" "output" "[I", .fieldLink RX6 32 "DiscCoderModel" "flags" "[Z", .fieldLink RX6 35 "DiscCoderModel" "word" "[I", .fieldLink RX6 38 "DiscCoderModel" "missing" "[Z", .fieldLink RX6 41 "DiscCoderModel" "rows" "[I", .fieldLink RX6 44 "DiscCoderModel" "places" "[I"] ++ wsX60)
def wsX6_thrown : List Cond := .code yX6_thrown cX6_thrown 1 (some .int) :: ([.fieldLink RX6 47 "DiscCoderModel" "code" "I"] ++ wsX60)
def wsX6_times : List Cond := .code yX6_times cX6_times 5 (some .int) :: ([])
def wsX6_power : List Cond := .code yX6_power cX6_power 3 (some .int) :: ([.methodLink RX6 51 yX6_times, .static yX6_times, .initialized RX6, .code yX6_times cX6_times 5 (some .int)])
def wsX6_inverse : List Cond := .code yX6_inverse cX6_inverse 3 (some .int) :: ([.methodLink RX6 51 yX6_times, .static yX6_times, .initialized RX6, .code yX6_times cX6_times 5 (some .int)])
def wsX6_sum : List Cond := .code yX6_sum cX6_sum 5 (some .int) :: ([.methodLink RX6 51 yX6_times, .static yX6_times, .initialized RX6, .code yX6_times cX6_times 5 (some .int), .fieldLink RX6 35 "DiscCoderModel" "word" "[I"] ++ wsX60)
def wsX6_isWord : List Cond := .code yX6_isWord cX6_isWord 2 (some .boolean) :: ([.methodLink RX6 55 yX6_sum, .instanceMethod yX6_sum, .selects RX6 yX6_sum yX6_sum, .initialized RX6, .code yX6_sum cX6_sum 5 (some .int), .methodLink RX6 51 yX6_times, .static yX6_times, .code yX6_times cX6_times 5 (some .int), .fieldLink RX6 35 "DiscCoderModel" "word" "[I"] ++ wsX60)
def wsX6_swap : List Cond := .code yX6_swap cX6_swap 5 none :: ([.fieldLink RX6 41 "DiscCoderModel" "rows" "[I"] ++ wsX60)
def wsX6_clear : List Cond := .code yX6_clear cX6_clear 7 none :: ([.fieldLink RX6 41 "DiscCoderModel" "rows" "[I", .methodLink RX6 58 yX6_swap, .instanceMethod yX6_swap, .selects RX6 yX6_swap yX6_swap, .initialized RX6, .code yX6_swap cX6_swap 5 none, .methodLink RX6 62 yX6_inverse, .static yX6_inverse, .code yX6_inverse cX6_inverse 3 (some .int), .methodLink RX6 51 yX6_times, .static yX6_times, .code yX6_times cX6_times 5 (some .int)] ++ wsX60)
def wsX6_fill : List Cond := .code yX6_fill cX6_fill 6 (some .boolean) :: ([.fieldLink RX6 38 "DiscCoderModel" "missing" "[Z", .fieldLink RX6 44 "DiscCoderModel" "places" "[I", .methodLink RX6 51 yX6_times, .static yX6_times, .initialized RX6, .code yX6_times cX6_times 5 (some .int), .fieldLink RX6 35 "DiscCoderModel" "word" "[I", .fieldLink RX6 41 "DiscCoderModel" "rows" "[I", .methodLink RX6 66 yX6_power, .static yX6_power, .code yX6_power cX6_power 3 (some .int), .methodLink RX6 69 yX6_clear, .instanceMethod yX6_clear, .selects RX6 yX6_clear yX6_clear, .code yX6_clear cX6_clear 7 none, .methodLink RX6 58 yX6_swap, .instanceMethod yX6_swap, .selects RX6 yX6_swap yX6_swap, .code yX6_swap cX6_swap 5 none, .methodLink RX6 62 yX6_inverse, .static yX6_inverse, .code yX6_inverse cX6_inverse 3 (some .int)] ++ wsX60)
def wsX6_finish : List Cond := .code yX6_finish cX6_finish 3 none :: ([.fieldLink RX6 38 "DiscCoderModel" "missing" "[Z", .methodLink RX6 73 yX6_fill, .instanceMethod yX6_fill, .selects RX6 yX6_fill yX6_fill, .initialized RX6, .code yX6_fill cX6_fill 6 (some .boolean), .fieldLink RX6 44 "DiscCoderModel" "places" "[I", .methodLink RX6 51 yX6_times, .static yX6_times, .code yX6_times cX6_times 5 (some .int), .fieldLink RX6 35 "DiscCoderModel" "word" "[I", .fieldLink RX6 41 "DiscCoderModel" "rows" "[I", .methodLink RX6 66 yX6_power, .static yX6_power, .code yX6_power cX6_power 3 (some .int), .methodLink RX6 69 yX6_clear, .instanceMethod yX6_clear, .selects RX6 yX6_clear yX6_clear, .code yX6_clear cX6_clear 7 none, .methodLink RX6 58 yX6_swap, .instanceMethod yX6_swap, .selects RX6 yX6_swap yX6_swap, .code yX6_swap cX6_swap 5 none, .methodLink RX6 62 yX6_inverse, .static yX6_inverse, .code yX6_inverse cX6_inverse 3 (some .int)] ++ wsX60)
def wsX6_loadData : List Cond := .code yX6_loadData cX6_loadData 4 none :: ([.fieldLink RX6 35 "DiscCoderModel" "word" "[I", .constantLong RX6 77 255] ++ wsX60)
def wsX6_feed : List Cond := .code yX6_feed cX6_feed 7 (some .int) :: ([.fieldLink RX6 79 "DiscCoderModel" "frames" "I", .fieldLink RX6 47 "DiscCoderModel" "code" "I", .methodLink RX6 82 yX6_loadData, .instanceMethod yX6_loadData, .selects RX6 yX6_loadData yX6_loadData, .initialized RX6, .code yX6_loadData cX6_loadData 4 none, .fieldLink RX6 35 "DiscCoderModel" "word" "[I", .constantLong RX6 77 255, .methodLink RX6 86 yX6_finish, .instanceMethod yX6_finish, .selects RX6 yX6_finish yX6_finish, .code yX6_finish cX6_finish 3 none, .fieldLink RX6 38 "DiscCoderModel" "missing" "[Z", .methodLink RX6 73 yX6_fill, .instanceMethod yX6_fill, .selects RX6 yX6_fill yX6_fill, .code yX6_fill cX6_fill 6 (some .boolean), .fieldLink RX6 44 "DiscCoderModel" "places" "[I", .methodLink RX6 51 yX6_times, .static yX6_times, .code yX6_times cX6_times 5 (some .int), .fieldLink RX6 41 "DiscCoderModel" "rows" "[I", .methodLink RX6 66 yX6_power, .static yX6_power, .code yX6_power cX6_power 3 (some .int), .methodLink RX6 69 yX6_clear, .instanceMethod yX6_clear, .selects RX6 yX6_clear yX6_clear, .code yX6_clear cX6_clear 7 none, .methodLink RX6 58 yX6_swap, .instanceMethod yX6_swap, .selects RX6 yX6_swap yX6_swap, .code yX6_swap cX6_swap 5 none, .methodLink RX6 62 yX6_inverse, .static yX6_inverse, .code yX6_inverse cX6_inverse 3 (some .int), .fieldLink RX6 7 "DiscCoderModel" "inner" "[I", .fieldLink RX6 13 "DiscCoderModel" "outer" "[I", .fieldLink RX6 16 "DiscCoderModel" "disc" "[I"] ++ wsX60)
def wsX6_rows : List Cond := .code yX6_rows cX6_rows 1 (some .int) :: ([.fieldLink RX6 47 "DiscCoderModel" "code" "I", .fieldLink RX6 79 "DiscCoderModel" "frames" "I"] ++ wsX60)
def wsX6_onDisc : List Cond := .code yX6_onDisc cX6_onDisc 3 (some .boolean) :: ([.fieldLink RX6 79 "DiscCoderModel" "frames" "I"] ++ wsX60)
def wsX6_isSymbol : List Cond := .code yX6_isSymbol cX6_isSymbol 1 (some .boolean) :: ([])
def wsX6_symbol : List Cond := .code yX6_symbol cX6_symbol 3 (some .int) :: ([.methodLink RX6 89 yX6_onDisc, .instanceMethod yX6_onDisc, .selects RX6 yX6_onDisc yX6_onDisc, .initialized RX6, .code yX6_onDisc cX6_onDisc 3 (some .boolean), .fieldLink RX6 79 "DiscCoderModel" "frames" "I", .fieldLink RX6 47 "DiscCoderModel" "code" "I", .fieldLink RX6 16 "DiscCoderModel" "disc" "[I"] ++ wsX60)
def wsX6_scratch : List Cond := .code yX6_scratch cX6_scratch 4 none :: ([.methodLink RX6 89 yX6_onDisc, .instanceMethod yX6_onDisc, .selects RX6 yX6_onDisc yX6_onDisc, .initialized RX6, .code yX6_onDisc cX6_onDisc 3 (some .boolean), .fieldLink RX6 79 "DiscCoderModel" "frames" "I", .methodLink RX6 93 yX6_isSymbol, .static yX6_isSymbol, .code yX6_isSymbol cX6_isSymbol 1 (some .boolean), .fieldLink RX6 96 "DiscCoderModel" "done" "I", .fieldLink RX6 47 "DiscCoderModel" "code" "I", .fieldLink RX6 16 "DiscCoderModel" "disc" "[I"] ++ wsX60)
def wsX6_burst : List Cond := .code yX6_burst cX6_burst 5 none :: ([.methodLink RX6 93 yX6_isSymbol, .static yX6_isSymbol, .initialized RX6, .code yX6_isSymbol cX6_isSymbol 1 (some .boolean), .fieldLink RX6 79 "DiscCoderModel" "frames" "I", .fieldLink RX6 96 "DiscCoderModel" "done" "I", .fieldLink RX6 47 "DiscCoderModel" "code" "I", .fieldLink RX6 16 "DiscCoderModel" "disc" "[I"] ++ wsX60)
def wsX6_mend : List Cond := .code yX6_mend cX6_mend 3 (some .int) :: ([.methodLink RX6 99 yX6_isWord, .instanceMethod yX6_isWord, .selects RX6 yX6_isWord yX6_isWord, .initialized RX6, .code yX6_isWord cX6_isWord 2 (some .boolean), .methodLink RX6 55 yX6_sum, .instanceMethod yX6_sum, .selects RX6 yX6_sum yX6_sum, .code yX6_sum cX6_sum 5 (some .int), .methodLink RX6 51 yX6_times, .static yX6_times, .code yX6_times cX6_times 5 (some .int), .fieldLink RX6 35 "DiscCoderModel" "word" "[I"] ++ wsX60)
def wsX6_gather : List Cond := .code yX6_gather cX6_gather 4 none :: ([.fieldLink RX6 35 "DiscCoderModel" "word" "[I", .fieldLink RX6 19 "DiscCoderModel" "got" "[I"] ++ wsX60)
def wsX6_read : List Cond := .code yX6_read cX6_read 6 (some .int) :: ([.fieldLink RX6 96 "DiscCoderModel" "done" "I", .fieldLink RX6 79 "DiscCoderModel" "frames" "I", .fieldLink RX6 47 "DiscCoderModel" "code" "I", .fieldLink RX6 19 "DiscCoderModel" "got" "[I", .fieldLink RX6 16 "DiscCoderModel" "disc" "[I", .methodLink RX6 102 yX6_gather, .instanceMethod yX6_gather, .selects RX6 yX6_gather yX6_gather, .initialized RX6, .code yX6_gather cX6_gather 4 none, .fieldLink RX6 35 "DiscCoderModel" "word" "[I", .methodLink RX6 105 yX6_mend, .instanceMethod yX6_mend, .selects RX6 yX6_mend yX6_mend, .code yX6_mend cX6_mend 3 (some .int), .methodLink RX6 99 yX6_isWord, .instanceMethod yX6_isWord, .selects RX6 yX6_isWord yX6_isWord, .code yX6_isWord cX6_isWord 2 (some .boolean), .methodLink RX6 55 yX6_sum, .instanceMethod yX6_sum, .selects RX6 yX6_sum yX6_sum, .code yX6_sum cX6_sum 5 (some .int), .methodLink RX6 51 yX6_times, .static yX6_times, .code yX6_times cX6_times 5 (some .int), .fieldLink RX6 109 "DiscCoderModel" "mended" "I", .fieldLink RX6 112 "DiscCoderModel" "doubts" "I", .fieldLink RX6 25 "DiscCoderModel" "doubted" "[Z", .fieldLink RX6 22 "DiscCoderModel" "right" "[I", .fieldLink RX6 38 "DiscCoderModel" "missing" "[Z", .methodLink RX6 73 yX6_fill, .instanceMethod yX6_fill, .selects RX6 yX6_fill yX6_fill, .code yX6_fill cX6_fill 6 (some .boolean), .fieldLink RX6 44 "DiscCoderModel" "places" "[I", .fieldLink RX6 41 "DiscCoderModel" "rows" "[I", .methodLink RX6 66 yX6_power, .static yX6_power, .code yX6_power cX6_power 3 (some .int), .methodLink RX6 69 yX6_clear, .instanceMethod yX6_clear, .selects RX6 yX6_clear yX6_clear, .code yX6_clear cX6_clear 7 none, .methodLink RX6 58 yX6_swap, .instanceMethod yX6_swap, .selects RX6 yX6_swap yX6_swap, .code yX6_swap cX6_swap 5 none, .methodLink RX6 62 yX6_inverse, .static yX6_inverse, .code yX6_inverse cX6_inverse 3 (some .int), .fieldLink RX6 115 "DiscCoderModel" "filled" "I", .fieldLink RX6 118 "DiscCoderModel" "lost" "I", .fieldLink RX6 29 "DiscCoderModel" "output" "[I", .fieldLink RX6 32 "DiscCoderModel" "flags" "[Z"] ++ wsX60)
def wsX6_isOut : List Cond := .code yX6_isOut cX6_isOut 2 (some .boolean) :: ([.fieldLink RX6 96 "DiscCoderModel" "done" "I"] ++ wsX60)
def wsX6_out : List Cond := .code yX6_out cX6_out 2 (some .int) :: ([.methodLink RX6 121 yX6_isOut, .instanceMethod yX6_isOut, .selects RX6 yX6_isOut yX6_isOut, .initialized RX6, .code yX6_isOut cX6_isOut 2 (some .boolean), .fieldLink RX6 96 "DiscCoderModel" "done" "I", .fieldLink RX6 47 "DiscCoderModel" "code" "I", .fieldLink RX6 29 "DiscCoderModel" "output" "[I"] ++ wsX60)
def wsX6_flagged : List Cond := .code yX6_flagged cX6_flagged 2 (some .boolean) :: ([.methodLink RX6 121 yX6_isOut, .instanceMethod yX6_isOut, .selects RX6 yX6_isOut yX6_isOut, .initialized RX6, .code yX6_isOut cX6_isOut 2 (some .boolean), .fieldLink RX6 96 "DiscCoderModel" "done" "I", .fieldLink RX6 47 "DiscCoderModel" "code" "I", .fieldLink RX6 32 "DiscCoderModel" "flags" "[Z"] ++ wsX60)
def wsX6_figure : List Cond := .code yX6_figure cX6_figure 2 (some .int) :: ([.fieldLink RX6 47 "DiscCoderModel" "code" "I", .fieldLink RX6 96 "DiscCoderModel" "done" "I", .fieldLink RX6 109 "DiscCoderModel" "mended" "I", .fieldLink RX6 112 "DiscCoderModel" "doubts" "I", .fieldLink RX6 115 "DiscCoderModel" "filled" "I", .fieldLink RX6 118 "DiscCoderModel" "lost" "I"] ++ wsX60)
def wsX6_check : List Cond := .code yX6_check cX6_check 4 (some .int) :: ([.fieldLink RX6 47 "DiscCoderModel" "code" "I", .methodLink RX6 82 yX6_loadData, .instanceMethod yX6_loadData, .selects RX6 yX6_loadData yX6_loadData, .initialized RX6, .code yX6_loadData cX6_loadData 4 none, .fieldLink RX6 35 "DiscCoderModel" "word" "[I", .constantLong RX6 77 255, .methodLink RX6 86 yX6_finish, .instanceMethod yX6_finish, .selects RX6 yX6_finish yX6_finish, .code yX6_finish cX6_finish 3 none, .fieldLink RX6 38 "DiscCoderModel" "missing" "[Z", .methodLink RX6 73 yX6_fill, .instanceMethod yX6_fill, .selects RX6 yX6_fill yX6_fill, .code yX6_fill cX6_fill 6 (some .boolean), .fieldLink RX6 44 "DiscCoderModel" "places" "[I", .methodLink RX6 51 yX6_times, .static yX6_times, .code yX6_times cX6_times 5 (some .int), .fieldLink RX6 41 "DiscCoderModel" "rows" "[I", .methodLink RX6 66 yX6_power, .static yX6_power, .code yX6_power cX6_power 3 (some .int), .methodLink RX6 69 yX6_clear, .instanceMethod yX6_clear, .selects RX6 yX6_clear yX6_clear, .code yX6_clear cX6_clear 7 none, .methodLink RX6 58 yX6_swap, .instanceMethod yX6_swap, .selects RX6 yX6_swap yX6_swap, .code yX6_swap cX6_swap 5 none, .methodLink RX6 62 yX6_inverse, .static yX6_inverse, .code yX6_inverse cX6_inverse 3 (some .int)] ++ wsX60)
def wsX6_product : List Cond := .code yX6_product cX6_product 3 (some .int) :: ([.methodLink RX6 93 yX6_isSymbol, .static yX6_isSymbol, .initialized RX6, .code yX6_isSymbol cX6_isSymbol 1 (some .boolean), .fieldLink RX6 47 "DiscCoderModel" "code" "I", .methodLink RX6 51 yX6_times, .static yX6_times, .code yX6_times cX6_times 5 (some .int)] ++ wsX60)
set_option maxRecDepth 20000 in
theorem ggX6_power_X6_times : GoodIn wsX6_power wsX6_times := goodIn_r _ [4] (by decide +kernel) (by decide +kernel)
theorem gX6_power_X6_times : GoodIn wsX6_power (va_wsS RX6 51 yX6_times wsX6_times) := goodIn_app (goodIn_of _ (by decide +kernel)) ggX6_power_X6_times
set_option maxRecDepth 20000 in
theorem ggX6_inverse_X6_times : GoodIn wsX6_inverse wsX6_times := goodIn_r _ [4] (by decide +kernel) (by decide +kernel)
theorem gX6_inverse_X6_times : GoodIn wsX6_inverse (va_wsS RX6 51 yX6_times wsX6_times) := goodIn_app (goodIn_of _ (by decide +kernel)) ggX6_inverse_X6_times
set_option maxRecDepth 20000 in
theorem ggX6_sum_X6_times : GoodIn wsX6_sum wsX6_times := goodIn_r _ [4] (by decide +kernel) (by decide +kernel)
theorem gX6_sum_X6_times : GoodIn wsX6_sum (va_wsS RX6 51 yX6_times wsX6_times) := goodIn_app (goodIn_of _ (by decide +kernel)) ggX6_sum_X6_times
set_option maxRecDepth 20000 in
theorem ggX6_isWord_X6_sum : GoodIn wsX6_isWord wsX6_sum := goodIn_r _ [5, 6, 7, 4, 8, 9, 10, 11, 12, 13, 14, 15, 16, 17, 18, 19, 20, 21, 22, 23, 24, 25, 26, 27, 28] (by decide +kernel) (by decide +kernel)
theorem gX6_isWord_X6_sum : GoodIn wsX6_isWord (wsV RX6 55 RX6 yX6_sum wsX6_sum) := goodIn_app (goodIn_of _ (by decide +kernel)) ggX6_isWord_X6_sum
set_option maxRecDepth 20000 in
theorem ggX6_clear_X6_swap : GoodIn wsX6_clear wsX6_swap := goodIn_r _ [6, 1, 13, 14, 15, 16, 17, 18, 19, 20, 21, 22, 23, 24, 25, 26, 27, 28, 29, 30, 31] (by decide +kernel) (by decide +kernel)
theorem gX6_clear_X6_swap : GoodIn wsX6_clear (wsV RX6 58 RX6 yX6_swap wsX6_swap) := goodIn_app (goodIn_of _ (by decide +kernel)) ggX6_clear_X6_swap
set_option maxRecDepth 20000 in
theorem ggX6_clear_X6_inverse : GoodIn wsX6_clear wsX6_inverse := goodIn_r _ [9, 10, 11, 5, 12] (by decide +kernel) (by decide +kernel)
theorem gX6_clear_X6_inverse : GoodIn wsX6_clear (va_wsS RX6 62 yX6_inverse wsX6_inverse) := goodIn_app (goodIn_of _ (by decide +kernel)) ggX6_clear_X6_inverse
set_option maxRecDepth 20000 in
theorem ggX6_clear_X6_times : GoodIn wsX6_clear wsX6_times := goodIn_r _ [12] (by decide +kernel) (by decide +kernel)
theorem gX6_clear_X6_times : GoodIn wsX6_clear (va_wsS RX6 51 yX6_times wsX6_times) := goodIn_app (goodIn_of _ (by decide +kernel)) ggX6_clear_X6_times
set_option maxRecDepth 20000 in
theorem ggX6_fill_X6_times : GoodIn wsX6_fill wsX6_times := goodIn_r _ [6] (by decide +kernel) (by decide +kernel)
theorem gX6_fill_X6_times : GoodIn wsX6_fill (va_wsS RX6 51 yX6_times wsX6_times) := goodIn_app (goodIn_of _ (by decide +kernel)) ggX6_fill_X6_times
set_option maxRecDepth 20000 in
theorem ggX6_fill_X6_power : GoodIn wsX6_fill wsX6_power := goodIn_r _ [11, 3, 4, 5, 6] (by decide +kernel) (by decide +kernel)
theorem gX6_fill_X6_power : GoodIn wsX6_fill (va_wsS RX6 66 yX6_power wsX6_power) := goodIn_app (goodIn_of _ (by decide +kernel)) ggX6_fill_X6_power
set_option maxRecDepth 20000 in
theorem ggX6_fill_X6_clear : GoodIn wsX6_fill wsX6_clear := goodIn_r _ [15, 8, 16, 17, 18, 5, 19, 20, 21, 22, 3, 4, 6, 23, 24, 25, 26, 27, 28, 29, 30, 31, 32, 33, 34, 35, 36, 37, 38, 39, 40, 41] (by decide +kernel) (by decide +kernel)
theorem gX6_fill_X6_clear : GoodIn wsX6_fill (wsV RX6 69 RX6 yX6_clear wsX6_clear) := goodIn_app (goodIn_of _ (by decide +kernel)) ggX6_fill_X6_clear
set_option maxRecDepth 20000 in
theorem ggX6_finish_X6_fill : GoodIn wsX6_finish wsX6_fill := goodIn_r _ [6, 1, 7, 8, 9, 5, 10, 11, 12, 13, 14, 15, 16, 17, 18, 19, 20, 21, 22, 23, 24, 25, 26, 27, 28, 29, 30, 31, 32, 33, 34, 35, 36, 37, 38, 39, 40, 41, 42, 43, 44, 45] (by decide +kernel) (by decide +kernel)
theorem gX6_finish_X6_fill : GoodIn wsX6_finish (wsV RX6 73 RX6 yX6_fill wsX6_fill) := goodIn_app (goodIn_of _ (by decide +kernel)) ggX6_finish_X6_fill
set_option maxRecDepth 20000 in
theorem ggX6_feed_X6_loadData : GoodIn wsX6_feed wsX6_loadData := goodIn_r _ [7, 8, 9, 41, 42, 43, 44, 45, 46, 47, 48, 49, 50, 51, 52, 53, 54, 55, 56, 57, 58, 59] (by decide +kernel) (by decide +kernel)
theorem gX6_feed_X6_loadData : GoodIn wsX6_feed (wsV RX6 82 RX6 yX6_loadData wsX6_loadData) := goodIn_app (goodIn_of _ (by decide +kernel)) ggX6_feed_X6_loadData
set_option maxRecDepth 20000 in
theorem ggX6_feed_X6_finish : GoodIn wsX6_feed wsX6_finish := goodIn_r _ [13, 14, 15, 16, 17, 6, 18, 19, 20, 21, 22, 8, 23, 24, 25, 26, 27, 28, 29, 30, 31, 32, 33, 34, 35, 36, 37, 41, 42, 43, 44, 45, 46, 47, 48, 49, 50, 51, 52, 53, 54, 55, 56, 57, 58, 59] (by decide +kernel) (by decide +kernel)
theorem gX6_feed_X6_finish : GoodIn wsX6_feed (wsV RX6 86 RX6 yX6_finish wsX6_finish) := goodIn_app (goodIn_of _ (by decide +kernel)) ggX6_feed_X6_finish
set_option maxRecDepth 20000 in
theorem ggX6_symbol_X6_onDisc : GoodIn wsX6_symbol wsX6_onDisc := goodIn_r _ [5, 6, 9, 10, 11, 12, 13, 14, 15, 16, 17, 18, 19, 20, 21, 22, 23, 24, 25, 26, 27] (by decide +kernel) (by decide +kernel)
theorem gX6_symbol_X6_onDisc : GoodIn wsX6_symbol (wsV RX6 89 RX6 yX6_onDisc wsX6_onDisc) := goodIn_app (goodIn_of _ (by decide +kernel)) ggX6_symbol_X6_onDisc
set_option maxRecDepth 20000 in
theorem ggX6_scratch_X6_onDisc : GoodIn wsX6_scratch wsX6_onDisc := goodIn_r _ [5, 6, 13, 14, 15, 16, 17, 18, 19, 20, 21, 22, 23, 24, 25, 26, 27, 28, 29, 30, 31] (by decide +kernel) (by decide +kernel)
theorem gX6_scratch_X6_onDisc : GoodIn wsX6_scratch (wsV RX6 89 RX6 yX6_onDisc wsX6_onDisc) := goodIn_app (goodIn_of _ (by decide +kernel)) ggX6_scratch_X6_onDisc
set_option maxRecDepth 20000 in
theorem ggX6_scratch_X6_isSymbol : GoodIn wsX6_scratch wsX6_isSymbol := goodIn_r _ [9] (by decide +kernel) (by decide +kernel)
theorem gX6_scratch_X6_isSymbol : GoodIn wsX6_scratch (va_wsS RX6 93 yX6_isSymbol wsX6_isSymbol) := goodIn_app (goodIn_of _ (by decide +kernel)) ggX6_scratch_X6_isSymbol
set_option maxRecDepth 20000 in
theorem ggX6_burst_X6_isSymbol : GoodIn wsX6_burst wsX6_isSymbol := goodIn_r _ [4] (by decide +kernel) (by decide +kernel)
theorem gX6_burst_X6_isSymbol : GoodIn wsX6_burst (va_wsS RX6 93 yX6_isSymbol wsX6_isSymbol) := goodIn_app (goodIn_of _ (by decide +kernel)) ggX6_burst_X6_isSymbol
set_option maxRecDepth 20000 in
theorem ggX6_mend_X6_isWord : GoodIn wsX6_mend wsX6_isWord := goodIn_r _ [5, 6, 7, 8, 4, 9, 10, 11, 12, 13, 14, 15, 16, 17, 18, 19, 20, 21, 22, 23, 24, 25, 26, 27, 28, 29, 30, 31, 32] (by decide +kernel) (by decide +kernel)
theorem gX6_mend_X6_isWord : GoodIn wsX6_mend (wsV RX6 99 RX6 yX6_isWord wsX6_isWord) := goodIn_app (goodIn_of _ (by decide +kernel)) ggX6_mend_X6_isWord
set_option maxRecDepth 20000 in
theorem ggX6_mend_X6_sum : GoodIn wsX6_mend wsX6_sum := goodIn_r _ [9, 10, 11, 4, 12, 13, 14, 15, 16, 17, 18, 19, 20, 21, 22, 23, 24, 25, 26, 27, 28, 29, 30, 31, 32] (by decide +kernel) (by decide +kernel)
theorem gX6_mend_X6_sum : GoodIn wsX6_mend (wsV RX6 55 RX6 yX6_sum wsX6_sum) := goodIn_app (goodIn_of _ (by decide +kernel)) ggX6_mend_X6_sum
set_option maxRecDepth 20000 in
theorem ggX6_read_X6_gather : GoodIn wsX6_read wsX6_gather := goodIn_r _ [10, 11, 4, 56, 57, 58, 59, 60, 61, 62, 63, 64, 65, 66, 67, 68, 69, 70, 71, 72, 73, 74] (by decide +kernel) (by decide +kernel)
theorem gX6_read_X6_gather : GoodIn wsX6_read (wsV RX6 102 RX6 yX6_gather wsX6_gather) := goodIn_app (goodIn_of _ (by decide +kernel)) ggX6_read_X6_gather
set_option maxRecDepth 20000 in
theorem ggX6_read_X6_mend : GoodIn wsX6_read wsX6_mend := goodIn_r _ [15, 16, 17, 18, 9, 19, 20, 21, 22, 23, 24, 25, 26, 11, 56, 57, 58, 59, 60, 61, 62, 63, 64, 65, 66, 67, 68, 69, 70, 71, 72, 73, 74] (by decide +kernel) (by decide +kernel)
theorem gX6_read_X6_mend : GoodIn wsX6_read (wsV RX6 105 RX6 yX6_mend wsX6_mend) := goodIn_app (goodIn_of _ (by decide +kernel)) ggX6_read_X6_mend
set_option maxRecDepth 20000 in
theorem ggX6_read_X6_fill : GoodIn wsX6_read wsX6_fill := goodIn_r _ [35, 31, 36, 24, 25, 9, 26, 11, 37, 38, 39, 40, 41, 42, 43, 44, 45, 46, 47, 48, 49, 50, 51, 56, 57, 58, 59, 60, 61, 62, 63, 64, 65, 66, 67, 68, 69, 70, 71, 72, 73, 74] (by decide +kernel) (by decide +kernel)
theorem gX6_read_X6_fill : GoodIn wsX6_read (wsV RX6 73 RX6 yX6_fill wsX6_fill) := goodIn_app (goodIn_of _ (by decide +kernel)) ggX6_read_X6_fill
set_option maxRecDepth 20000 in
theorem ggX6_out_X6_isOut : GoodIn wsX6_out wsX6_isOut := goodIn_r _ [5, 6, 9, 10, 11, 12, 13, 14, 15, 16, 17, 18, 19, 20, 21, 22, 23, 24, 25, 26, 27] (by decide +kernel) (by decide +kernel)
theorem gX6_out_X6_isOut : GoodIn wsX6_out (wsV RX6 121 RX6 yX6_isOut wsX6_isOut) := goodIn_app (goodIn_of _ (by decide +kernel)) ggX6_out_X6_isOut
set_option maxRecDepth 20000 in
theorem ggX6_flagged_X6_isOut : GoodIn wsX6_flagged wsX6_isOut := goodIn_r _ [5, 6, 9, 10, 11, 12, 13, 14, 15, 16, 17, 18, 19, 20, 21, 22, 23, 24, 25, 26, 27] (by decide +kernel) (by decide +kernel)
theorem gX6_flagged_X6_isOut : GoodIn wsX6_flagged (wsV RX6 121 RX6 yX6_isOut wsX6_isOut) := goodIn_app (goodIn_of _ (by decide +kernel)) ggX6_flagged_X6_isOut
set_option maxRecDepth 20000 in
theorem ggX6_check_X6_loadData : GoodIn wsX6_check wsX6_loadData := goodIn_r _ [6, 7, 8, 37, 38, 39, 40, 41, 42, 43, 44, 45, 46, 47, 48, 49, 50, 51, 52, 53, 54, 55] (by decide +kernel) (by decide +kernel)
theorem gX6_check_X6_loadData : GoodIn wsX6_check (wsV RX6 82 RX6 yX6_loadData wsX6_loadData) := goodIn_app (goodIn_of _ (by decide +kernel)) ggX6_check_X6_loadData
set_option maxRecDepth 20000 in
theorem ggX6_check_X6_finish : GoodIn wsX6_check wsX6_finish := goodIn_r _ [12, 13, 14, 15, 16, 5, 17, 18, 19, 20, 21, 7, 22, 23, 24, 25, 26, 27, 28, 29, 30, 31, 32, 33, 34, 35, 36, 37, 38, 39, 40, 41, 42, 43, 44, 45, 46, 47, 48, 49, 50, 51, 52, 53, 54, 55] (by decide +kernel) (by decide +kernel)
theorem gX6_check_X6_finish : GoodIn wsX6_check (wsV RX6 86 RX6 yX6_finish wsX6_finish) := goodIn_app (goodIn_of _ (by decide +kernel)) ggX6_check_X6_finish
set_option maxRecDepth 20000 in
theorem ggX6_product_X6_isSymbol : GoodIn wsX6_product wsX6_isSymbol := goodIn_r _ [4] (by decide +kernel) (by decide +kernel)
theorem gX6_product_X6_isSymbol : GoodIn wsX6_product (va_wsS RX6 93 yX6_isSymbol wsX6_isSymbol) := goodIn_app (goodIn_of _ (by decide +kernel)) ggX6_product_X6_isSymbol
set_option maxRecDepth 20000 in
theorem ggX6_product_X6_times : GoodIn wsX6_product wsX6_times := goodIn_r _ [8] (by decide +kernel) (by decide +kernel)
theorem gX6_product_X6_times : GoodIn wsX6_product (va_wsS RX6 51 yX6_times wsX6_times) := goodIn_app (goodIn_of _ (by decide +kernel)) ggX6_product_X6_times
theorem dX6_init_0 : decode cX6_init 0 = .ok (.aload_n 0, 1) := by decide +kernel
theorem dX6_init_1 : decode cX6_init 1 = .ok (.invokespecial 1, 3) := by decide +kernel
theorem dX6_init_4 : decode cX6_init 4 = .ok (.aload_n 0, 1) := by decide +kernel
theorem dX6_init_5 : decode cX6_init 5 = .ok (.sipush 576, 3) := by decide +kernel
theorem dX6_init_8 : decode cX6_init 8 = .ok (.newarray .int, 2) := by decide +kernel
theorem dX6_init_10 : decode cX6_init 10 = .ok (.putfield 7, 3) := by decide +kernel
theorem dX6_init_13 : decode cX6_init 13 = .ok (.aload_n 0, 1) := by decide +kernel
theorem dX6_init_14 : decode cX6_init 14 = .ok (.sipush 768, 3) := by decide +kernel
theorem dX6_init_17 : decode cX6_init 17 = .ok (.newarray .int, 2) := by decide +kernel
theorem dX6_init_19 : decode cX6_init 19 = .ok (.putfield 13, 3) := by decide +kernel
theorem dX6_init_22 : decode cX6_init 22 = .ok (.aload_n 0, 1) := by decide +kernel
theorem dX6_init_23 : decode cX6_init 23 = .ok (.sipush 768, 3) := by decide +kernel
theorem dX6_init_26 : decode cX6_init 26 = .ok (.newarray .int, 2) := by decide +kernel
theorem dX6_init_28 : decode cX6_init 28 = .ok (.putfield 16, 3) := by decide +kernel
theorem dX6_init_31 : decode cX6_init 31 = .ok (.aload_n 0, 1) := by decide +kernel
theorem dX6_init_32 : decode cX6_init 32 = .ok (.sipush 768, 3) := by decide +kernel
theorem dX6_init_35 : decode cX6_init 35 = .ok (.newarray .int, 2) := by decide +kernel
theorem dX6_init_37 : decode cX6_init 37 = .ok (.putfield 19, 3) := by decide +kernel
theorem dX6_init_40 : decode cX6_init 40 = .ok (.aload_n 0, 1) := by decide +kernel
theorem dX6_init_41 : decode cX6_init 41 = .ok (.sipush 576, 3) := by decide +kernel
theorem dX6_init_44 : decode cX6_init 44 = .ok (.newarray .int, 2) := by decide +kernel
theorem dX6_init_46 : decode cX6_init 46 = .ok (.putfield 22, 3) := by decide +kernel
theorem dX6_init_49 : decode cX6_init 49 = .ok (.aload_n 0, 1) := by decide +kernel
theorem dX6_init_50 : decode cX6_init 50 = .ok (.bipush 48, 2) := by decide +kernel
theorem dX6_init_52 : decode cX6_init 52 = .ok (.newarray .boolean, 2) := by decide +kernel
theorem dX6_init_54 : decode cX6_init 54 = .ok (.putfield 25, 3) := by decide +kernel
theorem dX6_init_57 : decode cX6_init 57 = .ok (.aload_n 0, 1) := by decide +kernel
theorem dX6_init_58 : decode cX6_init 58 = .ok (.sipush 384, 3) := by decide +kernel
theorem dX6_init_61 : decode cX6_init 61 = .ok (.newarray .int, 2) := by decide +kernel
theorem dX6_init_63 : decode cX6_init 63 = .ok (.putfield 29, 3) := by decide +kernel
theorem dX6_init_66 : decode cX6_init 66 = .ok (.aload_n 0, 1) := by decide +kernel
theorem dX6_init_67 : decode cX6_init 67 = .ok (.sipush 384, 3) := by decide +kernel
theorem dX6_init_70 : decode cX6_init 70 = .ok (.newarray .boolean, 2) := by decide +kernel
theorem dX6_init_72 : decode cX6_init 72 = .ok (.putfield 32, 3) := by decide +kernel
theorem dX6_init_75 : decode cX6_init 75 = .ok (.aload_n 0, 1) := by decide +kernel
theorem dX6_init_76 : decode cX6_init 76 = .ok (.bipush 16, 2) := by decide +kernel
theorem dX6_init_78 : decode cX6_init 78 = .ok (.newarray .int, 2) := by decide +kernel
theorem dX6_init_80 : decode cX6_init 80 = .ok (.putfield 35, 3) := by decide +kernel
theorem dX6_init_83 : decode cX6_init 83 = .ok (.aload_n 0, 1) := by decide +kernel
theorem dX6_init_84 : decode cX6_init 84 = .ok (.bipush 16, 2) := by decide +kernel
theorem dX6_init_86 : decode cX6_init 86 = .ok (.newarray .boolean, 2) := by decide +kernel
theorem dX6_init_88 : decode cX6_init 88 = .ok (.putfield 38, 3) := by decide +kernel
theorem dX6_init_91 : decode cX6_init 91 = .ok (.aload_n 0, 1) := by decide +kernel
theorem dX6_init_92 : decode cX6_init 92 = .ok (.bipush 20, 2) := by decide +kernel
theorem dX6_init_94 : decode cX6_init 94 = .ok (.newarray .int, 2) := by decide +kernel
theorem dX6_init_96 : decode cX6_init 96 = .ok (.putfield 41, 3) := by decide +kernel
theorem dX6_init_99 : decode cX6_init 99 = .ok (.aload_n 0, 1) := by decide +kernel
theorem dX6_init_100 : decode cX6_init 100 = .ok (.iconst 4, 1) := by decide +kernel
theorem dX6_init_101 : decode cX6_init 101 = .ok (.newarray .int, 2) := by decide +kernel
theorem dX6_init_103 : decode cX6_init 103 = .ok (.putfield 44, 3) := by decide +kernel
theorem dX6_init_106 : decode cX6_init 106 = .ok (.return_, 1) := by decide +kernel
theorem dX6_thrown_0 : decode cX6_thrown 0 = .ok (.aload_n 0, 1) := by decide +kernel
theorem dX6_thrown_1 : decode cX6_thrown 1 = .ok (.getfield 47, 3) := by decide +kernel
theorem dX6_thrown_4 : decode cX6_thrown 4 = .ok (.ireturn, 1) := by decide +kernel
theorem dX6_times_0 : decode cX6_times 0 = .ok (.iload_n 0, 1) := by decide +kernel
theorem dX6_times_1 : decode cX6_times 1 = .ok (.istore_n 2, 1) := by decide +kernel
theorem dX6_times_2 : decode cX6_times 2 = .ok (.iconst 0, 1) := by decide +kernel
theorem dX6_times_3 : decode cX6_times 3 = .ok (.istore_n 3, 1) := by decide +kernel
theorem dX6_times_4 : decode cX6_times 4 = .ok (.iconst 0, 1) := by decide +kernel
theorem dX6_times_5 : decode cX6_times 5 = .ok (.istore 4, 2) := by decide +kernel
theorem dX6_times_7 : decode cX6_times 7 = .ok (.iload 4, 2) := by decide +kernel
theorem dX6_times_9 : decode cX6_times 9 = .ok (.bipush 8, 2) := by decide +kernel
theorem dX6_times_11 : decode cX6_times 11 = .ok (.if_icmp .ge 48, 3) := by decide +kernel
theorem dX6_times_14 : decode cX6_times 14 = .ok (.iload_n 3, 1) := by decide +kernel
theorem dX6_times_15 : decode cX6_times 15 = .ok (.iload_n 1, 1) := by decide +kernel
theorem dX6_times_16 : decode cX6_times 16 = .ok (.iload 4, 2) := by decide +kernel
theorem dX6_times_18 : decode cX6_times 18 = .ok (.ishr, 1) := by decide +kernel
theorem dX6_times_19 : decode cX6_times 19 = .ok (.iconst 1, 1) := by decide +kernel
theorem dX6_times_20 : decode cX6_times 20 = .ok (.iand, 1) := by decide +kernel
theorem dX6_times_21 : decode cX6_times 21 = .ok (.iconst 1, 1) := by decide +kernel
theorem dX6_times_22 : decode cX6_times 22 = .ok (.if_icmp .ne 7, 3) := by decide +kernel
theorem dX6_times_25 : decode cX6_times 25 = .ok (.iload_n 2, 1) := by decide +kernel
theorem dX6_times_26 : decode cX6_times 26 = .ok (.goto 4, 3) := by decide +kernel
theorem dX6_times_29 : decode cX6_times 29 = .ok (.iconst 0, 1) := by decide +kernel
theorem dX6_times_30 : decode cX6_times 30 = .ok (.ixor, 1) := by decide +kernel
theorem dX6_times_31 : decode cX6_times 31 = .ok (.istore_n 3, 1) := by decide +kernel
theorem dX6_times_32 : decode cX6_times 32 = .ok (.iload_n 2, 1) := by decide +kernel
theorem dX6_times_33 : decode cX6_times 33 = .ok (.iconst 1, 1) := by decide +kernel
theorem dX6_times_34 : decode cX6_times 34 = .ok (.ishl, 1) := by decide +kernel
theorem dX6_times_35 : decode cX6_times 35 = .ok (.istore_n 2, 1) := by decide +kernel
theorem dX6_times_36 : decode cX6_times 36 = .ok (.iload_n 2, 1) := by decide +kernel
theorem dX6_times_37 : decode cX6_times 37 = .ok (.sipush 255, 3) := by decide +kernel
theorem dX6_times_40 : decode cX6_times 40 = .ok (.if_icmp .le 11, 3) := by decide +kernel
theorem dX6_times_43 : decode cX6_times 43 = .ok (.iload_n 2, 1) := by decide +kernel
theorem dX6_times_44 : decode cX6_times 44 = .ok (.sipush 285, 3) := by decide +kernel
theorem dX6_times_47 : decode cX6_times 47 = .ok (.ixor, 1) := by decide +kernel
theorem dX6_times_48 : decode cX6_times 48 = .ok (.goto 4, 3) := by decide +kernel
theorem dX6_times_51 : decode cX6_times 51 = .ok (.iload_n 2, 1) := by decide +kernel
theorem dX6_times_52 : decode cX6_times 52 = .ok (.istore_n 2, 1) := by decide +kernel
theorem dX6_times_53 : decode cX6_times 53 = .ok (.iinc 4 1, 3) := by decide +kernel
theorem dX6_times_56 : decode cX6_times 56 = .ok (.goto (-49), 3) := by decide +kernel
theorem dX6_times_59 : decode cX6_times 59 = .ok (.iload_n 3, 1) := by decide +kernel
theorem dX6_times_60 : decode cX6_times 60 = .ok (.ireturn, 1) := by decide +kernel
theorem dX6_power_0 : decode cX6_power 0 = .ok (.iconst 1, 1) := by decide +kernel
theorem dX6_power_1 : decode cX6_power 1 = .ok (.istore_n 1, 1) := by decide +kernel
theorem dX6_power_2 : decode cX6_power 2 = .ok (.iconst 0, 1) := by decide +kernel
theorem dX6_power_3 : decode cX6_power 3 = .ok (.istore_n 2, 1) := by decide +kernel
theorem dX6_power_4 : decode cX6_power 4 = .ok (.iload_n 2, 1) := by decide +kernel
theorem dX6_power_5 : decode cX6_power 5 = .ok (.iload_n 0, 1) := by decide +kernel
theorem dX6_power_6 : decode cX6_power 6 = .ok (.if_icmp .ge 15, 3) := by decide +kernel
theorem dX6_power_9 : decode cX6_power 9 = .ok (.iload_n 1, 1) := by decide +kernel
theorem dX6_power_10 : decode cX6_power 10 = .ok (.iconst 2, 1) := by decide +kernel
theorem dX6_power_11 : decode cX6_power 11 = .ok (.invokestatic 51, 3) := by decide +kernel
theorem dX6_power_14 : decode cX6_power 14 = .ok (.istore_n 1, 1) := by decide +kernel
theorem dX6_power_15 : decode cX6_power 15 = .ok (.iinc 2 1, 3) := by decide +kernel
theorem dX6_power_18 : decode cX6_power 18 = .ok (.goto (-14), 3) := by decide +kernel
theorem dX6_power_21 : decode cX6_power 21 = .ok (.iload_n 1, 1) := by decide +kernel
theorem dX6_power_22 : decode cX6_power 22 = .ok (.ireturn, 1) := by decide +kernel
theorem dX6_inverse_0 : decode cX6_inverse 0 = .ok (.iconst 1, 1) := by decide +kernel
theorem dX6_inverse_1 : decode cX6_inverse 1 = .ok (.istore_n 1, 1) := by decide +kernel
theorem dX6_inverse_2 : decode cX6_inverse 2 = .ok (.iconst 0, 1) := by decide +kernel
theorem dX6_inverse_3 : decode cX6_inverse 3 = .ok (.istore_n 2, 1) := by decide +kernel
theorem dX6_inverse_4 : decode cX6_inverse 4 = .ok (.iload_n 2, 1) := by decide +kernel
theorem dX6_inverse_5 : decode cX6_inverse 5 = .ok (.sipush 254, 3) := by decide +kernel
theorem dX6_inverse_8 : decode cX6_inverse 8 = .ok (.if_icmp .ge 15, 3) := by decide +kernel
theorem dX6_inverse_11 : decode cX6_inverse 11 = .ok (.iload_n 1, 1) := by decide +kernel
theorem dX6_inverse_12 : decode cX6_inverse 12 = .ok (.iload_n 0, 1) := by decide +kernel
theorem dX6_inverse_13 : decode cX6_inverse 13 = .ok (.invokestatic 51, 3) := by decide +kernel
theorem dX6_inverse_16 : decode cX6_inverse 16 = .ok (.istore_n 1, 1) := by decide +kernel
theorem dX6_inverse_17 : decode cX6_inverse 17 = .ok (.iinc 2 1, 3) := by decide +kernel
theorem dX6_inverse_20 : decode cX6_inverse 20 = .ok (.goto (-16), 3) := by decide +kernel
theorem dX6_inverse_23 : decode cX6_inverse 23 = .ok (.iload_n 1, 1) := by decide +kernel
theorem dX6_inverse_24 : decode cX6_inverse 24 = .ok (.ireturn, 1) := by decide +kernel
theorem dX6_sum_0 : decode cX6_sum 0 = .ok (.iconst 0, 1) := by decide +kernel
theorem dX6_sum_1 : decode cX6_sum 1 = .ok (.istore_n 3, 1) := by decide +kernel
theorem dX6_sum_2 : decode cX6_sum 2 = .ok (.iconst 0, 1) := by decide +kernel
theorem dX6_sum_3 : decode cX6_sum 3 = .ok (.istore 4, 2) := by decide +kernel
theorem dX6_sum_5 : decode cX6_sum 5 = .ok (.iload 4, 2) := by decide +kernel
theorem dX6_sum_7 : decode cX6_sum 7 = .ok (.iload_n 1, 1) := by decide +kernel
theorem dX6_sum_8 : decode cX6_sum 8 = .ok (.if_icmp .ge 25, 3) := by decide +kernel
theorem dX6_sum_11 : decode cX6_sum 11 = .ok (.iload_n 3, 1) := by decide +kernel
theorem dX6_sum_12 : decode cX6_sum 12 = .ok (.iconst 1, 1) := by decide +kernel
theorem dX6_sum_13 : decode cX6_sum 13 = .ok (.iload_n 2, 1) := by decide +kernel
theorem dX6_sum_14 : decode cX6_sum 14 = .ok (.ishl, 1) := by decide +kernel
theorem dX6_sum_15 : decode cX6_sum 15 = .ok (.invokestatic 51, 3) := by decide +kernel
theorem dX6_sum_18 : decode cX6_sum 18 = .ok (.aload_n 0, 1) := by decide +kernel
theorem dX6_sum_19 : decode cX6_sum 19 = .ok (.getfield 35, 3) := by decide +kernel
theorem dX6_sum_22 : decode cX6_sum 22 = .ok (.iload 4, 2) := by decide +kernel
theorem dX6_sum_24 : decode cX6_sum 24 = .ok (.iaload, 1) := by decide +kernel
theorem dX6_sum_25 : decode cX6_sum 25 = .ok (.ixor, 1) := by decide +kernel
theorem dX6_sum_26 : decode cX6_sum 26 = .ok (.istore_n 3, 1) := by decide +kernel
theorem dX6_sum_27 : decode cX6_sum 27 = .ok (.iinc 4 1, 3) := by decide +kernel
theorem dX6_sum_30 : decode cX6_sum 30 = .ok (.goto (-25), 3) := by decide +kernel
theorem dX6_sum_33 : decode cX6_sum 33 = .ok (.iload_n 3, 1) := by decide +kernel
theorem dX6_sum_34 : decode cX6_sum 34 = .ok (.ireturn, 1) := by decide +kernel
theorem dX6_isWord_0 : decode cX6_isWord 0 = .ok (.aload_n 0, 1) := by decide +kernel
theorem dX6_isWord_1 : decode cX6_isWord 1 = .ok (.iload_n 1, 1) := by decide +kernel
theorem dX6_isWord_2 : decode cX6_isWord 2 = .ok (.iconst 0, 1) := by decide +kernel
theorem dX6_isWord_3 : decode cX6_isWord 3 = .ok (.invokevirtual 55, 3) := by decide +kernel
theorem dX6_isWord_6 : decode cX6_isWord 6 = .ok (.ifCond .ne 34, 3) := by decide +kernel
theorem dX6_isWord_9 : decode cX6_isWord 9 = .ok (.aload_n 0, 1) := by decide +kernel
theorem dX6_isWord_10 : decode cX6_isWord 10 = .ok (.iload_n 1, 1) := by decide +kernel
theorem dX6_isWord_11 : decode cX6_isWord 11 = .ok (.iconst 1, 1) := by decide +kernel
theorem dX6_isWord_12 : decode cX6_isWord 12 = .ok (.invokevirtual 55, 3) := by decide +kernel
theorem dX6_isWord_15 : decode cX6_isWord 15 = .ok (.ifCond .ne 25, 3) := by decide +kernel
theorem dX6_isWord_18 : decode cX6_isWord 18 = .ok (.aload_n 0, 1) := by decide +kernel
theorem dX6_isWord_19 : decode cX6_isWord 19 = .ok (.iload_n 1, 1) := by decide +kernel
theorem dX6_isWord_20 : decode cX6_isWord 20 = .ok (.iconst 2, 1) := by decide +kernel
theorem dX6_isWord_21 : decode cX6_isWord 21 = .ok (.invokevirtual 55, 3) := by decide +kernel
theorem dX6_isWord_24 : decode cX6_isWord 24 = .ok (.ifCond .ne 16, 3) := by decide +kernel
theorem dX6_isWord_27 : decode cX6_isWord 27 = .ok (.aload_n 0, 1) := by decide +kernel
theorem dX6_isWord_28 : decode cX6_isWord 28 = .ok (.iload_n 1, 1) := by decide +kernel
theorem dX6_isWord_29 : decode cX6_isWord 29 = .ok (.iconst 3, 1) := by decide +kernel
theorem dX6_isWord_30 : decode cX6_isWord 30 = .ok (.invokevirtual 55, 3) := by decide +kernel
theorem dX6_isWord_33 : decode cX6_isWord 33 = .ok (.ifCond .ne 7, 3) := by decide +kernel
theorem dX6_isWord_36 : decode cX6_isWord 36 = .ok (.iconst 1, 1) := by decide +kernel
theorem dX6_isWord_37 : decode cX6_isWord 37 = .ok (.goto 4, 3) := by decide +kernel
theorem dX6_isWord_40 : decode cX6_isWord 40 = .ok (.iconst 0, 1) := by decide +kernel
theorem dX6_isWord_41 : decode cX6_isWord 41 = .ok (.ireturn, 1) := by decide +kernel
theorem dX6_swap_0 : decode cX6_swap 0 = .ok (.iconst 0, 1) := by decide +kernel
theorem dX6_swap_1 : decode cX6_swap 1 = .ok (.istore_n 3, 1) := by decide +kernel
theorem dX6_swap_2 : decode cX6_swap 2 = .ok (.iload_n 3, 1) := by decide +kernel
theorem dX6_swap_3 : decode cX6_swap 3 = .ok (.iconst 5, 1) := by decide +kernel
theorem dX6_swap_4 : decode cX6_swap 4 = .ok (.if_icmp .ge 53, 3) := by decide +kernel
theorem dX6_swap_7 : decode cX6_swap 7 = .ok (.aload_n 0, 1) := by decide +kernel
theorem dX6_swap_8 : decode cX6_swap 8 = .ok (.getfield 41, 3) := by decide +kernel
theorem dX6_swap_11 : decode cX6_swap 11 = .ok (.iconst 5, 1) := by decide +kernel
theorem dX6_swap_12 : decode cX6_swap 12 = .ok (.iload_n 1, 1) := by decide +kernel
theorem dX6_swap_13 : decode cX6_swap 13 = .ok (.imul, 1) := by decide +kernel
theorem dX6_swap_14 : decode cX6_swap 14 = .ok (.iload_n 3, 1) := by decide +kernel
theorem dX6_swap_15 : decode cX6_swap 15 = .ok (.iadd, 1) := by decide +kernel
theorem dX6_swap_16 : decode cX6_swap 16 = .ok (.iaload, 1) := by decide +kernel
theorem dX6_swap_17 : decode cX6_swap 17 = .ok (.istore 4, 2) := by decide +kernel
theorem dX6_swap_19 : decode cX6_swap 19 = .ok (.aload_n 0, 1) := by decide +kernel
theorem dX6_swap_20 : decode cX6_swap 20 = .ok (.getfield 41, 3) := by decide +kernel
theorem dX6_swap_23 : decode cX6_swap 23 = .ok (.iconst 5, 1) := by decide +kernel
theorem dX6_swap_24 : decode cX6_swap 24 = .ok (.iload_n 1, 1) := by decide +kernel
theorem dX6_swap_25 : decode cX6_swap 25 = .ok (.imul, 1) := by decide +kernel
theorem dX6_swap_26 : decode cX6_swap 26 = .ok (.iload_n 3, 1) := by decide +kernel
theorem dX6_swap_27 : decode cX6_swap 27 = .ok (.iadd, 1) := by decide +kernel
theorem dX6_swap_28 : decode cX6_swap 28 = .ok (.aload_n 0, 1) := by decide +kernel
theorem dX6_swap_29 : decode cX6_swap 29 = .ok (.getfield 41, 3) := by decide +kernel
theorem dX6_swap_32 : decode cX6_swap 32 = .ok (.iconst 5, 1) := by decide +kernel
theorem dX6_swap_33 : decode cX6_swap 33 = .ok (.iload_n 2, 1) := by decide +kernel
theorem dX6_swap_34 : decode cX6_swap 34 = .ok (.imul, 1) := by decide +kernel
theorem dX6_swap_35 : decode cX6_swap 35 = .ok (.iload_n 3, 1) := by decide +kernel
theorem dX6_swap_36 : decode cX6_swap 36 = .ok (.iadd, 1) := by decide +kernel
theorem dX6_swap_37 : decode cX6_swap 37 = .ok (.iaload, 1) := by decide +kernel
theorem dX6_swap_38 : decode cX6_swap 38 = .ok (.iastore, 1) := by decide +kernel
theorem dX6_swap_39 : decode cX6_swap 39 = .ok (.aload_n 0, 1) := by decide +kernel
theorem dX6_swap_40 : decode cX6_swap 40 = .ok (.getfield 41, 3) := by decide +kernel
theorem dX6_swap_43 : decode cX6_swap 43 = .ok (.iconst 5, 1) := by decide +kernel
theorem dX6_swap_44 : decode cX6_swap 44 = .ok (.iload_n 2, 1) := by decide +kernel
theorem dX6_swap_45 : decode cX6_swap 45 = .ok (.imul, 1) := by decide +kernel
theorem dX6_swap_46 : decode cX6_swap 46 = .ok (.iload_n 3, 1) := by decide +kernel
theorem dX6_swap_47 : decode cX6_swap 47 = .ok (.iadd, 1) := by decide +kernel
theorem dX6_swap_48 : decode cX6_swap 48 = .ok (.iload 4, 2) := by decide +kernel
theorem dX6_swap_50 : decode cX6_swap 50 = .ok (.iastore, 1) := by decide +kernel
theorem dX6_swap_51 : decode cX6_swap 51 = .ok (.iinc 3 1, 3) := by decide +kernel
theorem dX6_swap_54 : decode cX6_swap 54 = .ok (.goto (-52), 3) := by decide +kernel
theorem dX6_swap_57 : decode cX6_swap 57 = .ok (.return_, 1) := by decide +kernel
theorem dX6_clear_0 : decode cX6_clear 0 = .ok (.iload_n 1, 1) := by decide +kernel
theorem dX6_clear_1 : decode cX6_clear 1 = .ok (.istore_n 2, 1) := by decide +kernel
theorem dX6_clear_2 : decode cX6_clear 2 = .ok (.iload_n 2, 1) := by decide +kernel
theorem dX6_clear_3 : decode cX6_clear 3 = .ok (.iconst 3, 1) := by decide +kernel
theorem dX6_clear_4 : decode cX6_clear 4 = .ok (.if_icmp .ge 22, 3) := by decide +kernel
theorem dX6_clear_7 : decode cX6_clear 7 = .ok (.aload_n 0, 1) := by decide +kernel
theorem dX6_clear_8 : decode cX6_clear 8 = .ok (.getfield 41, 3) := by decide +kernel
theorem dX6_clear_11 : decode cX6_clear 11 = .ok (.iconst 5, 1) := by decide +kernel
theorem dX6_clear_12 : decode cX6_clear 12 = .ok (.iload_n 2, 1) := by decide +kernel
theorem dX6_clear_13 : decode cX6_clear 13 = .ok (.imul, 1) := by decide +kernel
theorem dX6_clear_14 : decode cX6_clear 14 = .ok (.iload_n 1, 1) := by decide +kernel
theorem dX6_clear_15 : decode cX6_clear 15 = .ok (.iadd, 1) := by decide +kernel
theorem dX6_clear_16 : decode cX6_clear 16 = .ok (.iaload, 1) := by decide +kernel
theorem dX6_clear_17 : decode cX6_clear 17 = .ok (.ifCond .ne 9, 3) := by decide +kernel
theorem dX6_clear_20 : decode cX6_clear 20 = .ok (.iinc 2 1, 3) := by decide +kernel
theorem dX6_clear_23 : decode cX6_clear 23 = .ok (.goto (-21), 3) := by decide +kernel
theorem dX6_clear_26 : decode cX6_clear 26 = .ok (.aload_n 0, 1) := by decide +kernel
theorem dX6_clear_27 : decode cX6_clear 27 = .ok (.iload_n 2, 1) := by decide +kernel
theorem dX6_clear_28 : decode cX6_clear 28 = .ok (.iload_n 1, 1) := by decide +kernel
theorem dX6_clear_29 : decode cX6_clear 29 = .ok (.invokevirtual 58, 3) := by decide +kernel
theorem dX6_clear_32 : decode cX6_clear 32 = .ok (.aload_n 0, 1) := by decide +kernel
theorem dX6_clear_33 : decode cX6_clear 33 = .ok (.getfield 41, 3) := by decide +kernel
theorem dX6_clear_36 : decode cX6_clear 36 = .ok (.iconst 5, 1) := by decide +kernel
theorem dX6_clear_37 : decode cX6_clear 37 = .ok (.iload_n 1, 1) := by decide +kernel
theorem dX6_clear_38 : decode cX6_clear 38 = .ok (.imul, 1) := by decide +kernel
theorem dX6_clear_39 : decode cX6_clear 39 = .ok (.iload_n 1, 1) := by decide +kernel
theorem dX6_clear_40 : decode cX6_clear 40 = .ok (.iadd, 1) := by decide +kernel
theorem dX6_clear_41 : decode cX6_clear 41 = .ok (.iaload, 1) := by decide +kernel
theorem dX6_clear_42 : decode cX6_clear 42 = .ok (.invokestatic 62, 3) := by decide +kernel
theorem dX6_clear_45 : decode cX6_clear 45 = .ok (.istore_n 3, 1) := by decide +kernel
theorem dX6_clear_46 : decode cX6_clear 46 = .ok (.iconst 0, 1) := by decide +kernel
theorem dX6_clear_47 : decode cX6_clear 47 = .ok (.istore 4, 2) := by decide +kernel
theorem dX6_clear_49 : decode cX6_clear 49 = .ok (.iload 4, 2) := by decide +kernel
theorem dX6_clear_51 : decode cX6_clear 51 = .ok (.iconst 5, 1) := by decide +kernel
theorem dX6_clear_52 : decode cX6_clear 52 = .ok (.if_icmp .ge 35, 3) := by decide +kernel
theorem dX6_clear_55 : decode cX6_clear 55 = .ok (.aload_n 0, 1) := by decide +kernel
theorem dX6_clear_56 : decode cX6_clear 56 = .ok (.getfield 41, 3) := by decide +kernel
theorem dX6_clear_59 : decode cX6_clear 59 = .ok (.iconst 5, 1) := by decide +kernel
theorem dX6_clear_60 : decode cX6_clear 60 = .ok (.iload_n 1, 1) := by decide +kernel
theorem dX6_clear_61 : decode cX6_clear 61 = .ok (.imul, 1) := by decide +kernel
theorem dX6_clear_62 : decode cX6_clear 62 = .ok (.iload 4, 2) := by decide +kernel
theorem dX6_clear_64 : decode cX6_clear 64 = .ok (.iadd, 1) := by decide +kernel
theorem dX6_clear_65 : decode cX6_clear 65 = .ok (.aload_n 0, 1) := by decide +kernel
theorem dX6_clear_66 : decode cX6_clear 66 = .ok (.getfield 41, 3) := by decide +kernel
theorem dX6_clear_69 : decode cX6_clear 69 = .ok (.iconst 5, 1) := by decide +kernel
theorem dX6_clear_70 : decode cX6_clear 70 = .ok (.iload_n 1, 1) := by decide +kernel
theorem dX6_clear_71 : decode cX6_clear 71 = .ok (.imul, 1) := by decide +kernel
theorem dX6_clear_72 : decode cX6_clear 72 = .ok (.iload 4, 2) := by decide +kernel
theorem dX6_clear_74 : decode cX6_clear 74 = .ok (.iadd, 1) := by decide +kernel
theorem dX6_clear_75 : decode cX6_clear 75 = .ok (.iaload, 1) := by decide +kernel
theorem dX6_clear_76 : decode cX6_clear 76 = .ok (.iload_n 3, 1) := by decide +kernel
theorem dX6_clear_77 : decode cX6_clear 77 = .ok (.invokestatic 51, 3) := by decide +kernel
theorem dX6_clear_80 : decode cX6_clear 80 = .ok (.iastore, 1) := by decide +kernel
theorem dX6_clear_81 : decode cX6_clear 81 = .ok (.iinc 4 1, 3) := by decide +kernel
theorem dX6_clear_84 : decode cX6_clear 84 = .ok (.goto (-35), 3) := by decide +kernel
theorem dX6_clear_87 : decode cX6_clear 87 = .ok (.iconst 0, 1) := by decide +kernel
theorem dX6_clear_88 : decode cX6_clear 88 = .ok (.istore 4, 2) := by decide +kernel
theorem dX6_clear_90 : decode cX6_clear 90 = .ok (.iload 4, 2) := by decide +kernel
theorem dX6_clear_92 : decode cX6_clear 92 = .ok (.iconst 4, 1) := by decide +kernel
theorem dX6_clear_93 : decode cX6_clear 93 = .ok (.if_icmp .ge 74, 3) := by decide +kernel
theorem dX6_clear_96 : decode cX6_clear 96 = .ok (.aload_n 0, 1) := by decide +kernel
theorem dX6_clear_97 : decode cX6_clear 97 = .ok (.getfield 41, 3) := by decide +kernel
theorem dX6_clear_100 : decode cX6_clear 100 = .ok (.iconst 5, 1) := by decide +kernel
theorem dX6_clear_101 : decode cX6_clear 101 = .ok (.iload 4, 2) := by decide +kernel
theorem dX6_clear_103 : decode cX6_clear 103 = .ok (.imul, 1) := by decide +kernel
theorem dX6_clear_104 : decode cX6_clear 104 = .ok (.iload_n 1, 1) := by decide +kernel
theorem dX6_clear_105 : decode cX6_clear 105 = .ok (.iadd, 1) := by decide +kernel
theorem dX6_clear_106 : decode cX6_clear 106 = .ok (.iaload, 1) := by decide +kernel
theorem dX6_clear_107 : decode cX6_clear 107 = .ok (.istore 5, 2) := by decide +kernel
theorem dX6_clear_109 : decode cX6_clear 109 = .ok (.iconst 0, 1) := by decide +kernel
theorem dX6_clear_110 : decode cX6_clear 110 = .ok (.istore 6, 2) := by decide +kernel
theorem dX6_clear_112 : decode cX6_clear 112 = .ok (.iload 6, 2) := by decide +kernel
theorem dX6_clear_114 : decode cX6_clear 114 = .ok (.iconst 5, 1) := by decide +kernel
theorem dX6_clear_115 : decode cX6_clear 115 = .ok (.if_icmp .ge 46, 3) := by decide +kernel
theorem dX6_clear_118 : decode cX6_clear 118 = .ok (.iload 4, 2) := by decide +kernel
theorem dX6_clear_120 : decode cX6_clear 120 = .ok (.iload_n 1, 1) := by decide +kernel
theorem dX6_clear_121 : decode cX6_clear 121 = .ok (.if_icmp .eq 40, 3) := by decide +kernel
theorem dX6_clear_124 : decode cX6_clear 124 = .ok (.aload_n 0, 1) := by decide +kernel
theorem dX6_clear_125 : decode cX6_clear 125 = .ok (.getfield 41, 3) := by decide +kernel
theorem dX6_clear_128 : decode cX6_clear 128 = .ok (.iconst 5, 1) := by decide +kernel
theorem dX6_clear_129 : decode cX6_clear 129 = .ok (.iload 4, 2) := by decide +kernel
theorem dX6_clear_131 : decode cX6_clear 131 = .ok (.imul, 1) := by decide +kernel
theorem dX6_clear_132 : decode cX6_clear 132 = .ok (.iload 6, 2) := by decide +kernel
theorem dX6_clear_134 : decode cX6_clear 134 = .ok (.iadd, 1) := by decide +kernel
theorem dX6_clear_135 : decode cX6_clear 135 = .ok (.dup2, 1) := by decide +kernel
theorem dX6_clear_136 : decode cX6_clear 136 = .ok (.iaload, 1) := by decide +kernel
theorem dX6_clear_137 : decode cX6_clear 137 = .ok (.iload 5, 2) := by decide +kernel
theorem dX6_clear_139 : decode cX6_clear 139 = .ok (.aload_n 0, 1) := by decide +kernel
theorem dX6_clear_140 : decode cX6_clear 140 = .ok (.getfield 41, 3) := by decide +kernel
theorem dX6_clear_143 : decode cX6_clear 143 = .ok (.iconst 5, 1) := by decide +kernel
theorem dX6_clear_144 : decode cX6_clear 144 = .ok (.iload_n 1, 1) := by decide +kernel
theorem dX6_clear_145 : decode cX6_clear 145 = .ok (.imul, 1) := by decide +kernel
theorem dX6_clear_146 : decode cX6_clear 146 = .ok (.iload 6, 2) := by decide +kernel
theorem dX6_clear_148 : decode cX6_clear 148 = .ok (.iadd, 1) := by decide +kernel
theorem dX6_clear_149 : decode cX6_clear 149 = .ok (.iaload, 1) := by decide +kernel
theorem dX6_clear_150 : decode cX6_clear 150 = .ok (.invokestatic 51, 3) := by decide +kernel
theorem dX6_clear_153 : decode cX6_clear 153 = .ok (.ixor, 1) := by decide +kernel
theorem dX6_clear_154 : decode cX6_clear 154 = .ok (.iastore, 1) := by decide +kernel
theorem dX6_clear_155 : decode cX6_clear 155 = .ok (.iinc 6 1, 3) := by decide +kernel
theorem dX6_clear_158 : decode cX6_clear 158 = .ok (.goto (-46), 3) := by decide +kernel
theorem dX6_clear_161 : decode cX6_clear 161 = .ok (.iinc 4 1, 3) := by decide +kernel
theorem dX6_clear_164 : decode cX6_clear 164 = .ok (.goto (-74), 3) := by decide +kernel
theorem dX6_clear_167 : decode cX6_clear 167 = .ok (.return_, 1) := by decide +kernel
theorem dX6_fill_0 : decode cX6_fill 0 = .ok (.iconst 0, 1) := by decide +kernel
theorem dX6_fill_1 : decode cX6_fill 1 = .ok (.istore_n 2, 1) := by decide +kernel
theorem dX6_fill_2 : decode cX6_fill 2 = .ok (.iconst 0, 1) := by decide +kernel
theorem dX6_fill_3 : decode cX6_fill 3 = .ok (.istore_n 3, 1) := by decide +kernel
theorem dX6_fill_4 : decode cX6_fill 4 = .ok (.iload_n 3, 1) := by decide +kernel
theorem dX6_fill_5 : decode cX6_fill 5 = .ok (.iload_n 1, 1) := by decide +kernel
theorem dX6_fill_6 : decode cX6_fill 6 = .ok (.if_icmp .ge 28, 3) := by decide +kernel
theorem dX6_fill_9 : decode cX6_fill 9 = .ok (.aload_n 0, 1) := by decide +kernel
theorem dX6_fill_10 : decode cX6_fill 10 = .ok (.getfield 38, 3) := by decide +kernel
theorem dX6_fill_13 : decode cX6_fill 13 = .ok (.iload_n 3, 1) := by decide +kernel
theorem dX6_fill_14 : decode cX6_fill 14 = .ok (.baload, 1) := by decide +kernel
theorem dX6_fill_15 : decode cX6_fill 15 = .ok (.ifCond .eq 13, 3) := by decide +kernel
theorem dX6_fill_18 : decode cX6_fill 18 = .ok (.aload_n 0, 1) := by decide +kernel
theorem dX6_fill_19 : decode cX6_fill 19 = .ok (.getfield 44, 3) := by decide +kernel
theorem dX6_fill_22 : decode cX6_fill 22 = .ok (.iload_n 2, 1) := by decide +kernel
theorem dX6_fill_23 : decode cX6_fill 23 = .ok (.iload_n 3, 1) := by decide +kernel
theorem dX6_fill_24 : decode cX6_fill 24 = .ok (.iastore, 1) := by decide +kernel
theorem dX6_fill_25 : decode cX6_fill 25 = .ok (.iinc 2 1, 3) := by decide +kernel
theorem dX6_fill_28 : decode cX6_fill 28 = .ok (.iinc 3 1, 3) := by decide +kernel
theorem dX6_fill_31 : decode cX6_fill 31 = .ok (.goto (-27), 3) := by decide +kernel
theorem dX6_fill_34 : decode cX6_fill 34 = .ok (.iconst 0, 1) := by decide +kernel
theorem dX6_fill_35 : decode cX6_fill 35 = .ok (.istore_n 3, 1) := by decide +kernel
theorem dX6_fill_36 : decode cX6_fill 36 = .ok (.iload_n 3, 1) := by decide +kernel
theorem dX6_fill_37 : decode cX6_fill 37 = .ok (.iconst 4, 1) := by decide +kernel
theorem dX6_fill_38 : decode cX6_fill 38 = .ok (.if_icmp .ge 123, 3) := by decide +kernel
theorem dX6_fill_41 : decode cX6_fill 41 = .ok (.iconst 0, 1) := by decide +kernel
theorem dX6_fill_42 : decode cX6_fill 42 = .ok (.istore 4, 2) := by decide +kernel
theorem dX6_fill_44 : decode cX6_fill 44 = .ok (.iconst 0, 1) := by decide +kernel
theorem dX6_fill_45 : decode cX6_fill 45 = .ok (.istore 5, 2) := by decide +kernel
theorem dX6_fill_47 : decode cX6_fill 47 = .ok (.iload 5, 2) := by decide +kernel
theorem dX6_fill_49 : decode cX6_fill 49 = .ok (.iload_n 1, 1) := by decide +kernel
theorem dX6_fill_50 : decode cX6_fill 50 = .ok (.if_icmp .ge 41, 3) := by decide +kernel
theorem dX6_fill_53 : decode cX6_fill 53 = .ok (.iload 4, 2) := by decide +kernel
theorem dX6_fill_55 : decode cX6_fill 55 = .ok (.iconst 1, 1) := by decide +kernel
theorem dX6_fill_56 : decode cX6_fill 56 = .ok (.iload_n 3, 1) := by decide +kernel
theorem dX6_fill_57 : decode cX6_fill 57 = .ok (.ishl, 1) := by decide +kernel
theorem dX6_fill_58 : decode cX6_fill 58 = .ok (.invokestatic 51, 3) := by decide +kernel
theorem dX6_fill_61 : decode cX6_fill 61 = .ok (.aload_n 0, 1) := by decide +kernel
theorem dX6_fill_62 : decode cX6_fill 62 = .ok (.getfield 38, 3) := by decide +kernel
theorem dX6_fill_65 : decode cX6_fill 65 = .ok (.iload 5, 2) := by decide +kernel
theorem dX6_fill_67 : decode cX6_fill 67 = .ok (.baload, 1) := by decide +kernel
theorem dX6_fill_68 : decode cX6_fill 68 = .ok (.ifCond .eq 7, 3) := by decide +kernel
theorem dX6_fill_71 : decode cX6_fill 71 = .ok (.iconst 0, 1) := by decide +kernel
theorem dX6_fill_72 : decode cX6_fill 72 = .ok (.goto 10, 3) := by decide +kernel
theorem dX6_fill_75 : decode cX6_fill 75 = .ok (.aload_n 0, 1) := by decide +kernel
theorem dX6_fill_76 : decode cX6_fill 76 = .ok (.getfield 35, 3) := by decide +kernel
theorem dX6_fill_79 : decode cX6_fill 79 = .ok (.iload 5, 2) := by decide +kernel
theorem dX6_fill_81 : decode cX6_fill 81 = .ok (.iaload, 1) := by decide +kernel
theorem dX6_fill_82 : decode cX6_fill 82 = .ok (.ixor, 1) := by decide +kernel
theorem dX6_fill_83 : decode cX6_fill 83 = .ok (.istore 4, 2) := by decide +kernel
theorem dX6_fill_85 : decode cX6_fill 85 = .ok (.iinc 5 1, 3) := by decide +kernel
theorem dX6_fill_88 : decode cX6_fill 88 = .ok (.goto (-41), 3) := by decide +kernel
theorem dX6_fill_91 : decode cX6_fill 91 = .ok (.iconst 0, 1) := by decide +kernel
theorem dX6_fill_92 : decode cX6_fill 92 = .ok (.istore 5, 2) := by decide +kernel
theorem dX6_fill_94 : decode cX6_fill 94 = .ok (.iload 5, 2) := by decide +kernel
theorem dX6_fill_96 : decode cX6_fill 96 = .ok (.iconst 4, 1) := by decide +kernel
theorem dX6_fill_97 : decode cX6_fill 97 = .ok (.if_icmp .ge 46, 3) := by decide +kernel
theorem dX6_fill_100 : decode cX6_fill 100 = .ok (.aload_n 0, 1) := by decide +kernel
theorem dX6_fill_101 : decode cX6_fill 101 = .ok (.getfield 41, 3) := by decide +kernel
theorem dX6_fill_104 : decode cX6_fill 104 = .ok (.iconst 5, 1) := by decide +kernel
theorem dX6_fill_105 : decode cX6_fill 105 = .ok (.iload_n 3, 1) := by decide +kernel
theorem dX6_fill_106 : decode cX6_fill 106 = .ok (.imul, 1) := by decide +kernel
theorem dX6_fill_107 : decode cX6_fill 107 = .ok (.iload 5, 2) := by decide +kernel
theorem dX6_fill_109 : decode cX6_fill 109 = .ok (.iadd, 1) := by decide +kernel
theorem dX6_fill_110 : decode cX6_fill 110 = .ok (.iload 5, 2) := by decide +kernel
theorem dX6_fill_112 : decode cX6_fill 112 = .ok (.iload_n 2, 1) := by decide +kernel
theorem dX6_fill_113 : decode cX6_fill 113 = .ok (.if_icmp .ge 22, 3) := by decide +kernel
theorem dX6_fill_116 : decode cX6_fill 116 = .ok (.iload_n 3, 1) := by decide +kernel
theorem dX6_fill_117 : decode cX6_fill 117 = .ok (.iload_n 1, 1) := by decide +kernel
theorem dX6_fill_118 : decode cX6_fill 118 = .ok (.iconst 1, 1) := by decide +kernel
theorem dX6_fill_119 : decode cX6_fill 119 = .ok (.isub, 1) := by decide +kernel
theorem dX6_fill_120 : decode cX6_fill 120 = .ok (.aload_n 0, 1) := by decide +kernel
theorem dX6_fill_121 : decode cX6_fill 121 = .ok (.getfield 44, 3) := by decide +kernel
theorem dX6_fill_124 : decode cX6_fill 124 = .ok (.iload 5, 2) := by decide +kernel
theorem dX6_fill_126 : decode cX6_fill 126 = .ok (.iaload, 1) := by decide +kernel
theorem dX6_fill_127 : decode cX6_fill 127 = .ok (.isub, 1) := by decide +kernel
theorem dX6_fill_128 : decode cX6_fill 128 = .ok (.imul, 1) := by decide +kernel
theorem dX6_fill_129 : decode cX6_fill 129 = .ok (.invokestatic 66, 3) := by decide +kernel
theorem dX6_fill_132 : decode cX6_fill 132 = .ok (.goto 4, 3) := by decide +kernel
theorem dX6_fill_135 : decode cX6_fill 135 = .ok (.iconst 0, 1) := by decide +kernel
theorem dX6_fill_136 : decode cX6_fill 136 = .ok (.iastore, 1) := by decide +kernel
theorem dX6_fill_137 : decode cX6_fill 137 = .ok (.iinc 5 1, 3) := by decide +kernel
theorem dX6_fill_140 : decode cX6_fill 140 = .ok (.goto (-46), 3) := by decide +kernel
theorem dX6_fill_143 : decode cX6_fill 143 = .ok (.aload_n 0, 1) := by decide +kernel
theorem dX6_fill_144 : decode cX6_fill 144 = .ok (.getfield 41, 3) := by decide +kernel
theorem dX6_fill_147 : decode cX6_fill 147 = .ok (.iconst 5, 1) := by decide +kernel
theorem dX6_fill_148 : decode cX6_fill 148 = .ok (.iload_n 3, 1) := by decide +kernel
theorem dX6_fill_149 : decode cX6_fill 149 = .ok (.imul, 1) := by decide +kernel
theorem dX6_fill_150 : decode cX6_fill 150 = .ok (.iconst 4, 1) := by decide +kernel
theorem dX6_fill_151 : decode cX6_fill 151 = .ok (.iadd, 1) := by decide +kernel
theorem dX6_fill_152 : decode cX6_fill 152 = .ok (.iload 4, 2) := by decide +kernel
theorem dX6_fill_154 : decode cX6_fill 154 = .ok (.iastore, 1) := by decide +kernel
theorem dX6_fill_155 : decode cX6_fill 155 = .ok (.iinc 3 1, 3) := by decide +kernel
theorem dX6_fill_158 : decode cX6_fill 158 = .ok (.goto (-122), 3) := by decide +kernel
theorem dX6_fill_161 : decode cX6_fill 161 = .ok (.iconst 0, 1) := by decide +kernel
theorem dX6_fill_162 : decode cX6_fill 162 = .ok (.istore_n 3, 1) := by decide +kernel
theorem dX6_fill_163 : decode cX6_fill 163 = .ok (.iload_n 3, 1) := by decide +kernel
theorem dX6_fill_164 : decode cX6_fill 164 = .ok (.iload_n 2, 1) := by decide +kernel
theorem dX6_fill_165 : decode cX6_fill 165 = .ok (.if_icmp .ge 14, 3) := by decide +kernel
theorem dX6_fill_168 : decode cX6_fill 168 = .ok (.aload_n 0, 1) := by decide +kernel
theorem dX6_fill_169 : decode cX6_fill 169 = .ok (.iload_n 3, 1) := by decide +kernel
theorem dX6_fill_170 : decode cX6_fill 170 = .ok (.invokevirtual 69, 3) := by decide +kernel
theorem dX6_fill_173 : decode cX6_fill 173 = .ok (.iinc 3 1, 3) := by decide +kernel
theorem dX6_fill_176 : decode cX6_fill 176 = .ok (.goto (-13), 3) := by decide +kernel
theorem dX6_fill_179 : decode cX6_fill 179 = .ok (.iconst 1, 1) := by decide +kernel
theorem dX6_fill_180 : decode cX6_fill 180 = .ok (.istore_n 3, 1) := by decide +kernel
theorem dX6_fill_181 : decode cX6_fill 181 = .ok (.iload_n 2, 1) := by decide +kernel
theorem dX6_fill_182 : decode cX6_fill 182 = .ok (.istore 4, 2) := by decide +kernel
theorem dX6_fill_184 : decode cX6_fill 184 = .ok (.iload 4, 2) := by decide +kernel
theorem dX6_fill_186 : decode cX6_fill 186 = .ok (.iconst 4, 1) := by decide +kernel
theorem dX6_fill_187 : decode cX6_fill 187 = .ok (.if_icmp .ge 33, 3) := by decide +kernel
theorem dX6_fill_190 : decode cX6_fill 190 = .ok (.iload_n 3, 1) := by decide +kernel
theorem dX6_fill_191 : decode cX6_fill 191 = .ok (.ifCond .eq 21, 3) := by decide +kernel
theorem dX6_fill_194 : decode cX6_fill 194 = .ok (.aload_n 0, 1) := by decide +kernel
theorem dX6_fill_195 : decode cX6_fill 195 = .ok (.getfield 41, 3) := by decide +kernel
theorem dX6_fill_198 : decode cX6_fill 198 = .ok (.iconst 5, 1) := by decide +kernel
theorem dX6_fill_199 : decode cX6_fill 199 = .ok (.iload 4, 2) := by decide +kernel
theorem dX6_fill_201 : decode cX6_fill 201 = .ok (.imul, 1) := by decide +kernel
theorem dX6_fill_202 : decode cX6_fill 202 = .ok (.iconst 4, 1) := by decide +kernel
theorem dX6_fill_203 : decode cX6_fill 203 = .ok (.iadd, 1) := by decide +kernel
theorem dX6_fill_204 : decode cX6_fill 204 = .ok (.iaload, 1) := by decide +kernel
theorem dX6_fill_205 : decode cX6_fill 205 = .ok (.ifCond .ne 7, 3) := by decide +kernel
theorem dX6_fill_208 : decode cX6_fill 208 = .ok (.iconst 1, 1) := by decide +kernel
theorem dX6_fill_209 : decode cX6_fill 209 = .ok (.goto 4, 3) := by decide +kernel
theorem dX6_fill_212 : decode cX6_fill 212 = .ok (.iconst 0, 1) := by decide +kernel
theorem dX6_fill_213 : decode cX6_fill 213 = .ok (.istore_n 3, 1) := by decide +kernel
theorem dX6_fill_214 : decode cX6_fill 214 = .ok (.iinc 4 1, 3) := by decide +kernel
theorem dX6_fill_217 : decode cX6_fill 217 = .ok (.goto (-33), 3) := by decide +kernel
theorem dX6_fill_220 : decode cX6_fill 220 = .ok (.iconst 0, 1) := by decide +kernel
theorem dX6_fill_221 : decode cX6_fill 221 = .ok (.istore 4, 2) := by decide +kernel
theorem dX6_fill_223 : decode cX6_fill 223 = .ok (.iload 4, 2) := by decide +kernel
theorem dX6_fill_225 : decode cX6_fill 225 = .ok (.iload_n 2, 1) := by decide +kernel
theorem dX6_fill_226 : decode cX6_fill 226 = .ok (.if_icmp .ge 36, 3) := by decide +kernel
theorem dX6_fill_229 : decode cX6_fill 229 = .ok (.iload_n 3, 1) := by decide +kernel
theorem dX6_fill_230 : decode cX6_fill 230 = .ok (.ifCond .eq 32, 3) := by decide +kernel
theorem dX6_fill_233 : decode cX6_fill 233 = .ok (.aload_n 0, 1) := by decide +kernel
theorem dX6_fill_234 : decode cX6_fill 234 = .ok (.getfield 35, 3) := by decide +kernel
theorem dX6_fill_237 : decode cX6_fill 237 = .ok (.aload_n 0, 1) := by decide +kernel
theorem dX6_fill_238 : decode cX6_fill 238 = .ok (.getfield 44, 3) := by decide +kernel
theorem dX6_fill_241 : decode cX6_fill 241 = .ok (.iload 4, 2) := by decide +kernel
theorem dX6_fill_243 : decode cX6_fill 243 = .ok (.iaload, 1) := by decide +kernel
theorem dX6_fill_244 : decode cX6_fill 244 = .ok (.aload_n 0, 1) := by decide +kernel
theorem dX6_fill_245 : decode cX6_fill 245 = .ok (.getfield 41, 3) := by decide +kernel
theorem dX6_fill_248 : decode cX6_fill 248 = .ok (.iconst 5, 1) := by decide +kernel
theorem dX6_fill_249 : decode cX6_fill 249 = .ok (.iload 4, 2) := by decide +kernel
theorem dX6_fill_251 : decode cX6_fill 251 = .ok (.imul, 1) := by decide +kernel
theorem dX6_fill_252 : decode cX6_fill 252 = .ok (.iconst 4, 1) := by decide +kernel
theorem dX6_fill_253 : decode cX6_fill 253 = .ok (.iadd, 1) := by decide +kernel
theorem dX6_fill_254 : decode cX6_fill 254 = .ok (.iaload, 1) := by decide +kernel
theorem dX6_fill_255 : decode cX6_fill 255 = .ok (.iastore, 1) := by decide +kernel
theorem dX6_fill_256 : decode cX6_fill 256 = .ok (.iinc 4 1, 3) := by decide +kernel
theorem dX6_fill_259 : decode cX6_fill 259 = .ok (.goto (-36), 3) := by decide +kernel
theorem dX6_fill_262 : decode cX6_fill 262 = .ok (.iload_n 3, 1) := by decide +kernel
theorem dX6_fill_263 : decode cX6_fill 263 = .ok (.ireturn, 1) := by decide +kernel
theorem dX6_finish_0 : decode cX6_finish 0 = .ok (.iconst 0, 1) := by decide +kernel
theorem dX6_finish_1 : decode cX6_finish 1 = .ok (.istore_n 2, 1) := by decide +kernel
theorem dX6_finish_2 : decode cX6_finish 2 = .ok (.iload_n 2, 1) := by decide +kernel
theorem dX6_finish_3 : decode cX6_finish 3 = .ok (.bipush 16, 2) := by decide +kernel
theorem dX6_finish_5 : decode cX6_finish 5 = .ok (.if_icmp .ge 32, 3) := by decide +kernel
theorem dX6_finish_8 : decode cX6_finish 8 = .ok (.aload_n 0, 1) := by decide +kernel
theorem dX6_finish_9 : decode cX6_finish 9 = .ok (.getfield 38, 3) := by decide +kernel
theorem dX6_finish_12 : decode cX6_finish 12 = .ok (.iload_n 2, 1) := by decide +kernel
theorem dX6_finish_13 : decode cX6_finish 13 = .ok (.iload_n 2, 1) := by decide +kernel
theorem dX6_finish_14 : decode cX6_finish 14 = .ok (.iload_n 1, 1) := by decide +kernel
theorem dX6_finish_15 : decode cX6_finish 15 = .ok (.iconst 4, 1) := by decide +kernel
theorem dX6_finish_16 : decode cX6_finish 16 = .ok (.isub, 1) := by decide +kernel
theorem dX6_finish_17 : decode cX6_finish 17 = .ok (.if_icmp .lt 12, 3) := by decide +kernel
theorem dX6_finish_20 : decode cX6_finish 20 = .ok (.iload_n 2, 1) := by decide +kernel
theorem dX6_finish_21 : decode cX6_finish 21 = .ok (.iload_n 1, 1) := by decide +kernel
theorem dX6_finish_22 : decode cX6_finish 22 = .ok (.if_icmp .ge 7, 3) := by decide +kernel
theorem dX6_finish_25 : decode cX6_finish 25 = .ok (.iconst 1, 1) := by decide +kernel
theorem dX6_finish_26 : decode cX6_finish 26 = .ok (.goto 4, 3) := by decide +kernel
theorem dX6_finish_29 : decode cX6_finish 29 = .ok (.iconst 0, 1) := by decide +kernel
theorem dX6_finish_30 : decode cX6_finish 30 = .ok (.bastore, 1) := by decide +kernel
theorem dX6_finish_31 : decode cX6_finish 31 = .ok (.iinc 2 1, 3) := by decide +kernel
theorem dX6_finish_34 : decode cX6_finish 34 = .ok (.goto (-32), 3) := by decide +kernel
theorem dX6_finish_37 : decode cX6_finish 37 = .ok (.aload_n 0, 1) := by decide +kernel
theorem dX6_finish_38 : decode cX6_finish 38 = .ok (.iload_n 1, 1) := by decide +kernel
theorem dX6_finish_39 : decode cX6_finish 39 = .ok (.invokevirtual 73, 3) := by decide +kernel
theorem dX6_finish_42 : decode cX6_finish 42 = .ok (.pop, 1) := by decide +kernel
theorem dX6_finish_43 : decode cX6_finish 43 = .ok (.return_, 1) := by decide +kernel
theorem dX6_loadData_0 : decode cX6_loadData 0 = .ok (.iconst 0, 1) := by decide +kernel
theorem dX6_loadData_1 : decode cX6_loadData 1 = .ok (.istore_n 3, 1) := by decide +kernel
theorem dX6_loadData_2 : decode cX6_loadData 2 = .ok (.iload_n 3, 1) := by decide +kernel
theorem dX6_loadData_3 : decode cX6_loadData 3 = .ok (.bipush 8, 2) := by decide +kernel
theorem dX6_loadData_5 : decode cX6_loadData 5 = .ok (.if_icmp .ge 26, 3) := by decide +kernel
theorem dX6_loadData_8 : decode cX6_loadData 8 = .ok (.aload_n 0, 1) := by decide +kernel
theorem dX6_loadData_9 : decode cX6_loadData 9 = .ok (.getfield 35, 3) := by decide +kernel
theorem dX6_loadData_12 : decode cX6_loadData 12 = .ok (.iload_n 3, 1) := by decide +kernel
theorem dX6_loadData_13 : decode cX6_loadData 13 = .ok (.lload_n 1, 1) := by decide +kernel
theorem dX6_loadData_14 : decode cX6_loadData 14 = .ok (.bipush 8, 2) := by decide +kernel
theorem dX6_loadData_16 : decode cX6_loadData 16 = .ok (.iload_n 3, 1) := by decide +kernel
theorem dX6_loadData_17 : decode cX6_loadData 17 = .ok (.imul, 1) := by decide +kernel
theorem dX6_loadData_18 : decode cX6_loadData 18 = .ok (.lshr, 1) := by decide +kernel
theorem dX6_loadData_19 : decode cX6_loadData 19 = .ok (.ldc2_w 77, 3) := by decide +kernel
theorem dX6_loadData_22 : decode cX6_loadData 22 = .ok (.land, 1) := by decide +kernel
theorem dX6_loadData_23 : decode cX6_loadData 23 = .ok (.l2i, 1) := by decide +kernel
theorem dX6_loadData_24 : decode cX6_loadData 24 = .ok (.iastore, 1) := by decide +kernel
theorem dX6_loadData_25 : decode cX6_loadData 25 = .ok (.iinc 3 1, 3) := by decide +kernel
theorem dX6_loadData_28 : decode cX6_loadData 28 = .ok (.goto (-26), 3) := by decide +kernel
theorem dX6_loadData_31 : decode cX6_loadData 31 = .ok (.return_, 1) := by decide +kernel
theorem dX6_feed_0 : decode cX6_feed 0 = .ok (.aload_n 0, 1) := by decide +kernel
theorem dX6_feed_1 : decode cX6_feed 1 = .ok (.aload_n 0, 1) := by decide +kernel
theorem dX6_feed_2 : decode cX6_feed 2 = .ok (.getfield 79, 3) := by decide +kernel
theorem dX6_feed_5 : decode cX6_feed 5 = .ok (.bipush 48, 2) := by decide +kernel
theorem dX6_feed_7 : decode cX6_feed 7 = .ok (.if_icmp .ne 7, 3) := by decide +kernel
theorem dX6_feed_10 : decode cX6_feed 10 = .ok (.iconst 1, 1) := by decide +kernel
theorem dX6_feed_11 : decode cX6_feed 11 = .ok (.goto 4, 3) := by decide +kernel
theorem dX6_feed_14 : decode cX6_feed 14 = .ok (.iconst 0, 1) := by decide +kernel
theorem dX6_feed_15 : decode cX6_feed 15 = .ok (.putfield 47, 3) := by decide +kernel
theorem dX6_feed_18 : decode cX6_feed 18 = .ok (.aload_n 0, 1) := by decide +kernel
theorem dX6_feed_19 : decode cX6_feed 19 = .ok (.getfield 47, 3) := by decide +kernel
theorem dX6_feed_22 : decode cX6_feed 22 = .ok (.ifCond .le 5, 3) := by decide +kernel
theorem dX6_feed_25 : decode cX6_feed 25 = .ok (.iconst 0, 1) := by decide +kernel
theorem dX6_feed_26 : decode cX6_feed 26 = .ok (.ireturn, 1) := by decide +kernel
theorem dX6_feed_27 : decode cX6_feed 27 = .ok (.aload_n 0, 1) := by decide +kernel
theorem dX6_feed_28 : decode cX6_feed 28 = .ok (.getfield 79, 3) := by decide +kernel
theorem dX6_feed_31 : decode cX6_feed 31 = .ok (.istore_n 3, 1) := by decide +kernel
theorem dX6_feed_32 : decode cX6_feed 32 = .ok (.aload_n 0, 1) := by decide +kernel
theorem dX6_feed_33 : decode cX6_feed 33 = .ok (.lload_n 1, 1) := by decide +kernel
theorem dX6_feed_34 : decode cX6_feed 34 = .ok (.invokevirtual 82, 3) := by decide +kernel
theorem dX6_feed_37 : decode cX6_feed 37 = .ok (.aload_n 0, 1) := by decide +kernel
theorem dX6_feed_38 : decode cX6_feed 38 = .ok (.bipush 12, 2) := by decide +kernel
theorem dX6_feed_40 : decode cX6_feed 40 = .ok (.invokevirtual 86, 3) := by decide +kernel
theorem dX6_feed_43 : decode cX6_feed 43 = .ok (.iconst 0, 1) := by decide +kernel
theorem dX6_feed_44 : decode cX6_feed 44 = .ok (.istore 4, 2) := by decide +kernel
theorem dX6_feed_46 : decode cX6_feed 46 = .ok (.iload 4, 2) := by decide +kernel
theorem dX6_feed_48 : decode cX6_feed 48 = .ok (.bipush 12, 2) := by decide +kernel
theorem dX6_feed_50 : decode cX6_feed 50 = .ok (.if_icmp .ge 28, 3) := by decide +kernel
theorem dX6_feed_53 : decode cX6_feed 53 = .ok (.aload_n 0, 1) := by decide +kernel
theorem dX6_feed_54 : decode cX6_feed 54 = .ok (.getfield 7, 3) := by decide +kernel
theorem dX6_feed_57 : decode cX6_feed 57 = .ok (.bipush 12, 2) := by decide +kernel
theorem dX6_feed_59 : decode cX6_feed 59 = .ok (.iload_n 3, 1) := by decide +kernel
theorem dX6_feed_60 : decode cX6_feed 60 = .ok (.imul, 1) := by decide +kernel
theorem dX6_feed_61 : decode cX6_feed 61 = .ok (.iload 4, 2) := by decide +kernel
theorem dX6_feed_63 : decode cX6_feed 63 = .ok (.iadd, 1) := by decide +kernel
theorem dX6_feed_64 : decode cX6_feed 64 = .ok (.aload_n 0, 1) := by decide +kernel
theorem dX6_feed_65 : decode cX6_feed 65 = .ok (.getfield 35, 3) := by decide +kernel
theorem dX6_feed_68 : decode cX6_feed 68 = .ok (.iload 4, 2) := by decide +kernel
theorem dX6_feed_70 : decode cX6_feed 70 = .ok (.iaload, 1) := by decide +kernel
theorem dX6_feed_71 : decode cX6_feed 71 = .ok (.iastore, 1) := by decide +kernel
theorem dX6_feed_72 : decode cX6_feed 72 = .ok (.iinc 4 1, 3) := by decide +kernel
theorem dX6_feed_75 : decode cX6_feed 75 = .ok (.goto (-29), 3) := by decide +kernel
theorem dX6_feed_78 : decode cX6_feed 78 = .ok (.iconst 0, 1) := by decide +kernel
theorem dX6_feed_79 : decode cX6_feed 79 = .ok (.istore 4, 2) := by decide +kernel
theorem dX6_feed_81 : decode cX6_feed 81 = .ok (.iload 4, 2) := by decide +kernel
theorem dX6_feed_83 : decode cX6_feed 83 = .ok (.bipush 12, 2) := by decide +kernel
theorem dX6_feed_85 : decode cX6_feed 85 = .ok (.if_icmp .ge 42, 3) := by decide +kernel
theorem dX6_feed_88 : decode cX6_feed 88 = .ok (.aload_n 0, 1) := by decide +kernel
theorem dX6_feed_89 : decode cX6_feed 89 = .ok (.getfield 35, 3) := by decide +kernel
theorem dX6_feed_92 : decode cX6_feed 92 = .ok (.iload 4, 2) := by decide +kernel
theorem dX6_feed_94 : decode cX6_feed 94 = .ok (.iload_n 3, 1) := by decide +kernel
theorem dX6_feed_95 : decode cX6_feed 95 = .ok (.iload 4, 2) := by decide +kernel
theorem dX6_feed_97 : decode cX6_feed 97 = .ok (.isub, 1) := by decide +kernel
theorem dX6_feed_98 : decode cX6_feed 98 = .ok (.ifCond .ge 7, 3) := by decide +kernel
theorem dX6_feed_101 : decode cX6_feed 101 = .ok (.iconst 0, 1) := by decide +kernel
theorem dX6_feed_102 : decode cX6_feed 102 = .ok (.goto 18, 3) := by decide +kernel
theorem dX6_feed_105 : decode cX6_feed 105 = .ok (.aload_n 0, 1) := by decide +kernel
theorem dX6_feed_106 : decode cX6_feed 106 = .ok (.getfield 7, 3) := by decide +kernel
theorem dX6_feed_109 : decode cX6_feed 109 = .ok (.bipush 12, 2) := by decide +kernel
theorem dX6_feed_111 : decode cX6_feed 111 = .ok (.iload_n 3, 1) := by decide +kernel
theorem dX6_feed_112 : decode cX6_feed 112 = .ok (.iload 4, 2) := by decide +kernel
theorem dX6_feed_114 : decode cX6_feed 114 = .ok (.isub, 1) := by decide +kernel
theorem dX6_feed_115 : decode cX6_feed 115 = .ok (.imul, 1) := by decide +kernel
theorem dX6_feed_116 : decode cX6_feed 116 = .ok (.iload 4, 2) := by decide +kernel
theorem dX6_feed_118 : decode cX6_feed 118 = .ok (.iadd, 1) := by decide +kernel
theorem dX6_feed_119 : decode cX6_feed 119 = .ok (.iaload, 1) := by decide +kernel
theorem dX6_feed_120 : decode cX6_feed 120 = .ok (.iastore, 1) := by decide +kernel
theorem dX6_feed_121 : decode cX6_feed 121 = .ok (.iinc 4 1, 3) := by decide +kernel
theorem dX6_feed_124 : decode cX6_feed 124 = .ok (.goto (-43), 3) := by decide +kernel
theorem dX6_feed_127 : decode cX6_feed 127 = .ok (.aload_n 0, 1) := by decide +kernel
theorem dX6_feed_128 : decode cX6_feed 128 = .ok (.bipush 16, 2) := by decide +kernel
theorem dX6_feed_130 : decode cX6_feed 130 = .ok (.invokevirtual 86, 3) := by decide +kernel
theorem dX6_feed_133 : decode cX6_feed 133 = .ok (.iconst 0, 1) := by decide +kernel
theorem dX6_feed_134 : decode cX6_feed 134 = .ok (.istore 4, 2) := by decide +kernel
theorem dX6_feed_136 : decode cX6_feed 136 = .ok (.iload 4, 2) := by decide +kernel
theorem dX6_feed_138 : decode cX6_feed 138 = .ok (.bipush 16, 2) := by decide +kernel
theorem dX6_feed_140 : decode cX6_feed 140 = .ok (.if_icmp .ge 28, 3) := by decide +kernel
theorem dX6_feed_143 : decode cX6_feed 143 = .ok (.aload_n 0, 1) := by decide +kernel
theorem dX6_feed_144 : decode cX6_feed 144 = .ok (.getfield 13, 3) := by decide +kernel
theorem dX6_feed_147 : decode cX6_feed 147 = .ok (.bipush 16, 2) := by decide +kernel
theorem dX6_feed_149 : decode cX6_feed 149 = .ok (.iload_n 3, 1) := by decide +kernel
theorem dX6_feed_150 : decode cX6_feed 150 = .ok (.imul, 1) := by decide +kernel
theorem dX6_feed_151 : decode cX6_feed 151 = .ok (.iload 4, 2) := by decide +kernel
theorem dX6_feed_153 : decode cX6_feed 153 = .ok (.iadd, 1) := by decide +kernel
theorem dX6_feed_154 : decode cX6_feed 154 = .ok (.aload_n 0, 1) := by decide +kernel
theorem dX6_feed_155 : decode cX6_feed 155 = .ok (.getfield 35, 3) := by decide +kernel
theorem dX6_feed_158 : decode cX6_feed 158 = .ok (.iload 4, 2) := by decide +kernel
theorem dX6_feed_160 : decode cX6_feed 160 = .ok (.iaload, 1) := by decide +kernel
theorem dX6_feed_161 : decode cX6_feed 161 = .ok (.iastore, 1) := by decide +kernel
theorem dX6_feed_162 : decode cX6_feed 162 = .ok (.iinc 4 1, 3) := by decide +kernel
theorem dX6_feed_165 : decode cX6_feed 165 = .ok (.goto (-29), 3) := by decide +kernel
theorem dX6_feed_168 : decode cX6_feed 168 = .ok (.iconst 0, 1) := by decide +kernel
theorem dX6_feed_169 : decode cX6_feed 169 = .ok (.istore 4, 2) := by decide +kernel
theorem dX6_feed_171 : decode cX6_feed 171 = .ok (.iload 4, 2) := by decide +kernel
theorem dX6_feed_173 : decode cX6_feed 173 = .ok (.bipush 16, 2) := by decide +kernel
theorem dX6_feed_175 : decode cX6_feed 175 = .ok (.if_icmp .ge 71, 3) := by decide +kernel
theorem dX6_feed_178 : decode cX6_feed 178 = .ok (.iload_n 3, 1) := by decide +kernel
theorem dX6_feed_179 : decode cX6_feed 179 = .ok (.iload 4, 2) := by decide +kernel
theorem dX6_feed_181 : decode cX6_feed 181 = .ok (.iconst 2, 1) := by decide +kernel
theorem dX6_feed_182 : decode cX6_feed 182 = .ok (.irem, 1) := by decide +kernel
theorem dX6_feed_183 : decode cX6_feed 183 = .ok (.isub, 1) := by decide +kernel
theorem dX6_feed_184 : decode cX6_feed 184 = .ok (.istore 5, 2) := by decide +kernel
theorem dX6_feed_186 : decode cX6_feed 186 = .ok (.iload 5, 2) := by decide +kernel
theorem dX6_feed_188 : decode cX6_feed 188 = .ok (.ifCond .ge 7, 3) := by decide +kernel
theorem dX6_feed_191 : decode cX6_feed 191 = .ok (.iconst 0, 1) := by decide +kernel
theorem dX6_feed_192 : decode cX6_feed 192 = .ok (.goto 16, 3) := by decide +kernel
theorem dX6_feed_195 : decode cX6_feed 195 = .ok (.aload_n 0, 1) := by decide +kernel
theorem dX6_feed_196 : decode cX6_feed 196 = .ok (.getfield 13, 3) := by decide +kernel
theorem dX6_feed_199 : decode cX6_feed 199 = .ok (.bipush 16, 2) := by decide +kernel
theorem dX6_feed_201 : decode cX6_feed 201 = .ok (.iload 5, 2) := by decide +kernel
theorem dX6_feed_203 : decode cX6_feed 203 = .ok (.imul, 1) := by decide +kernel
theorem dX6_feed_204 : decode cX6_feed 204 = .ok (.iload 4, 2) := by decide +kernel
theorem dX6_feed_206 : decode cX6_feed 206 = .ok (.iadd, 1) := by decide +kernel
theorem dX6_feed_207 : decode cX6_feed 207 = .ok (.iaload, 1) := by decide +kernel
theorem dX6_feed_208 : decode cX6_feed 208 = .ok (.istore 6, 2) := by decide +kernel
theorem dX6_feed_210 : decode cX6_feed 210 = .ok (.aload_n 0, 1) := by decide +kernel
theorem dX6_feed_211 : decode cX6_feed 211 = .ok (.getfield 16, 3) := by decide +kernel
theorem dX6_feed_214 : decode cX6_feed 214 = .ok (.bipush 16, 2) := by decide +kernel
theorem dX6_feed_216 : decode cX6_feed 216 = .ok (.iload_n 3, 1) := by decide +kernel
theorem dX6_feed_217 : decode cX6_feed 217 = .ok (.imul, 1) := by decide +kernel
theorem dX6_feed_218 : decode cX6_feed 218 = .ok (.iload 4, 2) := by decide +kernel
theorem dX6_feed_220 : decode cX6_feed 220 = .ok (.iadd, 1) := by decide +kernel
theorem dX6_feed_221 : decode cX6_feed 221 = .ok (.iload 4, 2) := by decide +kernel
theorem dX6_feed_223 : decode cX6_feed 223 = .ok (.bipush 8, 2) := by decide +kernel
theorem dX6_feed_225 : decode cX6_feed 225 = .ok (.if_icmp .ge 8, 3) := by decide +kernel
theorem dX6_feed_228 : decode cX6_feed 228 = .ok (.iload 6, 2) := by decide +kernel
theorem dX6_feed_230 : decode cX6_feed 230 = .ok (.goto 9, 3) := by decide +kernel
theorem dX6_feed_233 : decode cX6_feed 233 = .ok (.sipush 255, 3) := by decide +kernel
theorem dX6_feed_236 : decode cX6_feed 236 = .ok (.iload 6, 2) := by decide +kernel
theorem dX6_feed_238 : decode cX6_feed 238 = .ok (.isub, 1) := by decide +kernel
theorem dX6_feed_239 : decode cX6_feed 239 = .ok (.iastore, 1) := by decide +kernel
theorem dX6_feed_240 : decode cX6_feed 240 = .ok (.iinc 4 1, 3) := by decide +kernel
theorem dX6_feed_243 : decode cX6_feed 243 = .ok (.goto (-72), 3) := by decide +kernel
theorem dX6_feed_246 : decode cX6_feed 246 = .ok (.aload_n 0, 1) := by decide +kernel
theorem dX6_feed_247 : decode cX6_feed 247 = .ok (.dup, 1) := by decide +kernel
theorem dX6_feed_248 : decode cX6_feed 248 = .ok (.getfield 79, 3) := by decide +kernel
theorem dX6_feed_251 : decode cX6_feed 251 = .ok (.iconst 1, 1) := by decide +kernel
theorem dX6_feed_252 : decode cX6_feed 252 = .ok (.iadd, 1) := by decide +kernel
theorem dX6_feed_253 : decode cX6_feed 253 = .ok (.putfield 79, 3) := by decide +kernel
theorem dX6_feed_256 : decode cX6_feed 256 = .ok (.iload_n 3, 1) := by decide +kernel
theorem dX6_feed_257 : decode cX6_feed 257 = .ok (.ireturn, 1) := by decide +kernel
theorem dX6_rows_0 : decode cX6_rows 0 = .ok (.aload_n 0, 1) := by decide +kernel
theorem dX6_rows_1 : decode cX6_rows 1 = .ok (.iconst 0, 1) := by decide +kernel
theorem dX6_rows_2 : decode cX6_rows 2 = .ok (.putfield 47, 3) := by decide +kernel
theorem dX6_rows_5 : decode cX6_rows 5 = .ok (.aload_n 0, 1) := by decide +kernel
theorem dX6_rows_6 : decode cX6_rows 6 = .ok (.getfield 79, 3) := by decide +kernel
theorem dX6_rows_9 : decode cX6_rows 9 = .ok (.ireturn, 1) := by decide +kernel
theorem dX6_onDisc_0 : decode cX6_onDisc 0 = .ok (.iload_n 1, 1) := by decide +kernel
theorem dX6_onDisc_1 : decode cX6_onDisc 1 = .ok (.ifCond .lt 25, 3) := by decide +kernel
theorem dX6_onDisc_4 : decode cX6_onDisc 4 = .ok (.iload_n 1, 1) := by decide +kernel
theorem dX6_onDisc_5 : decode cX6_onDisc 5 = .ok (.aload_n 0, 1) := by decide +kernel
theorem dX6_onDisc_6 : decode cX6_onDisc 6 = .ok (.getfield 79, 3) := by decide +kernel
theorem dX6_onDisc_9 : decode cX6_onDisc 9 = .ok (.if_icmp .ge 17, 3) := by decide +kernel
theorem dX6_onDisc_12 : decode cX6_onDisc 12 = .ok (.iload_n 2, 1) := by decide +kernel
theorem dX6_onDisc_13 : decode cX6_onDisc 13 = .ok (.ifCond .lt 13, 3) := by decide +kernel
theorem dX6_onDisc_16 : decode cX6_onDisc 16 = .ok (.iload_n 2, 1) := by decide +kernel
theorem dX6_onDisc_17 : decode cX6_onDisc 17 = .ok (.bipush 16, 2) := by decide +kernel
theorem dX6_onDisc_19 : decode cX6_onDisc 19 = .ok (.if_icmp .ge 7, 3) := by decide +kernel
theorem dX6_onDisc_22 : decode cX6_onDisc 22 = .ok (.iconst 1, 1) := by decide +kernel
theorem dX6_onDisc_23 : decode cX6_onDisc 23 = .ok (.goto 4, 3) := by decide +kernel
theorem dX6_onDisc_26 : decode cX6_onDisc 26 = .ok (.iconst 0, 1) := by decide +kernel
theorem dX6_onDisc_27 : decode cX6_onDisc 27 = .ok (.ireturn, 1) := by decide +kernel
theorem dX6_isSymbol_0 : decode cX6_isSymbol 0 = .ok (.iload_n 0, 1) := by decide +kernel
theorem dX6_isSymbol_1 : decode cX6_isSymbol 1 = .ok (.ifCond .lt 14, 3) := by decide +kernel
theorem dX6_isSymbol_4 : decode cX6_isSymbol 4 = .ok (.iload_n 0, 1) := by decide +kernel
theorem dX6_isSymbol_5 : decode cX6_isSymbol 5 = .ok (.sipush 255, 3) := by decide +kernel
theorem dX6_isSymbol_8 : decode cX6_isSymbol 8 = .ok (.if_icmp .gt 7, 3) := by decide +kernel
theorem dX6_isSymbol_11 : decode cX6_isSymbol 11 = .ok (.iconst 1, 1) := by decide +kernel
theorem dX6_isSymbol_12 : decode cX6_isSymbol 12 = .ok (.goto 4, 3) := by decide +kernel
theorem dX6_isSymbol_15 : decode cX6_isSymbol 15 = .ok (.iconst 0, 1) := by decide +kernel
theorem dX6_isSymbol_16 : decode cX6_isSymbol 16 = .ok (.ireturn, 1) := by decide +kernel
theorem dX6_symbol_0 : decode cX6_symbol 0 = .ok (.aload_n 0, 1) := by decide +kernel
theorem dX6_symbol_1 : decode cX6_symbol 1 = .ok (.aload_n 0, 1) := by decide +kernel
theorem dX6_symbol_2 : decode cX6_symbol 2 = .ok (.iload_n 1, 1) := by decide +kernel
theorem dX6_symbol_3 : decode cX6_symbol 3 = .ok (.iload_n 2, 1) := by decide +kernel
theorem dX6_symbol_4 : decode cX6_symbol 4 = .ok (.invokevirtual 89, 3) := by decide +kernel
theorem dX6_symbol_7 : decode cX6_symbol 7 = .ok (.ifCond .eq 7, 3) := by decide +kernel
theorem dX6_symbol_10 : decode cX6_symbol 10 = .ok (.iconst 0, 1) := by decide +kernel
theorem dX6_symbol_11 : decode cX6_symbol 11 = .ok (.goto 4, 3) := by decide +kernel
theorem dX6_symbol_14 : decode cX6_symbol 14 = .ok (.iconst 1, 1) := by decide +kernel
theorem dX6_symbol_15 : decode cX6_symbol 15 = .ok (.putfield 47, 3) := by decide +kernel
theorem dX6_symbol_18 : decode cX6_symbol 18 = .ok (.aload_n 0, 1) := by decide +kernel
theorem dX6_symbol_19 : decode cX6_symbol 19 = .ok (.getfield 47, 3) := by decide +kernel
theorem dX6_symbol_22 : decode cX6_symbol 22 = .ok (.ifCond .ne 17, 3) := by decide +kernel
theorem dX6_symbol_25 : decode cX6_symbol 25 = .ok (.aload_n 0, 1) := by decide +kernel
theorem dX6_symbol_26 : decode cX6_symbol 26 = .ok (.getfield 16, 3) := by decide +kernel
theorem dX6_symbol_29 : decode cX6_symbol 29 = .ok (.bipush 16, 2) := by decide +kernel
theorem dX6_symbol_31 : decode cX6_symbol 31 = .ok (.iload_n 1, 1) := by decide +kernel
theorem dX6_symbol_32 : decode cX6_symbol 32 = .ok (.imul, 1) := by decide +kernel
theorem dX6_symbol_33 : decode cX6_symbol 33 = .ok (.iload_n 2, 1) := by decide +kernel
theorem dX6_symbol_34 : decode cX6_symbol 34 = .ok (.iadd, 1) := by decide +kernel
theorem dX6_symbol_35 : decode cX6_symbol 35 = .ok (.iaload, 1) := by decide +kernel
theorem dX6_symbol_36 : decode cX6_symbol 36 = .ok (.goto 4, 3) := by decide +kernel
theorem dX6_symbol_39 : decode cX6_symbol 39 = .ok (.iconst 0, 1) := by decide +kernel
theorem dX6_symbol_40 : decode cX6_symbol 40 = .ok (.ireturn, 1) := by decide +kernel
theorem dX6_scratch_0 : decode cX6_scratch 0 = .ok (.aload_n 0, 1) := by decide +kernel
theorem dX6_scratch_1 : decode cX6_scratch 1 = .ok (.aload_n 0, 1) := by decide +kernel
theorem dX6_scratch_2 : decode cX6_scratch 2 = .ok (.iload_n 1, 1) := by decide +kernel
theorem dX6_scratch_3 : decode cX6_scratch 3 = .ok (.iload_n 2, 1) := by decide +kernel
theorem dX6_scratch_4 : decode cX6_scratch 4 = .ok (.invokevirtual 89, 3) := by decide +kernel
theorem dX6_scratch_7 : decode cX6_scratch 7 = .ok (.ifCond .ne 7, 3) := by decide +kernel
theorem dX6_scratch_10 : decode cX6_scratch 10 = .ok (.iconst 1, 1) := by decide +kernel
theorem dX6_scratch_11 : decode cX6_scratch 11 = .ok (.goto 27, 3) := by decide +kernel
theorem dX6_scratch_14 : decode cX6_scratch 14 = .ok (.iload_n 3, 1) := by decide +kernel
theorem dX6_scratch_15 : decode cX6_scratch 15 = .ok (.invokestatic 93, 3) := by decide +kernel
theorem dX6_scratch_18 : decode cX6_scratch 18 = .ok (.ifCond .ne 7, 3) := by decide +kernel
theorem dX6_scratch_21 : decode cX6_scratch 21 = .ok (.iconst 2, 1) := by decide +kernel
theorem dX6_scratch_22 : decode cX6_scratch 22 = .ok (.goto 16, 3) := by decide +kernel
theorem dX6_scratch_25 : decode cX6_scratch 25 = .ok (.iload_n 1, 1) := by decide +kernel
theorem dX6_scratch_26 : decode cX6_scratch 26 = .ok (.aload_n 0, 1) := by decide +kernel
theorem dX6_scratch_27 : decode cX6_scratch 27 = .ok (.getfield 96, 3) := by decide +kernel
theorem dX6_scratch_30 : decode cX6_scratch 30 = .ok (.if_icmp .ge 7, 3) := by decide +kernel
theorem dX6_scratch_33 : decode cX6_scratch 33 = .ok (.iconst 3, 1) := by decide +kernel
theorem dX6_scratch_34 : decode cX6_scratch 34 = .ok (.goto 4, 3) := by decide +kernel
theorem dX6_scratch_37 : decode cX6_scratch 37 = .ok (.iconst 0, 1) := by decide +kernel
theorem dX6_scratch_38 : decode cX6_scratch 38 = .ok (.putfield 47, 3) := by decide +kernel
theorem dX6_scratch_41 : decode cX6_scratch 41 = .ok (.aload_n 0, 1) := by decide +kernel
theorem dX6_scratch_42 : decode cX6_scratch 42 = .ok (.getfield 47, 3) := by decide +kernel
theorem dX6_scratch_45 : decode cX6_scratch 45 = .ok (.ifCond .ne 18, 3) := by decide +kernel
theorem dX6_scratch_48 : decode cX6_scratch 48 = .ok (.aload_n 0, 1) := by decide +kernel
theorem dX6_scratch_49 : decode cX6_scratch 49 = .ok (.getfield 16, 3) := by decide +kernel
theorem dX6_scratch_52 : decode cX6_scratch 52 = .ok (.bipush 16, 2) := by decide +kernel
theorem dX6_scratch_54 : decode cX6_scratch 54 = .ok (.iload_n 1, 1) := by decide +kernel
theorem dX6_scratch_55 : decode cX6_scratch 55 = .ok (.imul, 1) := by decide +kernel
theorem dX6_scratch_56 : decode cX6_scratch 56 = .ok (.iload_n 2, 1) := by decide +kernel
theorem dX6_scratch_57 : decode cX6_scratch 57 = .ok (.iadd, 1) := by decide +kernel
theorem dX6_scratch_58 : decode cX6_scratch 58 = .ok (.dup2, 1) := by decide +kernel
theorem dX6_scratch_59 : decode cX6_scratch 59 = .ok (.iaload, 1) := by decide +kernel
theorem dX6_scratch_60 : decode cX6_scratch 60 = .ok (.iload_n 3, 1) := by decide +kernel
theorem dX6_scratch_61 : decode cX6_scratch 61 = .ok (.ixor, 1) := by decide +kernel
theorem dX6_scratch_62 : decode cX6_scratch 62 = .ok (.iastore, 1) := by decide +kernel
theorem dX6_scratch_63 : decode cX6_scratch 63 = .ok (.return_, 1) := by decide +kernel
theorem dX6_burst_0 : decode cX6_burst 0 = .ok (.aload_n 0, 1) := by decide +kernel
theorem dX6_burst_1 : decode cX6_burst 1 = .ok (.iload_n 2, 1) := by decide +kernel
theorem dX6_burst_2 : decode cX6_burst 2 = .ok (.ifCond .lt 10, 3) := by decide +kernel
theorem dX6_burst_5 : decode cX6_burst 5 = .ok (.iload_n 3, 1) := by decide +kernel
theorem dX6_burst_6 : decode cX6_burst 6 = .ok (.invokestatic 93, 3) := by decide +kernel
theorem dX6_burst_9 : decode cX6_burst 9 = .ok (.ifCond .ne 7, 3) := by decide +kernel
theorem dX6_burst_12 : decode cX6_burst 12 = .ok (.iconst 1, 1) := by decide +kernel
theorem dX6_burst_13 : decode cX6_burst 13 = .ok (.goto 59, 3) := by decide +kernel
theorem dX6_burst_16 : decode cX6_burst 16 = .ok (.iload_n 2, 1) := by decide +kernel
theorem dX6_burst_17 : decode cX6_burst 17 = .ok (.ifCond .le 35, 3) := by decide +kernel
theorem dX6_burst_20 : decode cX6_burst 20 = .ok (.iload_n 1, 1) := by decide +kernel
theorem dX6_burst_21 : decode cX6_burst 21 = .ok (.ifCond .lt 27, 3) := by decide +kernel
theorem dX6_burst_24 : decode cX6_burst 24 = .ok (.iload_n 1, 1) := by decide +kernel
theorem dX6_burst_25 : decode cX6_burst 25 = .ok (.bipush 16, 2) := by decide +kernel
theorem dX6_burst_27 : decode cX6_burst 27 = .ok (.aload_n 0, 1) := by decide +kernel
theorem dX6_burst_28 : decode cX6_burst 28 = .ok (.getfield 79, 3) := by decide +kernel
theorem dX6_burst_31 : decode cX6_burst 31 = .ok (.imul, 1) := by decide +kernel
theorem dX6_burst_32 : decode cX6_burst 32 = .ok (.if_icmp .ge 16, 3) := by decide +kernel
theorem dX6_burst_35 : decode cX6_burst 35 = .ok (.iload_n 2, 1) := by decide +kernel
theorem dX6_burst_36 : decode cX6_burst 36 = .ok (.bipush 16, 2) := by decide +kernel
theorem dX6_burst_38 : decode cX6_burst 38 = .ok (.aload_n 0, 1) := by decide +kernel
theorem dX6_burst_39 : decode cX6_burst 39 = .ok (.getfield 79, 3) := by decide +kernel
theorem dX6_burst_42 : decode cX6_burst 42 = .ok (.imul, 1) := by decide +kernel
theorem dX6_burst_43 : decode cX6_burst 43 = .ok (.iload_n 1, 1) := by decide +kernel
theorem dX6_burst_44 : decode cX6_burst 44 = .ok (.isub, 1) := by decide +kernel
theorem dX6_burst_45 : decode cX6_burst 45 = .ok (.if_icmp .le 7, 3) := by decide +kernel
theorem dX6_burst_48 : decode cX6_burst 48 = .ok (.iconst 2, 1) := by decide +kernel
theorem dX6_burst_49 : decode cX6_burst 49 = .ok (.goto 23, 3) := by decide +kernel
theorem dX6_burst_52 : decode cX6_burst 52 = .ok (.iload_n 2, 1) := by decide +kernel
theorem dX6_burst_53 : decode cX6_burst 53 = .ok (.ifCond .le 18, 3) := by decide +kernel
theorem dX6_burst_56 : decode cX6_burst 56 = .ok (.iload_n 1, 1) := by decide +kernel
theorem dX6_burst_57 : decode cX6_burst 57 = .ok (.bipush 16, 2) := by decide +kernel
theorem dX6_burst_59 : decode cX6_burst 59 = .ok (.idiv, 1) := by decide +kernel
theorem dX6_burst_60 : decode cX6_burst 60 = .ok (.aload_n 0, 1) := by decide +kernel
theorem dX6_burst_61 : decode cX6_burst 61 = .ok (.getfield 96, 3) := by decide +kernel
theorem dX6_burst_64 : decode cX6_burst 64 = .ok (.if_icmp .ge 7, 3) := by decide +kernel
theorem dX6_burst_67 : decode cX6_burst 67 = .ok (.iconst 3, 1) := by decide +kernel
theorem dX6_burst_68 : decode cX6_burst 68 = .ok (.goto 4, 3) := by decide +kernel
theorem dX6_burst_71 : decode cX6_burst 71 = .ok (.iconst 0, 1) := by decide +kernel
theorem dX6_burst_72 : decode cX6_burst 72 = .ok (.putfield 47, 3) := by decide +kernel
theorem dX6_burst_75 : decode cX6_burst 75 = .ok (.iconst 0, 1) := by decide +kernel
theorem dX6_burst_76 : decode cX6_burst 76 = .ok (.istore 4, 2) := by decide +kernel
theorem dX6_burst_78 : decode cX6_burst 78 = .ok (.iload 4, 2) := by decide +kernel
theorem dX6_burst_80 : decode cX6_burst 80 = .ok (.iload_n 2, 1) := by decide +kernel
theorem dX6_burst_81 : decode cX6_burst 81 = .ok (.if_icmp .ge 29, 3) := by decide +kernel
theorem dX6_burst_84 : decode cX6_burst 84 = .ok (.aload_n 0, 1) := by decide +kernel
theorem dX6_burst_85 : decode cX6_burst 85 = .ok (.getfield 47, 3) := by decide +kernel
theorem dX6_burst_88 : decode cX6_burst 88 = .ok (.ifCond .ne 22, 3) := by decide +kernel
theorem dX6_burst_91 : decode cX6_burst 91 = .ok (.aload_n 0, 1) := by decide +kernel
theorem dX6_burst_92 : decode cX6_burst 92 = .ok (.getfield 16, 3) := by decide +kernel
theorem dX6_burst_95 : decode cX6_burst 95 = .ok (.iload_n 1, 1) := by decide +kernel
theorem dX6_burst_96 : decode cX6_burst 96 = .ok (.iload 4, 2) := by decide +kernel
theorem dX6_burst_98 : decode cX6_burst 98 = .ok (.iadd, 1) := by decide +kernel
theorem dX6_burst_99 : decode cX6_burst 99 = .ok (.dup2, 1) := by decide +kernel
theorem dX6_burst_100 : decode cX6_burst 100 = .ok (.iaload, 1) := by decide +kernel
theorem dX6_burst_101 : decode cX6_burst 101 = .ok (.iload_n 3, 1) := by decide +kernel
theorem dX6_burst_102 : decode cX6_burst 102 = .ok (.ixor, 1) := by decide +kernel
theorem dX6_burst_103 : decode cX6_burst 103 = .ok (.iastore, 1) := by decide +kernel
theorem dX6_burst_104 : decode cX6_burst 104 = .ok (.iinc 4 1, 3) := by decide +kernel
theorem dX6_burst_107 : decode cX6_burst 107 = .ok (.goto (-29), 3) := by decide +kernel
theorem dX6_burst_110 : decode cX6_burst 110 = .ok (.return_, 1) := by decide +kernel
theorem dX6_mend_0 : decode cX6_mend 0 = .ok (.aload_n 0, 1) := by decide +kernel
theorem dX6_mend_1 : decode cX6_mend 1 = .ok (.bipush 16, 2) := by decide +kernel
theorem dX6_mend_3 : decode cX6_mend 3 = .ok (.invokevirtual 99, 3) := by decide +kernel
theorem dX6_mend_6 : decode cX6_mend 6 = .ok (.ifCond .eq 5, 3) := by decide +kernel
theorem dX6_mend_9 : decode cX6_mend 9 = .ok (.iconst 0, 1) := by decide +kernel
theorem dX6_mend_10 : decode cX6_mend 10 = .ok (.ireturn, 1) := by decide +kernel
theorem dX6_mend_11 : decode cX6_mend 11 = .ok (.aload_n 0, 1) := by decide +kernel
theorem dX6_mend_12 : decode cX6_mend 12 = .ok (.bipush 16, 2) := by decide +kernel
theorem dX6_mend_14 : decode cX6_mend 14 = .ok (.iconst 0, 1) := by decide +kernel
theorem dX6_mend_15 : decode cX6_mend 15 = .ok (.invokevirtual 55, 3) := by decide +kernel
theorem dX6_mend_18 : decode cX6_mend 18 = .ok (.istore_n 1, 1) := by decide +kernel
theorem dX6_mend_19 : decode cX6_mend 19 = .ok (.iconst 0, 1) := by decide +kernel
theorem dX6_mend_20 : decode cX6_mend 20 = .ok (.istore_n 2, 1) := by decide +kernel
theorem dX6_mend_21 : decode cX6_mend 21 = .ok (.iload_n 2, 1) := by decide +kernel
theorem dX6_mend_22 : decode cX6_mend 22 = .ok (.bipush 16, 2) := by decide +kernel
theorem dX6_mend_24 : decode cX6_mend 24 = .ok (.if_icmp .ge 44, 3) := by decide +kernel
theorem dX6_mend_27 : decode cX6_mend 27 = .ok (.aload_n 0, 1) := by decide +kernel
theorem dX6_mend_28 : decode cX6_mend 28 = .ok (.getfield 35, 3) := by decide +kernel
theorem dX6_mend_31 : decode cX6_mend 31 = .ok (.iload_n 2, 1) := by decide +kernel
theorem dX6_mend_32 : decode cX6_mend 32 = .ok (.dup2, 1) := by decide +kernel
theorem dX6_mend_33 : decode cX6_mend 33 = .ok (.iaload, 1) := by decide +kernel
theorem dX6_mend_34 : decode cX6_mend 34 = .ok (.iload_n 1, 1) := by decide +kernel
theorem dX6_mend_35 : decode cX6_mend 35 = .ok (.ixor, 1) := by decide +kernel
theorem dX6_mend_36 : decode cX6_mend 36 = .ok (.iastore, 1) := by decide +kernel
theorem dX6_mend_37 : decode cX6_mend 37 = .ok (.iload_n 1, 1) := by decide +kernel
theorem dX6_mend_38 : decode cX6_mend 38 = .ok (.ifCond .le 14, 3) := by decide +kernel
theorem dX6_mend_41 : decode cX6_mend 41 = .ok (.aload_n 0, 1) := by decide +kernel
theorem dX6_mend_42 : decode cX6_mend 42 = .ok (.bipush 16, 2) := by decide +kernel
theorem dX6_mend_44 : decode cX6_mend 44 = .ok (.invokevirtual 99, 3) := by decide +kernel
theorem dX6_mend_47 : decode cX6_mend 47 = .ok (.ifCond .eq 5, 3) := by decide +kernel
theorem dX6_mend_50 : decode cX6_mend 50 = .ok (.iconst 1, 1) := by decide +kernel
theorem dX6_mend_51 : decode cX6_mend 51 = .ok (.ireturn, 1) := by decide +kernel
theorem dX6_mend_52 : decode cX6_mend 52 = .ok (.aload_n 0, 1) := by decide +kernel
theorem dX6_mend_53 : decode cX6_mend 53 = .ok (.getfield 35, 3) := by decide +kernel
theorem dX6_mend_56 : decode cX6_mend 56 = .ok (.iload_n 2, 1) := by decide +kernel
theorem dX6_mend_57 : decode cX6_mend 57 = .ok (.dup2, 1) := by decide +kernel
theorem dX6_mend_58 : decode cX6_mend 58 = .ok (.iaload, 1) := by decide +kernel
theorem dX6_mend_59 : decode cX6_mend 59 = .ok (.iload_n 1, 1) := by decide +kernel
theorem dX6_mend_60 : decode cX6_mend 60 = .ok (.ixor, 1) := by decide +kernel
theorem dX6_mend_61 : decode cX6_mend 61 = .ok (.iastore, 1) := by decide +kernel
theorem dX6_mend_62 : decode cX6_mend 62 = .ok (.iinc 2 1, 3) := by decide +kernel
theorem dX6_mend_65 : decode cX6_mend 65 = .ok (.goto (-44), 3) := by decide +kernel
theorem dX6_mend_68 : decode cX6_mend 68 = .ok (.iconst 2, 1) := by decide +kernel
theorem dX6_mend_69 : decode cX6_mend 69 = .ok (.ireturn, 1) := by decide +kernel
theorem dX6_gather_0 : decode cX6_gather 0 = .ok (.iconst 0, 1) := by decide +kernel
theorem dX6_gather_1 : decode cX6_gather 1 = .ok (.istore_n 2, 1) := by decide +kernel
theorem dX6_gather_2 : decode cX6_gather 2 = .ok (.iload_n 2, 1) := by decide +kernel
theorem dX6_gather_3 : decode cX6_gather 3 = .ok (.bipush 16, 2) := by decide +kernel
theorem dX6_gather_5 : decode cX6_gather 5 = .ok (.if_icmp .ge 42, 3) := by decide +kernel
theorem dX6_gather_8 : decode cX6_gather 8 = .ok (.iload_n 1, 1) := by decide +kernel
theorem dX6_gather_9 : decode cX6_gather 9 = .ok (.iconst 1, 1) := by decide +kernel
theorem dX6_gather_10 : decode cX6_gather 10 = .ok (.isub, 1) := by decide +kernel
theorem dX6_gather_11 : decode cX6_gather 11 = .ok (.iload_n 2, 1) := by decide +kernel
theorem dX6_gather_12 : decode cX6_gather 12 = .ok (.iconst 2, 1) := by decide +kernel
theorem dX6_gather_13 : decode cX6_gather 13 = .ok (.irem, 1) := by decide +kernel
theorem dX6_gather_14 : decode cX6_gather 14 = .ok (.iadd, 1) := by decide +kernel
theorem dX6_gather_15 : decode cX6_gather 15 = .ok (.istore_n 3, 1) := by decide +kernel
theorem dX6_gather_16 : decode cX6_gather 16 = .ok (.aload_n 0, 1) := by decide +kernel
theorem dX6_gather_17 : decode cX6_gather 17 = .ok (.getfield 35, 3) := by decide +kernel
theorem dX6_gather_20 : decode cX6_gather 20 = .ok (.iload_n 2, 1) := by decide +kernel
theorem dX6_gather_21 : decode cX6_gather 21 = .ok (.iload_n 3, 1) := by decide +kernel
theorem dX6_gather_22 : decode cX6_gather 22 = .ok (.ifCond .ge 7, 3) := by decide +kernel
theorem dX6_gather_25 : decode cX6_gather 25 = .ok (.iconst 0, 1) := by decide +kernel
theorem dX6_gather_26 : decode cX6_gather 26 = .ok (.goto 14, 3) := by decide +kernel
theorem dX6_gather_29 : decode cX6_gather 29 = .ok (.aload_n 0, 1) := by decide +kernel
theorem dX6_gather_30 : decode cX6_gather 30 = .ok (.getfield 19, 3) := by decide +kernel
theorem dX6_gather_33 : decode cX6_gather 33 = .ok (.bipush 16, 2) := by decide +kernel
theorem dX6_gather_35 : decode cX6_gather 35 = .ok (.iload_n 3, 1) := by decide +kernel
theorem dX6_gather_36 : decode cX6_gather 36 = .ok (.imul, 1) := by decide +kernel
theorem dX6_gather_37 : decode cX6_gather 37 = .ok (.iload_n 2, 1) := by decide +kernel
theorem dX6_gather_38 : decode cX6_gather 38 = .ok (.iadd, 1) := by decide +kernel
theorem dX6_gather_39 : decode cX6_gather 39 = .ok (.iaload, 1) := by decide +kernel
theorem dX6_gather_40 : decode cX6_gather 40 = .ok (.iastore, 1) := by decide +kernel
theorem dX6_gather_41 : decode cX6_gather 41 = .ok (.iinc 2 1, 3) := by decide +kernel
theorem dX6_gather_44 : decode cX6_gather 44 = .ok (.goto (-42), 3) := by decide +kernel
theorem dX6_gather_47 : decode cX6_gather 47 = .ok (.return_, 1) := by decide +kernel
theorem dX6_read_0 : decode cX6_read 0 = .ok (.aload_n 0, 1) := by decide +kernel
theorem dX6_read_1 : decode cX6_read 1 = .ok (.aload_n 0, 1) := by decide +kernel
theorem dX6_read_2 : decode cX6_read 2 = .ok (.getfield 96, 3) := by decide +kernel
theorem dX6_read_5 : decode cX6_read 5 = .ok (.aload_n 0, 1) := by decide +kernel
theorem dX6_read_6 : decode cX6_read 6 = .ok (.getfield 79, 3) := by decide +kernel
theorem dX6_read_9 : decode cX6_read 9 = .ok (.if_icmp .ne 7, 3) := by decide +kernel
theorem dX6_read_12 : decode cX6_read 12 = .ok (.iconst 1, 1) := by decide +kernel
theorem dX6_read_13 : decode cX6_read 13 = .ok (.goto 4, 3) := by decide +kernel
theorem dX6_read_16 : decode cX6_read 16 = .ok (.iconst 0, 1) := by decide +kernel
theorem dX6_read_17 : decode cX6_read 17 = .ok (.putfield 47, 3) := by decide +kernel
theorem dX6_read_20 : decode cX6_read 20 = .ok (.aload_n 0, 1) := by decide +kernel
theorem dX6_read_21 : decode cX6_read 21 = .ok (.getfield 47, 3) := by decide +kernel
theorem dX6_read_24 : decode cX6_read 24 = .ok (.ifCond .le 5, 3) := by decide +kernel
theorem dX6_read_27 : decode cX6_read 27 = .ok (.iconst 0, 1) := by decide +kernel
theorem dX6_read_28 : decode cX6_read 28 = .ok (.ireturn, 1) := by decide +kernel
theorem dX6_read_29 : decode cX6_read 29 = .ok (.aload_n 0, 1) := by decide +kernel
theorem dX6_read_30 : decode cX6_read 30 = .ok (.getfield 96, 3) := by decide +kernel
theorem dX6_read_33 : decode cX6_read 33 = .ok (.istore_n 1, 1) := by decide +kernel
theorem dX6_read_34 : decode cX6_read 34 = .ok (.iconst 0, 1) := by decide +kernel
theorem dX6_read_35 : decode cX6_read 35 = .ok (.istore_n 2, 1) := by decide +kernel
theorem dX6_read_36 : decode cX6_read 36 = .ok (.iload_n 2, 1) := by decide +kernel
theorem dX6_read_37 : decode cX6_read 37 = .ok (.bipush 16, 2) := by decide +kernel
theorem dX6_read_39 : decode cX6_read 39 = .ok (.if_icmp .ge 55, 3) := by decide +kernel
theorem dX6_read_42 : decode cX6_read 42 = .ok (.aload_n 0, 1) := by decide +kernel
theorem dX6_read_43 : decode cX6_read 43 = .ok (.getfield 19, 3) := by decide +kernel
theorem dX6_read_46 : decode cX6_read 46 = .ok (.bipush 16, 2) := by decide +kernel
theorem dX6_read_48 : decode cX6_read 48 = .ok (.iload_n 1, 1) := by decide +kernel
theorem dX6_read_49 : decode cX6_read 49 = .ok (.imul, 1) := by decide +kernel
theorem dX6_read_50 : decode cX6_read 50 = .ok (.iload_n 2, 1) := by decide +kernel
theorem dX6_read_51 : decode cX6_read 51 = .ok (.iadd, 1) := by decide +kernel
theorem dX6_read_52 : decode cX6_read 52 = .ok (.iload_n 2, 1) := by decide +kernel
theorem dX6_read_53 : decode cX6_read 53 = .ok (.bipush 8, 2) := by decide +kernel
theorem dX6_read_55 : decode cX6_read 55 = .ok (.if_icmp .ge 17, 3) := by decide +kernel
theorem dX6_read_58 : decode cX6_read 58 = .ok (.aload_n 0, 1) := by decide +kernel
theorem dX6_read_59 : decode cX6_read 59 = .ok (.getfield 16, 3) := by decide +kernel
theorem dX6_read_62 : decode cX6_read 62 = .ok (.bipush 16, 2) := by decide +kernel
theorem dX6_read_64 : decode cX6_read 64 = .ok (.iload_n 1, 1) := by decide +kernel
theorem dX6_read_65 : decode cX6_read 65 = .ok (.imul, 1) := by decide +kernel
theorem dX6_read_66 : decode cX6_read 66 = .ok (.iload_n 2, 1) := by decide +kernel
theorem dX6_read_67 : decode cX6_read 67 = .ok (.iadd, 1) := by decide +kernel
theorem dX6_read_68 : decode cX6_read 68 = .ok (.iaload, 1) := by decide +kernel
theorem dX6_read_69 : decode cX6_read 69 = .ok (.goto 18, 3) := by decide +kernel
theorem dX6_read_72 : decode cX6_read 72 = .ok (.sipush 255, 3) := by decide +kernel
theorem dX6_read_75 : decode cX6_read 75 = .ok (.aload_n 0, 1) := by decide +kernel
theorem dX6_read_76 : decode cX6_read 76 = .ok (.getfield 16, 3) := by decide +kernel
theorem dX6_read_79 : decode cX6_read 79 = .ok (.bipush 16, 2) := by decide +kernel
theorem dX6_read_81 : decode cX6_read 81 = .ok (.iload_n 1, 1) := by decide +kernel
theorem dX6_read_82 : decode cX6_read 82 = .ok (.imul, 1) := by decide +kernel
theorem dX6_read_83 : decode cX6_read 83 = .ok (.iload_n 2, 1) := by decide +kernel
theorem dX6_read_84 : decode cX6_read 84 = .ok (.iadd, 1) := by decide +kernel
theorem dX6_read_85 : decode cX6_read 85 = .ok (.iaload, 1) := by decide +kernel
theorem dX6_read_86 : decode cX6_read 86 = .ok (.isub, 1) := by decide +kernel
theorem dX6_read_87 : decode cX6_read 87 = .ok (.iastore, 1) := by decide +kernel
theorem dX6_read_88 : decode cX6_read 88 = .ok (.iinc 2 1, 3) := by decide +kernel
theorem dX6_read_91 : decode cX6_read 91 = .ok (.goto (-55), 3) := by decide +kernel
theorem dX6_read_94 : decode cX6_read 94 = .ok (.aload_n 0, 1) := by decide +kernel
theorem dX6_read_95 : decode cX6_read 95 = .ok (.dup, 1) := by decide +kernel
theorem dX6_read_96 : decode cX6_read 96 = .ok (.getfield 96, 3) := by decide +kernel
theorem dX6_read_99 : decode cX6_read 99 = .ok (.iconst 1, 1) := by decide +kernel
theorem dX6_read_100 : decode cX6_read 100 = .ok (.iadd, 1) := by decide +kernel
theorem dX6_read_101 : decode cX6_read 101 = .ok (.putfield 96, 3) := by decide +kernel
theorem dX6_read_104 : decode cX6_read 104 = .ok (.aload_n 0, 1) := by decide +kernel
theorem dX6_read_105 : decode cX6_read 105 = .ok (.iload_n 1, 1) := by decide +kernel
theorem dX6_read_106 : decode cX6_read 106 = .ok (.invokevirtual 102, 3) := by decide +kernel
theorem dX6_read_109 : decode cX6_read 109 = .ok (.aload_n 0, 1) := by decide +kernel
theorem dX6_read_110 : decode cX6_read 110 = .ok (.invokevirtual 105, 3) := by decide +kernel
theorem dX6_read_113 : decode cX6_read 113 = .ok (.istore_n 2, 1) := by decide +kernel
theorem dX6_read_114 : decode cX6_read 114 = .ok (.aload_n 0, 1) := by decide +kernel
theorem dX6_read_115 : decode cX6_read 115 = .ok (.dup, 1) := by decide +kernel
theorem dX6_read_116 : decode cX6_read 116 = .ok (.getfield 109, 3) := by decide +kernel
theorem dX6_read_119 : decode cX6_read 119 = .ok (.iload_n 2, 1) := by decide +kernel
theorem dX6_read_120 : decode cX6_read 120 = .ok (.iconst 1, 1) := by decide +kernel
theorem dX6_read_121 : decode cX6_read 121 = .ok (.if_icmp .ne 7, 3) := by decide +kernel
theorem dX6_read_124 : decode cX6_read 124 = .ok (.iconst 1, 1) := by decide +kernel
theorem dX6_read_125 : decode cX6_read 125 = .ok (.goto 4, 3) := by decide +kernel
theorem dX6_read_128 : decode cX6_read 128 = .ok (.iconst 0, 1) := by decide +kernel
theorem dX6_read_129 : decode cX6_read 129 = .ok (.iadd, 1) := by decide +kernel
theorem dX6_read_130 : decode cX6_read 130 = .ok (.putfield 109, 3) := by decide +kernel
theorem dX6_read_133 : decode cX6_read 133 = .ok (.aload_n 0, 1) := by decide +kernel
theorem dX6_read_134 : decode cX6_read 134 = .ok (.dup, 1) := by decide +kernel
theorem dX6_read_135 : decode cX6_read 135 = .ok (.getfield 112, 3) := by decide +kernel
theorem dX6_read_138 : decode cX6_read 138 = .ok (.iload_n 2, 1) := by decide +kernel
theorem dX6_read_139 : decode cX6_read 139 = .ok (.iconst 2, 1) := by decide +kernel
theorem dX6_read_140 : decode cX6_read 140 = .ok (.if_icmp .ne 7, 3) := by decide +kernel
theorem dX6_read_143 : decode cX6_read 143 = .ok (.iconst 1, 1) := by decide +kernel
theorem dX6_read_144 : decode cX6_read 144 = .ok (.goto 4, 3) := by decide +kernel
theorem dX6_read_147 : decode cX6_read 147 = .ok (.iconst 0, 1) := by decide +kernel
theorem dX6_read_148 : decode cX6_read 148 = .ok (.iadd, 1) := by decide +kernel
theorem dX6_read_149 : decode cX6_read 149 = .ok (.putfield 112, 3) := by decide +kernel
theorem dX6_read_152 : decode cX6_read 152 = .ok (.aload_n 0, 1) := by decide +kernel
theorem dX6_read_153 : decode cX6_read 153 = .ok (.getfield 25, 3) := by decide +kernel
theorem dX6_read_156 : decode cX6_read 156 = .ok (.iload_n 1, 1) := by decide +kernel
theorem dX6_read_157 : decode cX6_read 157 = .ok (.iload_n 2, 1) := by decide +kernel
theorem dX6_read_158 : decode cX6_read 158 = .ok (.iconst 2, 1) := by decide +kernel
theorem dX6_read_159 : decode cX6_read 159 = .ok (.if_icmp .ne 7, 3) := by decide +kernel
theorem dX6_read_162 : decode cX6_read 162 = .ok (.iconst 1, 1) := by decide +kernel
theorem dX6_read_163 : decode cX6_read 163 = .ok (.goto 4, 3) := by decide +kernel
theorem dX6_read_166 : decode cX6_read 166 = .ok (.iconst 0, 1) := by decide +kernel
theorem dX6_read_167 : decode cX6_read 167 = .ok (.bastore, 1) := by decide +kernel
theorem dX6_read_168 : decode cX6_read 168 = .ok (.iconst 0, 1) := by decide +kernel
theorem dX6_read_169 : decode cX6_read 169 = .ok (.istore_n 3, 1) := by decide +kernel
theorem dX6_read_170 : decode cX6_read 170 = .ok (.iload_n 3, 1) := by decide +kernel
theorem dX6_read_171 : decode cX6_read 171 = .ok (.bipush 12, 2) := by decide +kernel
theorem dX6_read_173 : decode cX6_read 173 = .ok (.if_icmp .ge 26, 3) := by decide +kernel
theorem dX6_read_176 : decode cX6_read 176 = .ok (.aload_n 0, 1) := by decide +kernel
theorem dX6_read_177 : decode cX6_read 177 = .ok (.getfield 22, 3) := by decide +kernel
theorem dX6_read_180 : decode cX6_read 180 = .ok (.bipush 12, 2) := by decide +kernel
theorem dX6_read_182 : decode cX6_read 182 = .ok (.iload_n 1, 1) := by decide +kernel
theorem dX6_read_183 : decode cX6_read 183 = .ok (.imul, 1) := by decide +kernel
theorem dX6_read_184 : decode cX6_read 184 = .ok (.iload_n 3, 1) := by decide +kernel
theorem dX6_read_185 : decode cX6_read 185 = .ok (.iadd, 1) := by decide +kernel
theorem dX6_read_186 : decode cX6_read 186 = .ok (.aload_n 0, 1) := by decide +kernel
theorem dX6_read_187 : decode cX6_read 187 = .ok (.getfield 35, 3) := by decide +kernel
theorem dX6_read_190 : decode cX6_read 190 = .ok (.iload_n 3, 1) := by decide +kernel
theorem dX6_read_191 : decode cX6_read 191 = .ok (.iaload, 1) := by decide +kernel
theorem dX6_read_192 : decode cX6_read 192 = .ok (.iastore, 1) := by decide +kernel
theorem dX6_read_193 : decode cX6_read 193 = .ok (.iinc 3 1, 3) := by decide +kernel
theorem dX6_read_196 : decode cX6_read 196 = .ok (.goto (-26), 3) := by decide +kernel
theorem dX6_read_199 : decode cX6_read 199 = .ok (.iconst 0, 1) := by decide +kernel
theorem dX6_read_200 : decode cX6_read 200 = .ok (.istore_n 3, 1) := by decide +kernel
theorem dX6_read_201 : decode cX6_read 201 = .ok (.iconst 0, 1) := by decide +kernel
theorem dX6_read_202 : decode cX6_read 202 = .ok (.istore 4, 2) := by decide +kernel
theorem dX6_read_204 : decode cX6_read 204 = .ok (.iload 4, 2) := by decide +kernel
theorem dX6_read_206 : decode cX6_read 206 = .ok (.bipush 12, 2) := by decide +kernel
theorem dX6_read_208 : decode cX6_read 208 = .ok (.if_icmp .ge 92, 3) := by decide +kernel
theorem dX6_read_211 : decode cX6_read 211 = .ok (.iload_n 1, 1) := by decide +kernel
theorem dX6_read_212 : decode cX6_read 212 = .ok (.bipush 11, 2) := by decide +kernel
theorem dX6_read_214 : decode cX6_read 214 = .ok (.isub, 1) := by decide +kernel
theorem dX6_read_215 : decode cX6_read 215 = .ok (.iload 4, 2) := by decide +kernel
theorem dX6_read_217 : decode cX6_read 217 = .ok (.iadd, 1) := by decide +kernel
theorem dX6_read_218 : decode cX6_read 218 = .ok (.istore 5, 2) := by decide +kernel
theorem dX6_read_220 : decode cX6_read 220 = .ok (.aload_n 0, 1) := by decide +kernel
theorem dX6_read_221 : decode cX6_read 221 = .ok (.getfield 35, 3) := by decide +kernel
theorem dX6_read_224 : decode cX6_read 224 = .ok (.iload 4, 2) := by decide +kernel
theorem dX6_read_226 : decode cX6_read 226 = .ok (.iload 5, 2) := by decide +kernel
theorem dX6_read_228 : decode cX6_read 228 = .ok (.ifCond .ge 7, 3) := by decide +kernel
theorem dX6_read_231 : decode cX6_read 231 = .ok (.iconst 0, 1) := by decide +kernel
theorem dX6_read_232 : decode cX6_read 232 = .ok (.goto 16, 3) := by decide +kernel
theorem dX6_read_235 : decode cX6_read 235 = .ok (.aload_n 0, 1) := by decide +kernel
theorem dX6_read_236 : decode cX6_read 236 = .ok (.getfield 22, 3) := by decide +kernel
theorem dX6_read_239 : decode cX6_read 239 = .ok (.bipush 12, 2) := by decide +kernel
theorem dX6_read_241 : decode cX6_read 241 = .ok (.iload 5, 2) := by decide +kernel
theorem dX6_read_243 : decode cX6_read 243 = .ok (.imul, 1) := by decide +kernel
theorem dX6_read_244 : decode cX6_read 244 = .ok (.iload 4, 2) := by decide +kernel
theorem dX6_read_246 : decode cX6_read 246 = .ok (.iadd, 1) := by decide +kernel
theorem dX6_read_247 : decode cX6_read 247 = .ok (.iaload, 1) := by decide +kernel
theorem dX6_read_248 : decode cX6_read 248 = .ok (.iastore, 1) := by decide +kernel
theorem dX6_read_249 : decode cX6_read 249 = .ok (.aload_n 0, 1) := by decide +kernel
theorem dX6_read_250 : decode cX6_read 250 = .ok (.getfield 38, 3) := by decide +kernel
theorem dX6_read_253 : decode cX6_read 253 = .ok (.iload 4, 2) := by decide +kernel
theorem dX6_read_255 : decode cX6_read 255 = .ok (.iload 5, 2) := by decide +kernel
theorem dX6_read_257 : decode cX6_read 257 = .ok (.ifCond .lt 17, 3) := by decide +kernel
theorem dX6_read_260 : decode cX6_read 260 = .ok (.aload_n 0, 1) := by decide +kernel
theorem dX6_read_261 : decode cX6_read 261 = .ok (.getfield 25, 3) := by decide +kernel
theorem dX6_read_264 : decode cX6_read 264 = .ok (.iload 5, 2) := by decide +kernel
theorem dX6_read_266 : decode cX6_read 266 = .ok (.baload, 1) := by decide +kernel
theorem dX6_read_267 : decode cX6_read 267 = .ok (.ifCond .eq 7, 3) := by decide +kernel
theorem dX6_read_270 : decode cX6_read 270 = .ok (.iconst 1, 1) := by decide +kernel
theorem dX6_read_271 : decode cX6_read 271 = .ok (.goto 4, 3) := by decide +kernel
theorem dX6_read_274 : decode cX6_read 274 = .ok (.iconst 0, 1) := by decide +kernel
theorem dX6_read_275 : decode cX6_read 275 = .ok (.bastore, 1) := by decide +kernel
theorem dX6_read_276 : decode cX6_read 276 = .ok (.iload_n 3, 1) := by decide +kernel
theorem dX6_read_277 : decode cX6_read 277 = .ok (.aload_n 0, 1) := by decide +kernel
theorem dX6_read_278 : decode cX6_read 278 = .ok (.getfield 38, 3) := by decide +kernel
theorem dX6_read_281 : decode cX6_read 281 = .ok (.iload 4, 2) := by decide +kernel
theorem dX6_read_283 : decode cX6_read 283 = .ok (.baload, 1) := by decide +kernel
theorem dX6_read_284 : decode cX6_read 284 = .ok (.ifCond .eq 7, 3) := by decide +kernel
theorem dX6_read_287 : decode cX6_read 287 = .ok (.iconst 1, 1) := by decide +kernel
theorem dX6_read_288 : decode cX6_read 288 = .ok (.goto 4, 3) := by decide +kernel
theorem dX6_read_291 : decode cX6_read 291 = .ok (.iconst 0, 1) := by decide +kernel
theorem dX6_read_292 : decode cX6_read 292 = .ok (.iadd, 1) := by decide +kernel
theorem dX6_read_293 : decode cX6_read 293 = .ok (.istore_n 3, 1) := by decide +kernel
theorem dX6_read_294 : decode cX6_read 294 = .ok (.iinc 4 1, 3) := by decide +kernel
theorem dX6_read_297 : decode cX6_read 297 = .ok (.goto (-93), 3) := by decide +kernel
theorem dX6_read_300 : decode cX6_read 300 = .ok (.iload_n 3, 1) := by decide +kernel
theorem dX6_read_301 : decode cX6_read 301 = .ok (.iconst 4, 1) := by decide +kernel
theorem dX6_read_302 : decode cX6_read 302 = .ok (.if_icmp .gt 16, 3) := by decide +kernel
theorem dX6_read_305 : decode cX6_read 305 = .ok (.aload_n 0, 1) := by decide +kernel
theorem dX6_read_306 : decode cX6_read 306 = .ok (.bipush 12, 2) := by decide +kernel
theorem dX6_read_308 : decode cX6_read 308 = .ok (.invokevirtual 73, 3) := by decide +kernel
theorem dX6_read_311 : decode cX6_read 311 = .ok (.ifCond .eq 7, 3) := by decide +kernel
theorem dX6_read_314 : decode cX6_read 314 = .ok (.iconst 1, 1) := by decide +kernel
theorem dX6_read_315 : decode cX6_read 315 = .ok (.goto 4, 3) := by decide +kernel
theorem dX6_read_318 : decode cX6_read 318 = .ok (.iconst 0, 1) := by decide +kernel
theorem dX6_read_319 : decode cX6_read 319 = .ok (.istore 4, 2) := by decide +kernel
theorem dX6_read_321 : decode cX6_read 321 = .ok (.aload_n 0, 1) := by decide +kernel
theorem dX6_read_322 : decode cX6_read 322 = .ok (.dup, 1) := by decide +kernel
theorem dX6_read_323 : decode cX6_read 323 = .ok (.getfield 115, 3) := by decide +kernel
theorem dX6_read_326 : decode cX6_read 326 = .ok (.iload 4, 2) := by decide +kernel
theorem dX6_read_328 : decode cX6_read 328 = .ok (.ifCond .eq 7, 3) := by decide +kernel
theorem dX6_read_331 : decode cX6_read 331 = .ok (.iload_n 3, 1) := by decide +kernel
theorem dX6_read_332 : decode cX6_read 332 = .ok (.goto 4, 3) := by decide +kernel
theorem dX6_read_335 : decode cX6_read 335 = .ok (.iconst 0, 1) := by decide +kernel
theorem dX6_read_336 : decode cX6_read 336 = .ok (.iadd, 1) := by decide +kernel
theorem dX6_read_337 : decode cX6_read 337 = .ok (.putfield 115, 3) := by decide +kernel
theorem dX6_read_340 : decode cX6_read 340 = .ok (.aload_n 0, 1) := by decide +kernel
theorem dX6_read_341 : decode cX6_read 341 = .ok (.dup, 1) := by decide +kernel
theorem dX6_read_342 : decode cX6_read 342 = .ok (.getfield 118, 3) := by decide +kernel
theorem dX6_read_345 : decode cX6_read 345 = .ok (.iload 4, 2) := by decide +kernel
theorem dX6_read_347 : decode cX6_read 347 = .ok (.ifCond .eq 7, 3) := by decide +kernel
theorem dX6_read_350 : decode cX6_read 350 = .ok (.iconst 0, 1) := by decide +kernel
theorem dX6_read_351 : decode cX6_read 351 = .ok (.goto 4, 3) := by decide +kernel
theorem dX6_read_354 : decode cX6_read 354 = .ok (.iconst 1, 1) := by decide +kernel
theorem dX6_read_355 : decode cX6_read 355 = .ok (.iadd, 1) := by decide +kernel
theorem dX6_read_356 : decode cX6_read 356 = .ok (.putfield 118, 3) := by decide +kernel
theorem dX6_read_359 : decode cX6_read 359 = .ok (.iconst 0, 1) := by decide +kernel
theorem dX6_read_360 : decode cX6_read 360 = .ok (.istore 5, 2) := by decide +kernel
theorem dX6_read_362 : decode cX6_read 362 = .ok (.iload 5, 2) := by decide +kernel
theorem dX6_read_364 : decode cX6_read 364 = .ok (.bipush 8, 2) := by decide +kernel
theorem dX6_read_366 : decode cX6_read 366 = .ok (.if_icmp .ge 50, 3) := by decide +kernel
theorem dX6_read_369 : decode cX6_read 369 = .ok (.aload_n 0, 1) := by decide +kernel
theorem dX6_read_370 : decode cX6_read 370 = .ok (.getfield 29, 3) := by decide +kernel
theorem dX6_read_373 : decode cX6_read 373 = .ok (.bipush 8, 2) := by decide +kernel
theorem dX6_read_375 : decode cX6_read 375 = .ok (.iload_n 1, 1) := by decide +kernel
theorem dX6_read_376 : decode cX6_read 376 = .ok (.imul, 1) := by decide +kernel
theorem dX6_read_377 : decode cX6_read 377 = .ok (.iload 5, 2) := by decide +kernel
theorem dX6_read_379 : decode cX6_read 379 = .ok (.iadd, 1) := by decide +kernel
theorem dX6_read_380 : decode cX6_read 380 = .ok (.aload_n 0, 1) := by decide +kernel
theorem dX6_read_381 : decode cX6_read 381 = .ok (.getfield 35, 3) := by decide +kernel
theorem dX6_read_384 : decode cX6_read 384 = .ok (.iload 5, 2) := by decide +kernel
theorem dX6_read_386 : decode cX6_read 386 = .ok (.iaload, 1) := by decide +kernel
theorem dX6_read_387 : decode cX6_read 387 = .ok (.iastore, 1) := by decide +kernel
theorem dX6_read_388 : decode cX6_read 388 = .ok (.aload_n 0, 1) := by decide +kernel
theorem dX6_read_389 : decode cX6_read 389 = .ok (.getfield 32, 3) := by decide +kernel
theorem dX6_read_392 : decode cX6_read 392 = .ok (.bipush 8, 2) := by decide +kernel
theorem dX6_read_394 : decode cX6_read 394 = .ok (.iload_n 1, 1) := by decide +kernel
theorem dX6_read_395 : decode cX6_read 395 = .ok (.imul, 1) := by decide +kernel
theorem dX6_read_396 : decode cX6_read 396 = .ok (.iload 5, 2) := by decide +kernel
theorem dX6_read_398 : decode cX6_read 398 = .ok (.iadd, 1) := by decide +kernel
theorem dX6_read_399 : decode cX6_read 399 = .ok (.iload 4, 2) := by decide +kernel
theorem dX6_read_401 : decode cX6_read 401 = .ok (.ifCond .ne 7, 3) := by decide +kernel
theorem dX6_read_404 : decode cX6_read 404 = .ok (.iconst 1, 1) := by decide +kernel
theorem dX6_read_405 : decode cX6_read 405 = .ok (.goto 4, 3) := by decide +kernel
theorem dX6_read_408 : decode cX6_read 408 = .ok (.iconst 0, 1) := by decide +kernel
theorem dX6_read_409 : decode cX6_read 409 = .ok (.bastore, 1) := by decide +kernel
theorem dX6_read_410 : decode cX6_read 410 = .ok (.iinc 5 1, 3) := by decide +kernel
theorem dX6_read_413 : decode cX6_read 413 = .ok (.goto (-51), 3) := by decide +kernel
theorem dX6_read_416 : decode cX6_read 416 = .ok (.iload 4, 2) := by decide +kernel
theorem dX6_read_418 : decode cX6_read 418 = .ok (.ifCond .eq 7, 3) := by decide +kernel
theorem dX6_read_421 : decode cX6_read 421 = .ok (.iconst 0, 1) := by decide +kernel
theorem dX6_read_422 : decode cX6_read 422 = .ok (.goto 5, 3) := by decide +kernel
theorem dX6_read_425 : decode cX6_read 425 = .ok (.bipush 8, 2) := by decide +kernel
theorem dX6_read_427 : decode cX6_read 427 = .ok (.ireturn, 1) := by decide +kernel
theorem dX6_isOut_0 : decode cX6_isOut 0 = .ok (.iload_n 1, 1) := by decide +kernel
theorem dX6_isOut_1 : decode cX6_isOut 1 = .ok (.ifCond .lt 18, 3) := by decide +kernel
theorem dX6_isOut_4 : decode cX6_isOut 4 = .ok (.iload_n 1, 1) := by decide +kernel
theorem dX6_isOut_5 : decode cX6_isOut 5 = .ok (.bipush 8, 2) := by decide +kernel
theorem dX6_isOut_7 : decode cX6_isOut 7 = .ok (.aload_n 0, 1) := by decide +kernel
theorem dX6_isOut_8 : decode cX6_isOut 8 = .ok (.getfield 96, 3) := by decide +kernel
theorem dX6_isOut_11 : decode cX6_isOut 11 = .ok (.imul, 1) := by decide +kernel
theorem dX6_isOut_12 : decode cX6_isOut 12 = .ok (.if_icmp .ge 7, 3) := by decide +kernel
theorem dX6_isOut_15 : decode cX6_isOut 15 = .ok (.iconst 1, 1) := by decide +kernel
theorem dX6_isOut_16 : decode cX6_isOut 16 = .ok (.goto 4, 3) := by decide +kernel
theorem dX6_isOut_19 : decode cX6_isOut 19 = .ok (.iconst 0, 1) := by decide +kernel
theorem dX6_isOut_20 : decode cX6_isOut 20 = .ok (.ireturn, 1) := by decide +kernel
theorem dX6_out_0 : decode cX6_out 0 = .ok (.aload_n 0, 1) := by decide +kernel
theorem dX6_out_1 : decode cX6_out 1 = .ok (.aload_n 0, 1) := by decide +kernel
theorem dX6_out_2 : decode cX6_out 2 = .ok (.iload_n 1, 1) := by decide +kernel
theorem dX6_out_3 : decode cX6_out 3 = .ok (.invokevirtual 121, 3) := by decide +kernel
theorem dX6_out_6 : decode cX6_out 6 = .ok (.ifCond .eq 7, 3) := by decide +kernel
theorem dX6_out_9 : decode cX6_out 9 = .ok (.iconst 0, 1) := by decide +kernel
theorem dX6_out_10 : decode cX6_out 10 = .ok (.goto 4, 3) := by decide +kernel
theorem dX6_out_13 : decode cX6_out 13 = .ok (.iconst 1, 1) := by decide +kernel
theorem dX6_out_14 : decode cX6_out 14 = .ok (.putfield 47, 3) := by decide +kernel
theorem dX6_out_17 : decode cX6_out 17 = .ok (.aload_n 0, 1) := by decide +kernel
theorem dX6_out_18 : decode cX6_out 18 = .ok (.getfield 47, 3) := by decide +kernel
theorem dX6_out_21 : decode cX6_out 21 = .ok (.ifCond .ne 12, 3) := by decide +kernel
theorem dX6_out_24 : decode cX6_out 24 = .ok (.aload_n 0, 1) := by decide +kernel
theorem dX6_out_25 : decode cX6_out 25 = .ok (.getfield 29, 3) := by decide +kernel
theorem dX6_out_28 : decode cX6_out 28 = .ok (.iload_n 1, 1) := by decide +kernel
theorem dX6_out_29 : decode cX6_out 29 = .ok (.iaload, 1) := by decide +kernel
theorem dX6_out_30 : decode cX6_out 30 = .ok (.goto 4, 3) := by decide +kernel
theorem dX6_out_33 : decode cX6_out 33 = .ok (.iconst 0, 1) := by decide +kernel
theorem dX6_out_34 : decode cX6_out 34 = .ok (.ireturn, 1) := by decide +kernel
theorem dX6_flagged_0 : decode cX6_flagged 0 = .ok (.aload_n 0, 1) := by decide +kernel
theorem dX6_flagged_1 : decode cX6_flagged 1 = .ok (.aload_n 0, 1) := by decide +kernel
theorem dX6_flagged_2 : decode cX6_flagged 2 = .ok (.iload_n 1, 1) := by decide +kernel
theorem dX6_flagged_3 : decode cX6_flagged 3 = .ok (.invokevirtual 121, 3) := by decide +kernel
theorem dX6_flagged_6 : decode cX6_flagged 6 = .ok (.ifCond .eq 7, 3) := by decide +kernel
theorem dX6_flagged_9 : decode cX6_flagged 9 = .ok (.iconst 0, 1) := by decide +kernel
theorem dX6_flagged_10 : decode cX6_flagged 10 = .ok (.goto 4, 3) := by decide +kernel
theorem dX6_flagged_13 : decode cX6_flagged 13 = .ok (.iconst 1, 1) := by decide +kernel
theorem dX6_flagged_14 : decode cX6_flagged 14 = .ok (.putfield 47, 3) := by decide +kernel
theorem dX6_flagged_17 : decode cX6_flagged 17 = .ok (.aload_n 0, 1) := by decide +kernel
theorem dX6_flagged_18 : decode cX6_flagged 18 = .ok (.getfield 47, 3) := by decide +kernel
theorem dX6_flagged_21 : decode cX6_flagged 21 = .ok (.ifCond .ne 16, 3) := by decide +kernel
theorem dX6_flagged_24 : decode cX6_flagged 24 = .ok (.aload_n 0, 1) := by decide +kernel
theorem dX6_flagged_25 : decode cX6_flagged 25 = .ok (.getfield 32, 3) := by decide +kernel
theorem dX6_flagged_28 : decode cX6_flagged 28 = .ok (.iload_n 1, 1) := by decide +kernel
theorem dX6_flagged_29 : decode cX6_flagged 29 = .ok (.baload, 1) := by decide +kernel
theorem dX6_flagged_30 : decode cX6_flagged 30 = .ok (.ifCond .eq 7, 3) := by decide +kernel
theorem dX6_flagged_33 : decode cX6_flagged 33 = .ok (.iconst 1, 1) := by decide +kernel
theorem dX6_flagged_34 : decode cX6_flagged 34 = .ok (.goto 4, 3) := by decide +kernel
theorem dX6_flagged_37 : decode cX6_flagged 37 = .ok (.iconst 0, 1) := by decide +kernel
theorem dX6_flagged_38 : decode cX6_flagged 38 = .ok (.ireturn, 1) := by decide +kernel
theorem dX6_figure_0 : decode cX6_figure 0 = .ok (.aload_n 0, 1) := by decide +kernel
theorem dX6_figure_1 : decode cX6_figure 1 = .ok (.iload_n 1, 1) := by decide +kernel
theorem dX6_figure_2 : decode cX6_figure 2 = .ok (.ifCond .lt 9, 3) := by decide +kernel
theorem dX6_figure_5 : decode cX6_figure 5 = .ok (.iload_n 1, 1) := by decide +kernel
theorem dX6_figure_6 : decode cX6_figure 6 = .ok (.bipush 6, 2) := by decide +kernel
theorem dX6_figure_8 : decode cX6_figure 8 = .ok (.if_icmp .le 7, 3) := by decide +kernel
theorem dX6_figure_11 : decode cX6_figure 11 = .ok (.iconst 1, 1) := by decide +kernel
theorem dX6_figure_12 : decode cX6_figure 12 = .ok (.goto 4, 3) := by decide +kernel
theorem dX6_figure_15 : decode cX6_figure 15 = .ok (.iconst 0, 1) := by decide +kernel
theorem dX6_figure_16 : decode cX6_figure 16 = .ok (.putfield 47, 3) := by decide +kernel
theorem dX6_figure_19 : decode cX6_figure 19 = .ok (.iload_n 1, 1) := by decide +kernel
theorem dX6_figure_20 : decode cX6_figure 20 = .ok (.tableswitch 85 0 6 #[44, 49, 57, 62, 67, 72, 77], 44) := by decide +kernel
theorem dX6_figure_64 : decode cX6_figure 64 = .ok (.aload_n 0, 1) := by decide +kernel
theorem dX6_figure_65 : decode cX6_figure 65 = .ok (.getfield 96, 3) := by decide +kernel
theorem dX6_figure_68 : decode cX6_figure 68 = .ok (.ireturn, 1) := by decide +kernel
theorem dX6_figure_69 : decode cX6_figure 69 = .ok (.bipush 8, 2) := by decide +kernel
theorem dX6_figure_71 : decode cX6_figure 71 = .ok (.aload_n 0, 1) := by decide +kernel
theorem dX6_figure_72 : decode cX6_figure 72 = .ok (.getfield 96, 3) := by decide +kernel
theorem dX6_figure_75 : decode cX6_figure 75 = .ok (.imul, 1) := by decide +kernel
theorem dX6_figure_76 : decode cX6_figure 76 = .ok (.ireturn, 1) := by decide +kernel
theorem dX6_figure_77 : decode cX6_figure 77 = .ok (.aload_n 0, 1) := by decide +kernel
theorem dX6_figure_78 : decode cX6_figure 78 = .ok (.getfield 109, 3) := by decide +kernel
theorem dX6_figure_81 : decode cX6_figure 81 = .ok (.ireturn, 1) := by decide +kernel
theorem dX6_figure_82 : decode cX6_figure 82 = .ok (.aload_n 0, 1) := by decide +kernel
theorem dX6_figure_83 : decode cX6_figure 83 = .ok (.getfield 112, 3) := by decide +kernel
theorem dX6_figure_86 : decode cX6_figure 86 = .ok (.ireturn, 1) := by decide +kernel
theorem dX6_figure_87 : decode cX6_figure 87 = .ok (.aload_n 0, 1) := by decide +kernel
theorem dX6_figure_88 : decode cX6_figure 88 = .ok (.getfield 115, 3) := by decide +kernel
theorem dX6_figure_91 : decode cX6_figure 91 = .ok (.ireturn, 1) := by decide +kernel
theorem dX6_figure_92 : decode cX6_figure 92 = .ok (.aload_n 0, 1) := by decide +kernel
theorem dX6_figure_93 : decode cX6_figure 93 = .ok (.getfield 118, 3) := by decide +kernel
theorem dX6_figure_96 : decode cX6_figure 96 = .ok (.ireturn, 1) := by decide +kernel
theorem dX6_figure_97 : decode cX6_figure 97 = .ok (.bipush 8, 2) := by decide +kernel
theorem dX6_figure_99 : decode cX6_figure 99 = .ok (.aload_n 0, 1) := by decide +kernel
theorem dX6_figure_100 : decode cX6_figure 100 = .ok (.getfield 118, 3) := by decide +kernel
theorem dX6_figure_103 : decode cX6_figure 103 = .ok (.imul, 1) := by decide +kernel
theorem dX6_figure_104 : decode cX6_figure 104 = .ok (.ireturn, 1) := by decide +kernel
theorem dX6_figure_105 : decode cX6_figure 105 = .ok (.iconst 0, 1) := by decide +kernel
theorem dX6_figure_106 : decode cX6_figure 106 = .ok (.ireturn, 1) := by decide +kernel
theorem dX6_check_0 : decode cX6_check 0 = .ok (.aload_n 0, 1) := by decide +kernel
theorem dX6_check_1 : decode cX6_check 1 = .ok (.iload_n 3, 1) := by decide +kernel
theorem dX6_check_2 : decode cX6_check 2 = .ok (.ifCond .lt 8, 3) := by decide +kernel
theorem dX6_check_5 : decode cX6_check 5 = .ok (.iload_n 3, 1) := by decide +kernel
theorem dX6_check_6 : decode cX6_check 6 = .ok (.iconst 3, 1) := by decide +kernel
theorem dX6_check_7 : decode cX6_check 7 = .ok (.if_icmp .le 7, 3) := by decide +kernel
theorem dX6_check_10 : decode cX6_check 10 = .ok (.iconst 1, 1) := by decide +kernel
theorem dX6_check_11 : decode cX6_check 11 = .ok (.goto 4, 3) := by decide +kernel
theorem dX6_check_14 : decode cX6_check 14 = .ok (.iconst 0, 1) := by decide +kernel
theorem dX6_check_15 : decode cX6_check 15 = .ok (.putfield 47, 3) := by decide +kernel
theorem dX6_check_18 : decode cX6_check 18 = .ok (.aload_n 0, 1) := by decide +kernel
theorem dX6_check_19 : decode cX6_check 19 = .ok (.getfield 47, 3) := by decide +kernel
theorem dX6_check_22 : decode cX6_check 22 = .ok (.ifCond .le 5, 3) := by decide +kernel
theorem dX6_check_25 : decode cX6_check 25 = .ok (.iconst 0, 1) := by decide +kernel
theorem dX6_check_26 : decode cX6_check 26 = .ok (.ireturn, 1) := by decide +kernel
theorem dX6_check_27 : decode cX6_check 27 = .ok (.aload_n 0, 1) := by decide +kernel
theorem dX6_check_28 : decode cX6_check 28 = .ok (.lload_n 1, 1) := by decide +kernel
theorem dX6_check_29 : decode cX6_check 29 = .ok (.invokevirtual 82, 3) := by decide +kernel
theorem dX6_check_32 : decode cX6_check 32 = .ok (.aload_n 0, 1) := by decide +kernel
theorem dX6_check_33 : decode cX6_check 33 = .ok (.bipush 12, 2) := by decide +kernel
theorem dX6_check_35 : decode cX6_check 35 = .ok (.invokevirtual 86, 3) := by decide +kernel
theorem dX6_check_38 : decode cX6_check 38 = .ok (.aload_n 0, 1) := by decide +kernel
theorem dX6_check_39 : decode cX6_check 39 = .ok (.getfield 35, 3) := by decide +kernel
theorem dX6_check_42 : decode cX6_check 42 = .ok (.bipush 8, 2) := by decide +kernel
theorem dX6_check_44 : decode cX6_check 44 = .ok (.iload_n 3, 1) := by decide +kernel
theorem dX6_check_45 : decode cX6_check 45 = .ok (.iadd, 1) := by decide +kernel
theorem dX6_check_46 : decode cX6_check 46 = .ok (.iaload, 1) := by decide +kernel
theorem dX6_check_47 : decode cX6_check 47 = .ok (.ireturn, 1) := by decide +kernel
theorem dX6_product_0 : decode cX6_product 0 = .ok (.aload_n 0, 1) := by decide +kernel
theorem dX6_product_1 : decode cX6_product 1 = .ok (.iload_n 1, 1) := by decide +kernel
theorem dX6_product_2 : decode cX6_product 2 = .ok (.invokestatic 93, 3) := by decide +kernel
theorem dX6_product_5 : decode cX6_product 5 = .ok (.ifCond .eq 14, 3) := by decide +kernel
theorem dX6_product_8 : decode cX6_product 8 = .ok (.iload_n 2, 1) := by decide +kernel
theorem dX6_product_9 : decode cX6_product 9 = .ok (.invokestatic 93, 3) := by decide +kernel
theorem dX6_product_12 : decode cX6_product 12 = .ok (.ifCond .eq 7, 3) := by decide +kernel
theorem dX6_product_15 : decode cX6_product 15 = .ok (.iconst 0, 1) := by decide +kernel
theorem dX6_product_16 : decode cX6_product 16 = .ok (.goto 4, 3) := by decide +kernel
theorem dX6_product_19 : decode cX6_product 19 = .ok (.iconst 1, 1) := by decide +kernel
theorem dX6_product_20 : decode cX6_product 20 = .ok (.putfield 47, 3) := by decide +kernel
theorem dX6_product_23 : decode cX6_product 23 = .ok (.aload_n 0, 1) := by decide +kernel
theorem dX6_product_24 : decode cX6_product 24 = .ok (.getfield 47, 3) := by decide +kernel
theorem dX6_product_27 : decode cX6_product 27 = .ok (.ifCond .ne 11, 3) := by decide +kernel
theorem dX6_product_30 : decode cX6_product 30 = .ok (.iload_n 1, 1) := by decide +kernel
theorem dX6_product_31 : decode cX6_product 31 = .ok (.iload_n 2, 1) := by decide +kernel
theorem dX6_product_32 : decode cX6_product 32 = .ok (.invokestatic 51, 3) := by decide +kernel
theorem dX6_product_35 : decode cX6_product 35 = .ok (.goto 4, 3) := by decide +kernel
theorem dX6_product_38 : decode cX6_product 38 = .ok (.iconst 0, 1) := by decide +kernel
theorem dX6_product_39 : decode cX6_product 39 = .ok (.ireturn, 1) := by decide +kernel
end
section
/-! the reference's bytes of a long -/
theorem qm_c255 : ∀ j, j < 32 → (255#64).getLsbD j = decide (j < 8) := by decide +kernel
theorem qm_sm : ∀ k, k < 64 → ((nI k).toInt64 &&& 63).toBitVec.smod 64 = BitVec.ofNat 64 k := by decide +kernel
theorem qm_rx_b (x : Int64) {i : Nat} (hi : i < 8) : (qm_rx x i).toBitVec = x.toBitVec.sshiftRight (8 * i) := by
  unfold qm_rx
  show BitVec.sshiftRight' x.toBitVec (((nI (8 * i)).toInt64 &&& 63).toBitVec.smod 64) = _
  rw [qm_sm (8 * i) (by omega)]
  show x.toBitVec.sshiftRight (BitVec.ofNat 64 (8 * i)).toNat = _
  rw [BitVec.toNat_ofNat, Nat.mod_eq_of_lt (by omega)]
theorem qm_byteR (x : Int64) {i : Nat} (hi : i < 8) : (qm_rx x i &&& 255).toInt32 = sI (qm_by x i) := by
  apply Int32.toBitVec_inj.1
  show BitVec.signExtend 32 ((qm_rx x i).toBitVec &&& 255#64) = BitVec.ofNat 32 (BitVec.toNat (BitVec.ofNat 8 (x.toBitVec.toNat / 2 ^ (8 * i))))
  rw [qm_rx_b x hi, BitVec.signExtend_eq_setWidth_of_le _ (by decide), BitVec.toNat_ofNat]
  apply BitVec.eq_of_getLsbD_eq
  intro j hj
  rw [BitVec.getLsbD_setWidth, BitVec.getLsbD_and, qm_c255 j hj, BitVec.getLsbD_ofNat, Nat.testBit_mod_two_pow, Nat.testBit_div_two_pow]
  by_cases h : j < 8
  · rw [BitVec.getLsbD_sshiftRight]
    have h1 : 8 * i + j < 64 := by omega
    have h2 : j < 64 := by omega
    have h3 : ¬ 64 ≤ j := by omega
    simp [h, hj, h1, h2, h3, BitVec.testBit_toNat]
    rw [Nat.add_comm j, BitVec.getLsbD_eq_getElem h1]
  · simp [h]
end
section
/-! arrays of arrays: the 48 rows of 12, by their numbers; joining behind a call, in place -/
def qP (cI : ClassId) (ra : Nat → Nat) (M : Nat → Nat → BitVec 8) : va_W := (List.range 48).map (fun i => (ra i, .inl (cI, 12, .inl (qS (M i)))))
theorem qP_len (cI : ClassId) (ra : Nat → Nat) (M : Nat → Nat → BitVec 8) : (qP cI ra M).length = 48 := by unfold qP; simp
theorem qP_at {cI : ClassId} {ra : Nat → Nat} {M : Nat → Nat → BitVec 8} {i : Nat} (hi : i < 48) : (qP cI ra M)[i]? = some (ra i, .inl (cI, 12, .inl (qS (M i)))) := by
  unfold qP
  rw [List.getElem?_map, List.getElem?_range hi]
  rfl
theorem qP_set {cI : ClassId} {ra : Nat → Nat} {M : Nat → Nat → BitVec 8} {i : Nat} (hi : i < 48) (w : Nat → BitVec 8) : (qP cI ra M).set i (ra i, .inl (cI, 12, .inl (qS w))) = qP cI ra (va_up M i w) := by
  apply List.ext_getElem?
  intro k
  rw [List.getElem?_set]
  by_cases h : k < 48
  · rw [qP_at h]
    by_cases e : i = k
    · subst e
      rw [if_pos rfl, if_pos (by rw [qP_len]; exact hi), qP_at hi, va_up_self]
    · rw [if_neg e, qP_at h, va_up_ne _ _ (fun q => e q.symm)]
  · rw [if_neg (by omega), List.getElem?_eq_none (by rw [qP_len]; omega), List.getElem?_eq_none (by rw [qP_len]; omega)]
theorem qp_at1 {F P2 : va_W} {cI : ClassId} {ra : Nat → Nat} {M : Nat → Nat → BitVec 8} {i : Nat} (hi : i < 48) : (F ++ (qP cI ra M ++ P2))[F.length + i]? = some (ra i, .inl (cI, 12, .inl (qS (M i)))) := by
  rw [List.getElem?_append_right (by omega), Nat.add_sub_cancel_left, List.getElem?_append_left (by rw [qP_len]; exact hi), qP_at hi]
theorem qp_at2 {F P1 : va_W} (h1 : P1.length = 48) {cI : ClassId} {ra : Nat → Nat} {M : Nat → Nat → BitVec 8} {i : Nat} (hi : i < 48) : (F ++ (P1 ++ qP cI ra M))[F.length + (48 + i)]? = some (ra i, .inl (cI, 12, .inl (qS (M i)))) := by
  rw [List.getElem?_append_right (by omega), Nat.add_sub_cancel_left, List.getElem?_append_right (by omega), h1, Nat.add_sub_cancel_left, qP_at hi]
theorem qp_set1 {F P2 : va_W} {cI : ClassId} {ra : Nat → Nat} {M : Nat → Nat → BitVec 8} {i : Nat} (hi : i < 48) (w : Nat → BitVec 8) : (F ++ (qP cI ra M ++ P2)).set (F.length + i) (ra i, .inl (cI, 12, .inl (qS w))) = F ++ (qP cI ra (va_up M i w) ++ P2) := by
  rw [List.set_append_right _ _ (by omega), Nat.add_sub_cancel_left, List.set_append_left _ _ (by rw [qP_len]; exact hi), qP_set hi]
theorem qp_set2 {F P1 : va_W} (h1 : P1.length = 48) {cI : ClassId} {ra : Nat → Nat} {M : Nat → Nat → BitVec 8} {i : Nat} (hi : i < 48) (w : Nat → BitVec 8) : (F ++ (P1 ++ qP cI ra M)).set (F.length + (48 + i)) (ra i, .inl (cI, 12, .inl (qS w))) = F ++ (P1 ++ qP cI ra (va_up M i w)) := by
  rw [List.set_append_right _ _ (by omega), Nat.add_sub_cancel_left, List.set_append_right _ _ (by omega), h1, Nat.add_sub_cancel_left, qP_set hi]
section QP
variable {p : Program} {l : Launch} {e : Env} {R : Room} {s : State} {m : MethodId} {args : Array Value} {below : List Frame} {meth : Method} {c : Code} {H : Heap} {locs : List Loc} {cells slots : Nat} {Q : State → Prop}
variable {cc : ByteArray} {pc : Nat} {ls : Array Slot} {rest : List Value} {D : va_G} {cl : List vw_C} {tys : List (ClassId × FieldType)} {ws F P1 P2 : va_W} {A : Nat → Prop} {H0 : Heap} {a : Nat}
/-- a row of an array of arrays -/
theorem qr_ald (hexec : p.tables.exec = Jvm.exec) (hb : c.code = cc) (hK : va_K D cl tys s) (hP : va_P D cl ws H) (q0 t0 : Nat) {cA : ClassId} {n : Nat} {f : Nat → Nat} (ha : ws[q0]? = some (a, .inl (cA, n, .inr (.inr (.inr (.inr (fun i => some (f i)))))))) (ht : tys[t0]? = some (cA, .array .int)) {i : Nat} (hi : i < n) (hn : n < 2 ^ 31) (hdg : decode cc pc = .ok (.aaload, 1))
    (kk : W p l e R s m args below meth c H locs cells slots Q (F0 m (pc + 1) ls (.ref (f i) :: rest))) : W p l e R s m args below meth c H locs cells slots Q (F0 m pc ls (.int (nI i) :: .ref a :: rest)) := by
  have hin := vp_in_nI hi hn
  have hlt : (nI i).toNatClampNeg < n := Nat.not_le.mp fun q => hin (Or.inr q)
  refine W.aald (v := .ref (f i)) (ty := .array .int) hexec hb (hP q0 _ ha) ((hK.2 t0 _ ht).1 n (fun j => va_rf (some (f j)))) rfl (fun q => by cases q) (by show ¬ (nI i < 0 ∨ (arrV _ _ _).slots.size ≤ _); rw [arrV_size]; exact hin) ?_ rfl rfl hdg kk
  show (arrV _ _ _).slots[_]? = _
  rw [arrV_read _ _ hlt, nI_clamp (by omega)]
  rfl
theorem qp_ld1 (hexec : p.tables.exec = Jvm.exec) (hb : c.code = cc) (hK : va_K D cl tys s) {cI : ClassId} {ra : Nat → Nat} {M : Nat → Nat → BitVec 8} (hP : va_P D cl (F ++ (qP cI ra M ++ P2)) H) (t0 : Nat) (ht : tys[t0]? = some (cI, .int)) {i j : Nat} (hi : i < 48) (hj : j < 12) (hdg : decode cc pc = .ok (.iaload, 1))
    (kk : W p l e R s m args below meth c H locs cells slots Q (F0 m (pc + 1) ls (.int (sI (M i j)) :: rest))) : W p l e R s m args below meth c H locs cells slots Q (F0 m pc ls (.int (nI j) :: .ref (ra i) :: rest)) :=
  qr_ildS hexec hb hK hP (F.length + i) t0 (qp_at1 hi) ht hj (by omega) hdg kk
theorem qp_ld2 (hexec : p.tables.exec = Jvm.exec) (hb : c.code = cc) (hK : va_K D cl tys s) {cI : ClassId} {ra : Nat → Nat} {M : Nat → Nat → BitVec 8} (hP : va_P D cl (F ++ (P1 ++ qP cI ra M)) H) (h1 : P1.length = 48) (t0 : Nat) (ht : tys[t0]? = some (cI, .int)) {i j : Nat} (hi : i < 48) (hj : j < 12) (hdg : decode cc pc = .ok (.iaload, 1))
    (kk : W p l e R s m args below meth c H locs cells slots Q (F0 m (pc + 1) ls (.int (sI (M i j)) :: rest))) : W p l e R s m args below meth c H locs cells slots Q (F0 m pc ls (.int (nI j) :: .ref (ra i) :: rest)) :=
  qr_ildS hexec hb hK hP (F.length + (48 + i)) t0 (qp_at2 h1 hi) ht hj (by omega) hdg kk
theorem qp_st1 (hexec : p.tables.exec = Jvm.exec) (hb : c.code = cc) (hK : va_K D cl tys s) {cI : ClassId} {ra : Nat → Nat} {M : Nat → Nat → BitVec 8} (hP : va_P D cl (F ++ (qP cI ra M ++ P2)) H) (hD : va_D A (F ++ (qP cI ra M ++ P2))) (hS : va_S A H0 H locs) (t0 : Nat) (ht : tys[t0]? = some (cI, .int)) {i j : Nat} {x : BitVec 8} (hi : i < 48) (hj : j < 12) (hdg : decode cc pc = .ok (.iastore, 1))
    (kk : ∀ (H1 : Heap) (locs1 : List Loc), va_P D cl (F ++ (qP cI ra (va_up M i (va_up (M i) j x)) ++ P2)) H1 → va_D A (F ++ (qP cI ra (va_up M i (va_up (M i) j x)) ++ P2)) → va_S A H0 H1 locs1 → W p l e R s m args below meth c H1 locs1 cells slots Q (F0 m (pc + 1) ls rest)) : W p l e R s m args below meth c H locs cells slots Q (F0 m pc ls (.int (sI x) :: .int (nI j) :: .ref (ra i) :: rest)) := by
  refine qr_istS hexec hb hK hP hD hS (F.length + i) t0 (qp_at1 hi) ht hj (by omega) hdg (fun H1 locs1 h1 h2 h3 => ?_)
  rw [qp_set1 hi] at h1 h2
  exact kk H1 locs1 h1 h2 h3
theorem qp_st2 (hexec : p.tables.exec = Jvm.exec) (hb : c.code = cc) (hK : va_K D cl tys s) {cI : ClassId} {ra : Nat → Nat} {M : Nat → Nat → BitVec 8} (hP : va_P D cl (F ++ (P1 ++ qP cI ra M)) H) (hD : va_D A (F ++ (P1 ++ qP cI ra M))) (hS : va_S A H0 H locs) (hl1 : P1.length = 48) (t0 : Nat) (ht : tys[t0]? = some (cI, .int)) {i j : Nat} {x : BitVec 8} (hi : i < 48) (hj : j < 12) (hdg : decode cc pc = .ok (.iastore, 1))
    (kk : ∀ (H1 : Heap) (locs1 : List Loc), va_P D cl (F ++ (P1 ++ qP cI ra (va_up M i (va_up (M i) j x)))) H1 → va_D A (F ++ (P1 ++ qP cI ra (va_up M i (va_up (M i) j x)))) → va_S A H0 H1 locs1 → W p l e R s m args below meth c H1 locs1 cells slots Q (F0 m (pc + 1) ls rest)) : W p l e R s m args below meth c H locs cells slots Q (F0 m pc ls (.int (sI x) :: .int (nI j) :: .ref (ra i) :: rest)) := by
  refine qr_istS hexec hb hK hP hD hS (F.length + (48 + i)) t0 (qp_at2 hl1 hi) ht hj (by omega) hdg (fun H1 locs1 h1 h2 h3 => ?_)
  rw [qp_set2 hl1 hi] at h1 h2
  exact kk H1 locs1 h1 h2 h3
end QP
/-! behind a call: the callee's cells, at their places -/
def qj_set : va_W → List (Nat × (Nat × va_E)) → va_W
  | ws, [] => ws
  | ws, x :: l => qj_set (ws.set x.1 x.2) l
theorem qj_at (l : List (Nat × (Nat × va_E))) : ∀ (ws : va_W) (k : Nat) (q : Nat × va_E), (qj_set ws l)[k]? = some q → (k, q) ∈ l ∨ (ws[k]? = some q ∧ (∀ x ∈ l, x.1 ≠ k)) := by
  induction l with
  | nil => intro ws k q h; exact Or.inr ⟨h, fun x hx => absurd hx List.not_mem_nil⟩
  | cons x l ih =>
    intro ws k q h
    rw [qj_set] at h
    rcases ih _ k q h with h1 | ⟨h1, h2⟩
    · exact Or.inl (List.mem_cons_of_mem _ h1)
    · rw [List.getElem?_set] at h1
      by_cases e : x.1 = k
      · rw [if_pos e] at h1
        by_cases hl : x.1 < ws.length
        · rw [if_pos hl] at h1
          refine Or.inl ?_
          have : x = (k, q) := by
            obtain ⟨a, b⟩ := x
            have e1 : a = k := e
            have e2 : b = q := Option.some.inj h1
            rw [e1, e2]
          rw [this]
          exact List.mem_cons_self
        · rw [if_neg hl] at h1
          cases h1
      · rw [if_neg e] at h1
        exact Or.inr ⟨h1, fun y hy => (List.mem_cons.mp hy).elim (fun e2 => by rw [e2]; exact e) (h2 y)⟩
theorem qj_zip {α β : Type} {a : List α} {b : List β} {x : α} {y : β} (h : (x, y) ∈ a.zip b) : ∃ j : Nat, a[j]? = some x ∧ b[j]? = some y := by
  obtain ⟨j, hj⟩ := List.getElem?_of_mem h
  rw [List.getElem?_zip_eq_some] at hj
  exact ⟨j, hj.1, hj.2⟩
theorem qj_join {A0 : Nat → Prop} {D : va_G} {cl : List vw_C} {ws wc w1 : va_W} {H H1 : Heap} (hP : va_P D cl ws H) (hD : va_D A0 ws) (isC : List Nat) (hC : isC.map (fun i => ws[i]?) = wc.map some) (ha : w1.map (fun q => q.1) = wc.map (fun q => q.1))
    (hk : ∀ q : Nat, q < H.size → ¬ va_A wc H.size q → H1[q]? = H[q]?) (hP1 : va_P D cl w1 H1) : va_P D cl (qj_set ws (isC.zip w1)) H1 ∧ va_D A0 (qj_set ws (isC.zip w1)) := by
  have hlen : isC.length = wc.length := by
    have h := congrArg List.length hC
    rwa [List.length_map, List.length_map] at h
  have hlen1 : w1.length = wc.length := by
    have h := congrArg List.length ha
    rwa [List.length_map, List.length_map] at h
  have at' : ∀ (j i : Nat), isC[j]? = some i → ∃ q, wc[j]? = some q ∧ ws[i]? = some q := by
    intro j i h
    have h1 : (isC.map (fun i => ws[i]?))[j]? = some (ws[i]?) := by rw [List.getElem?_map, h]; rfl
    rw [hC, List.getElem?_map] at h1
    cases hw : wc[j]? with
    | none => rw [hw] at h1; cases h1
    | some q => rw [hw] at h1; exact ⟨q, rfl, (Option.some.inj h1).symm⟩
  have adr : ∀ (j : Nat) (q q1 : Nat × va_E), wc[j]? = some q → w1[j]? = some q1 → q1.1 = q.1 := by
    intro j q q1 h1 h2
    have h3 : (w1.map (fun q => q.1))[j]? = some q1.1 := by rw [List.getElem?_map, h2]; rfl
    rw [ha, List.getElem?_map, h1] at h3
    exact (Option.some.inj h3).symm
  have old : ∀ (k : Nat) (q : Nat × va_E), (qj_set ws (isC.zip w1))[k]? = some q → ∃ q0, ws[k]? = some q0 ∧ q0.1 = q.1 := by
    intro k q h
    rcases qj_at _ ws k q h with h1 | ⟨h1, -⟩
    · obtain ⟨j, h2, h3⟩ := qj_zip h1
      obtain ⟨q0, h4, h5⟩ := at' j k h2
      exact ⟨q0, h5, (adr j q0 q h4 h3).symm⟩
    · exact ⟨q, h1, rfl⟩
  refine ⟨fun k q h => ?_, fun i j x y hi hj e => ?_, fun k q h => ?_⟩
  · rcases qj_at _ ws k q h with h1 | ⟨h1, h2⟩
    · obtain ⟨j, -, h3⟩ := qj_zip h1
      exact hP1 j q h3
    · have hlt := (hP k q h1).lt
      refine (hP k q h1).kept (hk q.1 hlt (fun h3 => ?_))
      rcases h3 with ⟨j, e, h3⟩ | h3
      · have hj : j < isC.length := by rw [hlen]; exact (List.getElem?_eq_some_iff.mp h3).1
        have hi : isC[j]? = some isC[j] := List.getElem?_eq_getElem hj
        obtain ⟨q0, h4, h5⟩ := at' j _ hi
        have e1 : q0 = (q.1, e) := Option.some.inj (h4.symm.trans h3)
        have e2 := hD.1 _ _ q0 q h5 h1 (by rw [e1])
        have hj1 : j < w1.length := by rw [hlen1, ← hlen]; exact hj
        have hz : (isC[j], w1[j]) ∈ isC.zip w1 := List.mem_of_getElem? (i := j) (by rw [List.getElem?_zip_eq_some]; exact ⟨hi, List.getElem?_eq_getElem hj1⟩)
        exact h2 _ hz e2
      · omega
  · obtain ⟨x0, hx, ex⟩ := old i x hi
    obtain ⟨y0, hy, ey⟩ := old j y hj
    exact hD.1 i j x0 y0 hx hy (by rw [ex, ey]; exact e)
  · obtain ⟨q0, hq, eq⟩ := old k q h
    rw [← eq]
    exact hD.2 k q0 hq
/-- a call over the whole world -/
theorem qj_free {A0 : Nat → Prop} {ws : va_W} {H0 H : Heap} {locs : List Loc} (hD : va_D A0 ws) (hS : va_S A0 H0 H locs) (hA : ∀ q, H0.size ≤ q → A0 q) : ∀ q, va_A ws H.size q → A0 q := by
  intro q h
  rcases h with ⟨k, e, h⟩ | h
  · exact hD.2 k (q, e) h
  · exact hA q (Nat.le_trans hS.1 h)
end
section
/-! the word that begins with given symbols: one function for class and reference -/
theorem qs_R_congr {z y : Nat → Bool} {w v : Nat → BitVec 8} {n : Nat} (h : ∀ i, i < n → z i = y i) (hw : ∀ i, i < n → y i = false → w i = v i) : qk_R n z w = qk_R n y v := by
  funext k
  unfold qk_R
  refine qw_h_congr (fun i hi => ?_)
  rw [h i hi]
  cases hy : y i with
  | true => rfl
  | false => exact hw i hi hy
theorem qs_N_congr {z y : Nat → Bool} {w v : Nat → BitVec 8} {d e : Nat → Nat} {n : Nat} (h : ∀ i, i < n → z i = y i) (hw : ∀ i, i < n → y i = false → w i = v i) : qk_N n z d w = qk_N n y e v := by
  unfold qk_N
  rw [qs_R_congr h hw, qd_c_congr h]
  congr 1
  funext k c
  unfold qg_M0
  by_cases h4 : c < 4
  · rw [if_pos h4, if_pos h4]
    by_cases hc : c < qd_c y n
    · rw [if_pos hc, if_pos hc, qd_d_congr h]
      show qf_p (qw_X n (qd_d y d n c)) k = qf_p (qw_X n (qd_d y e n c)) k
      rw [qd_d_any y d e n hc]
    · rw [if_neg hc, if_neg hc]
  · rw [if_neg h4, if_neg h4]
theorem qs_can_congr {z y : Nat → Bool} {w v : Nat → BitVec 8} {d e : Nat → Nat} {n : Nat} (h : ∀ i, i < n → z i = y i) (hw : ∀ i, i < n → y i = false → w i = v i) : qk_can n z d w ↔ qk_can n y e v := by
  unfold qk_can
  rw [qs_N_congr (d := d) (e := e) h hw, qd_c_congr h]
/-- filled: what stood at the doubted places doesn't matter -/
theorem qs_p_same {z y : Nat → Bool} {w v : Nat → BitVec 8} {d e : Nat → Nat} {n : Nat} (h : ∀ i, i < n → z i = y i) (hw : ∀ i, i < n → y i = false → w i = v i) {i : Nat} (hi : i < n) : qk_p w (qd_d z d n) (fun c => qk_N n z d w c 4) (qd_c z n) i = qk_p v (qd_d y e n) (fun c => qk_N n y e v c 4) (qd_c y n) i := by
  rw [qs_N_congr (d := d) (e := e) h hw]
  cases hy : y i with
  | true =>
    have hz : z i = true := (h i hi).trans hy
    have e1 := qk_p_in (w := w) (d := qd_d z d n) (x := fun c => qk_N n y e v c 4) (qd_c_lt z hi hz) (fun a b ha hb hne => qd_d_ne z d n ha hb hne)
    have e2 := qk_p_in (w := v) (d := qd_d y e n) (x := fun c => qk_N n y e v c 4) (qd_c_lt y hi hy) (fun a b ha hb hne => qd_d_ne y e n ha hb hne)
    rw [qd_d_all z d n hi hz] at e1
    rw [qd_d_all y e n hi hy] at e2
    rw [e1, e2, qd_c_congr (z := z) (y := y) (fun j hj => h j (by omega))]
  | false =>
    have hz : z i = false := (h i hi).trans hy
    rw [qk_p_out (fun c hc q => by have h9 := (qd_d_in z d n c hc).2.1; rw [q, hz] at h9; exact absurd h9 (by decide)), qk_p_out (fun c hc q => by have h9 := (qd_d_in y e n c hc).2.1; rw [q, hy] at h9; exact absurd h9 (by decide))]
    exact hw i hi hy
theorem qs_both {n : Nat} (hn : n ≤ 16) {z y : Nat → Bool} {w v : Nat → BitVec 8} {d e : Nat → Nat} (hm : qd_c z n ≤ 4) (h : ∀ i, i < n → z i = y i) (hw : ∀ i, i < n → y i = false → w i = v i) (hc : qk_can n z d w) {i : Nat} (hi : i < n) : qw_a w (qd_d z d n) (qk_ch n z d w) (qd_c z n) i = qk_p v (qd_d y e n) (fun c => qk_N n y e v c 4) (qd_c y n) i :=
  (qk_same hn hm hc hi).trans (qs_p_same h hw hi)
/-- the word of n symbols that begins with f 0 .. -/
def qs_Z (n : Nat) : Nat → Bool := qm_fi n (fun _ => false) 16
def qs_enc (n : Nat) (f : Nat → BitVec 8) : Nat → BitVec 8 := qk_p f (qd_d (qs_Z n) (fun _ => 0) n) (fun c => qk_N n (qs_Z n) (fun _ => 0) f c 4) (qd_c (qs_Z n) n)
theorem qs_Z_f {n i : Nat} (hn : n ≤ 16) (hi : i < n) (h : qs_Z n i = false) : i < n - 4 := by
  unfold qs_Z at h
  rw [qm_fi_at (by omega), decide_eq_true hi, Bool.and_true] at h
  have := of_decide_eq_false h
  omega
theorem qs_class {n : Nat} (hn : n ≤ 16) (h4 : 4 ≤ n) {z : Nat → Bool} {w f : Nat → BitVec 8} {d : Nat → Nat} (hw : ∀ i, i < n - 4 → w i = f i) {i : Nat} (hi : i < n) : qw_a w (qd_d (qm_mc n z n) d n) (qk_ch n (qm_mc n z n) d w) 4 i = qs_enc n f i := by
  have hc4 : qd_c (qm_mc n z n) n = 4 := qm_mc_4 z h4
  have h := qs_both (n := n) hn (z := qm_mc n z n) (y := qs_Z n) (w := w) (v := f) (d := d) (e := fun _ => 0) (by rw [hc4]; exact Nat.le_refl 4) (qm_fi_mc hn z _) (fun i hi hz => hw i (qs_Z_f hn hi hz)) (fun k h1 h2 => absurd h2 (by rw [hc4] at h1; omega)) hi
  rw [hc4] at h
  exact h
theorem qs_ref {n : Nat} (hn : n ≤ 16) (h4 : 4 ≤ n) {z : Nat → Bool} {w f : Nat → BitVec 8} {d : Nat → Nat} (hw : ∀ i, i < n - 4 → w i = f i) {i : Nat} (hi : i < n) : qk_p w (qd_d (qm_fi n z 16) d n) (fun c => qk_N n (qm_fi n z 16) d w c 4) 4 i = qs_enc n f i := by
  have hc4 : qd_c (qm_fi n z 16) n = 4 := qm_fi_4 hn z h4
  have h := qs_p_same (n := n) (z := qm_fi n z 16) (y := qs_Z n) (w := w) (v := f) (d := d) (e := fun _ => 0) (fun i hi => by unfold qs_Z; rw [qm_fi_at (by omega), qm_fi_at (by omega)]) (fun i hi hz => hw i (qs_Z_f hn hi hz)) hi
  rw [hc4] at h
  exact h
theorem qs_enc_congr {n : Nat} (hn : n ≤ 16) {f g : Nat → BitVec 8} (h : ∀ i, i < n - 4 → f i = g i) {i : Nat} (hi : i < n) : qs_enc n f i = qs_enc n g i :=
  qs_p_same (fun _ _ => rfl) (fun i hi hz => h i (qs_Z_f hn hi hz)) hi
/-- rows of a pool that agree below 12 -/
theorem qp_sameG {D : va_G} {cl : List vw_C} {A : Nat → Prop} {ws ws' : va_W} {H : Heap} (hP : va_P D cl ws H) (hD : va_D A ws) (h : ∀ (k : Nat) (q : Nat × va_E), ws'[k]? = some q → ∃ q0, ws[k]? = some q0 ∧ q0.1 = q.1 ∧ (va_at D cl q0 H → va_at D cl q H)) : va_P D cl ws' H ∧ va_D A ws' := by
  refine ⟨fun k q hk => ?_, fun i j x y hi hj e => ?_, fun k q hk => ?_⟩
  · obtain ⟨q0, h1, -, h3⟩ := h k q hk
    exact h3 (hP k q0 h1)
  · obtain ⟨x0, h1, h2, -⟩ := h i x hi
    obtain ⟨y0, h3, h4, -⟩ := h j y hj
    exact hD.1 i j x0 y0 h1 h3 (by rw [h2, h4]; exact e)
  · obtain ⟨q0, h1, h2, -⟩ := h k q hk
    rw [← h2]
    exact hD.2 k q0 h1
theorem qp_row {D : va_G} {cl : List vw_C} {H : Heap} {cI : ClassId} {ra : Nat → Nat} {M N : Nat → Nat → BitVec 8} (h : ∀ i, i < 48 → ∀ j, j < 12 → M i j = N i j) (k : Nat) (q : Nat × va_E) (hk : (qP cI ra N)[k]? = some q) : ∃ q0, (qP cI ra M)[k]? = some q0 ∧ q0.1 = q.1 ∧ (va_at D cl q0 H → va_at D cl q H) := by
  have hl : k < 48 := by
    have := (List.getElem?_eq_some_iff.mp hk).1
    rwa [qP_len] at this
  rw [qP_at hl] at hk
  refine ⟨_, qP_at hl, ?_, ?_⟩
  · rw [← Option.some.inj hk]
  · intro h1
    rw [← Option.some.inj hk]
    have h2 : H[ra k]? = some (vp_cell cI (12, .inl (qS (M k)))) := h1
    rw [qr_cell cI (f := qS (M k)) (g := qS (N k)) (fun j hj => congrArg sI (h k hl j hj))] at h2
    exact h2
theorem qp_same1 {D : va_G} {cl : List vw_C} {A : Nat → Prop} {F P2 : va_W} {H : Heap} {cI : ClassId} {ra : Nat → Nat} {M N : Nat → Nat → BitVec 8} (hP : va_P D cl (F ++ (qP cI ra M ++ P2)) H) (hD : va_D A (F ++ (qP cI ra M ++ P2))) (h : ∀ i, i < 48 → ∀ j, j < 12 → M i j = N i j) : va_P D cl (F ++ (qP cI ra N ++ P2)) H ∧ va_D A (F ++ (qP cI ra N ++ P2)) := by
  refine qp_sameG hP hD (fun k q hk => ?_)
  by_cases h1 : k < F.length
  · rw [List.getElem?_append_left h1] at hk
    exact ⟨q, by rw [List.getElem?_append_left h1]; exact hk, rfl, id⟩
  · rw [List.getElem?_append_right (by omega)] at hk
    by_cases h2 : k - F.length < 48
    · rw [List.getElem?_append_left (by rw [qP_len]; exact h2)] at hk
      obtain ⟨q0, a1, a2, a3⟩ := qp_row (D := D) (cl := cl) (H := H) h _ q hk
      exact ⟨q0, by rw [List.getElem?_append_right (by omega), List.getElem?_append_left (by rw [qP_len]; exact h2)]; exact a1, a2, a3⟩
    · rw [List.getElem?_append_right (by rw [qP_len]; omega), qP_len] at hk
      exact ⟨q, by rw [List.getElem?_append_right (by omega), List.getElem?_append_right (by rw [qP_len]; omega), qP_len]; exact hk, rfl, id⟩
theorem qp_same2 {D : va_G} {cl : List vw_C} {A : Nat → Prop} {F P1 : va_W} {H : Heap} {cI : ClassId} {ra : Nat → Nat} {M N : Nat → Nat → BitVec 8} (hP : va_P D cl (F ++ (P1 ++ qP cI ra M)) H) (hD : va_D A (F ++ (P1 ++ qP cI ra M))) (h : ∀ i, i < 48 → ∀ j, j < 12 → M i j = N i j) : va_P D cl (F ++ (P1 ++ qP cI ra N)) H ∧ va_D A (F ++ (P1 ++ qP cI ra N)) := by
  refine qp_sameG hP hD (fun k q hk => ?_)
  rw [← List.append_assoc] at hk ⊢
  by_cases h1 : k < (F ++ P1).length
  · rw [List.getElem?_append_left h1] at hk
    exact ⟨q, by rw [List.getElem?_append_left h1]; exact hk, rfl, id⟩
  · rw [List.getElem?_append_right (by omega)] at hk
    obtain ⟨q0, a1, a2, a3⟩ := qp_row (D := D) (cl := cl) (H := H) h _ q hk
    exact ⟨q0, by rw [List.getElem?_append_right (by omega)]; exact a1, a2, a3⟩
/-! private fields across the nest -/
def qn_L : List Cond := [.fieldLinkNest "DiscCoder" 100 "DiscCoder$Reader" "output" "[I" "DiscCoder", .fieldLinkNest "DiscCoder" 103 "DiscCoder$Reader" "lost" "[Z" "DiscCoder", .fieldLinkNest "DiscCoder" 107 "DiscCoder$Reader" "wordsMended" "I" "DiscCoder", .fieldLinkNest "DiscCoder" 110 "DiscCoder$Reader" "wordsDoubted" "I" "DiscCoder", .fieldLinkNest "DiscCoder" 113 "DiscCoder$Reader" "symbolsFilled" "I" "DiscCoder", .fieldLinkNest "DiscCoder" 116 "DiscCoder$Reader" "wordsLost" "I" "DiscCoder", .fieldLinkNest "DiscCoder" 130 "DiscCoder$Word" "symbols" "[I" "DiscCoder", .fieldLinkNest "DiscCoder" 41 "DiscCoder$Disc" "rowsWritten" "I" "DiscCoder", .fieldLinkNest "DiscCoder" 65 "DiscCoder$Disc" "symbols" "[I" "DiscCoder", .fieldLinkNest "DiscCoder" 80 "DiscCoder$Disc" "rowsRead" "I" "DiscCoder", .fieldLinkNest "DiscCoder$Reader" 38 "DiscCoder$Disc" "rowsRead" "I" "DiscCoder", .fieldLinkNest "DiscCoder$Reader" 57 "DiscCoder$Word" "symbols" "[I" "DiscCoder", .fieldLinkNest "DiscCoder$Reader" 79 "DiscCoder$Word" "doubted" "[Z" "DiscCoder", .fieldLinkNest "DiscCoder$Writer" 31 "DiscCoder$Disc" "rowsWritten" "I" "DiscCoder", .fieldLinkNest "DiscCoder$Writer" 57 "DiscCoder$Word" "symbols" "[I" "DiscCoder"]
def qn_N (U : State) : Prop := ∀ w ∈ qn_L, va_Nw w U
theorem qn_tab : ∀ w ∈ qn_L, w.onTables = true := by decide +kernel
theorem qn_same {u U : State} (h : u.vm = U.vm) (hN : qn_N u) : qn_N U := fun w hw => va_Nw.same (qn_tab w hw) h (hN w hw)
theorem qn_warm {s U : State} (hW : s.WarmedH U.vm) (hN : qn_N s) : qn_N U := by
  intro w hw
  have h := hN w hw
  simp only [qn_L, List.mem_cons, List.not_mem_nil, or_false] at hw
  rcases hw with rfl | rfl | rfl | rfl | rfl | rfl | rfl | rfl | rfl | rfl | rfl | rfl | rfl | rfl | rfl <;> exact va_Nw.warmF hW h
end
section
/-! further rows: numbers against 0; what the writer and the reader lay -/
section QR2
variable {p : Program} {l : Launch} {e : Env} {R : Room} {s : State} {m : MethodId} {args : Array Value} {below : List Frame} {meth : Method} {c : Code} {H : Heap} {locs : List Loc} {cells slots : Nat} {Q : State → Prop}
variable {cc : ByteArray} {pc : Nat} {ls : Array Slot} {rest : List Value}
theorem qr_ifeqN {x : Nat} {off : Int} {tgt : Nat} (hexec : p.tables.exec = Jvm.exec) (hb : c.code = cc) (hdg : decode cc pc = .ok (.ifCond .eq off, 3)) (ht : (pc : Int) + off = (tgt : Int)) (hx : x < 2 ^ 31)
    (kt : x = 0 → W p l e R s m args below meth c H locs cells slots Q (F0 m tgt ls rest)) (kf : x ≠ 0 → W p l e R s m args below meth c H locs cells slots Q (F0 m (pc + 3) ls rest)) : W p l e R s m args below meth c H locs cells slots Q (F0 m pc ls (.int (nI x) :: rest)) :=
  lv_if_eq hexec hb hdg ht (fun h => kt ((nI_eq hx (by omega)).mp h)) (fun h => kf (fun h2 => h ((nI_eq (b := 0) hx (by omega)).mpr h2)))
theorem qr_ifneN {x : Nat} {off : Int} {tgt : Nat} (hexec : p.tables.exec = Jvm.exec) (hb : c.code = cc) (hdg : decode cc pc = .ok (.ifCond .ne off, 3)) (ht : (pc : Int) + off = (tgt : Int)) (hx : x < 2 ^ 31)
    (kt : x ≠ 0 → W p l e R s m args below meth c H locs cells slots Q (F0 m tgt ls rest)) (kf : x = 0 → W p l e R s m args below meth c H locs cells slots Q (F0 m (pc + 3) ls rest)) : W p l e R s m args below meth c H locs cells slots Q (F0 m pc ls (.int (nI x) :: rest)) :=
  lv_if_ne hexec hb hdg ht (fun h => kt (fun h2 => h ((nI_eq (b := 0) hx (by omega)).mpr h2))) (fun h => kf ((nI_eq hx (by omega)).mp h))
end QR2
/-- a symbol of place i as it lies on the disc -/
def qs_t (i : Nat) (a : BitVec 8) : BitVec 8 := if i < 8 then a else 255#8 ^^^ a
theorem qs_has {x y tw : Nat} (hx : x < tw) (ht : tw ≤ 48) (hy : y < 16) : ¬ nI x < 0 ∧ ¬ nI tw ≤ nI x ∧ ¬ nI y < 0 ∧ ¬ nI 16 ≤ nI y :=
  ⟨nI_pos (by omega), fun h => absurd ((nI_leI (by omega) (by omega)).mp h) (by omega), nI_pos (by omega), fun h => absurd ((nI_leI (by omega) (by omega)).mp h) (by omega)⟩
theorem qm_cs_out {ch x : Nat → BitVec 8} {c m : Nat} (h : m ≤ c) : qm_cs ch x m c = ch c := by
  induction m with
  | zero => rfl
  | succ m ih => rw [qm_cs, va_up_ne _ _ (by omega), ih (by omega)]
theorem qs_up0 (M : Nat → Nat → BitVec 8) (x : Nat) (w : Nat → BitVec 8) : ∀ i, i < 48 → ∀ j, j < 12 → M i j = va_up M x (qm_cs (M x) w 0) i j := by
  intro i _ j _
  by_cases h : i = x
  · rw [h, va_up_self]; rfl
  · rw [va_up_ne _ _ h]
theorem qs_upr (M : Nat → Nat → BitVec 8) (x : Nat) {w v : Nat → BitVec 8} (h : ∀ j, j < 12 → w j = v j) : ∀ i, i < 48 → ∀ j, j < 12 → va_up M x w i j = va_up M x v i j := by
  intro i _ j hj
  by_cases e : i = x
  · rw [e, va_up_self, va_up_self, h j hj]
  · rw [va_up_ne _ _ e, va_up_ne _ _ e]
/-- the inner word of a long; the first symbols of the outer word of frame t; that word; a row of the disc -/
def qs_iw (v : Int64) : Nat → BitVec 8 := qs_enc 12 (qm_by v)
def qs_os (I : Nat → Nat → BitVec 8) (t : Nat) : Nat → BitVec 8 := fun j => if j ≤ t then I (t - j) j else 0#8
def qs_ow (I : Nat → Nat → BitVec 8) (t : Nat) : Nat → BitVec 8 := qs_enc 16 (qs_os I t)
def qs_wr (dd : Nat → BitVec 8) (x : Nat) (y ob : Nat → BitVec 8) : Nat → (Nat → BitVec 8)
  | 0 => dd
  | i + 1 => va_up (qs_wr dd x y ob i) (x * 16 + i) (qs_t i (if i % 2 = 0 then y i else ob i))
/-- the row before last put right is gathered; then the inner word's symbols and doubts -/
def qs_go (dd : Nat → BitVec 8) (x : Nat) : Nat → BitVec 8 := fun i => if i % 2 = 0 then (if x = 0 then 0#8 else qs_t i (dd ((x - 1) * 16 + i))) else qs_t i (dd (x * 16 + i))
def qs_gi (O : Nat → Nat → BitVec 8) (x : Nat) : Nat → BitVec 8 := fun j => if 11 ≤ x + j then O (x + j - 11) j else 0#8
def qs_gz (od : Nat → Bool) (x : Nat) : Nat → Bool := fun j => if 11 ≤ x + j then od (x + j - 11) else false
def qs_cz (ch x : Nat → Bool) : Nat → (Nat → Bool)
  | 0 => ch
  | c + 1 => va_up (qs_cz ch x c) c (x c)
theorem qs_cz_at {ch x : Nat → Bool} {c m : Nat} (h : c < m) : qs_cz ch x m c = x c := by
  induction m with
  | zero => omega
  | succ m ih =>
    rw [qs_cz]
    by_cases e : c = m
    · rw [e, va_up_self]
    · rw [va_up_ne _ _ e, ih (by omega)]
abbrev qW2 (F P1 P2 : va_W) : va_W := F ++ (P1 ++ P2)
end
section
def wsX0_init : List Cond := .code yX0_init cX0_init 1 none :: ([.methodLink RX0 3 objectInit, .instanceMethod objectInit, .code objectInit ⟨#[0xb1]⟩ 1 none, .arrayClass .int, .fieldLink RX0 9 "DiscCoder$Disc" "symbols" "[I"] ++ wsX00)
def wsX0_has : List Cond := .code yX0_has cX0_has 3 (some .boolean) :: ([.fieldLink RX0 15 "DiscCoder$Disc" "rowsWritten" "I"] ++ wsX00)
def wsX0_setPlain : List Cond := .code yX0_setPlain cX0_setPlain 4 none :: ([.fieldLink RX0 9 "DiscCoder$Disc" "symbols" "[I", .methodLink RX0 19 yX0_turned, .static yX0_turned, .initialized RX0, .code yX0_turned cX0_turned 2 (some .int)] ++ wsX00)
def wsX0_getPlain : List Cond := .code yX0_getPlain cX0_getPlain 3 (some .int) :: ([.methodLink RX0 23 yX0_has, .instanceMethod yX0_has, .selects RX0 yX0_has yX0_has, .initialized RX0, .code yX0_has cX0_has 3 (some .boolean), .fieldLink RX0 15 "DiscCoder$Disc" "rowsWritten" "I", .fieldLink RX0 9 "DiscCoder$Disc" "symbols" "[I", .methodLink RX0 19 yX0_turned, .static yX0_turned, .code yX0_turned cX0_turned 2 (some .int)] ++ wsX00)
def wsX0_turned : List Cond := .code yX0_turned cX0_turned 2 (some .int) :: ([])
set_option maxRecDepth 20000 in
theorem ggX0_setPlain_X0_turned : GoodIn wsX0_setPlain wsX0_turned := goodIn_r _ [5] (by decide +kernel) (by decide +kernel)
theorem gX0_setPlain_X0_turned : GoodIn wsX0_setPlain (va_wsS RX0 19 yX0_turned wsX0_turned) := goodIn_app (goodIn_of _ (by decide +kernel)) ggX0_setPlain_X0_turned
set_option maxRecDepth 20000 in
theorem ggX0_getPlain_X0_has : GoodIn wsX0_getPlain wsX0_has := goodIn_r _ [5, 6, 11, 12, 13] (by decide +kernel) (by decide +kernel)
theorem gX0_getPlain_X0_has : GoodIn wsX0_getPlain (wsV RX0 23 RX0 yX0_has wsX0_has) := goodIn_app (goodIn_of _ (by decide +kernel)) ggX0_getPlain_X0_has
set_option maxRecDepth 20000 in
theorem ggX0_getPlain_X0_turned : GoodIn wsX0_getPlain wsX0_turned := goodIn_r _ [10] (by decide +kernel) (by decide +kernel)
theorem gX0_getPlain_X0_turned : GoodIn wsX0_getPlain (va_wsS RX0 19 yX0_turned wsX0_turned) := goodIn_app (goodIn_of _ (by decide +kernel)) ggX0_getPlain_X0_turned
theorem dX0_init_0 : decode cX0_init 0 = .ok (.aload_n 0, 1) := by decide +kernel
theorem dX0_init_1 : decode cX0_init 1 = .ok (.invokespecial 3, 3) := by decide +kernel
theorem dX0_init_4 : decode cX0_init 4 = .ok (.aload_n 0, 1) := by decide +kernel
theorem dX0_init_5 : decode cX0_init 5 = .ok (.sipush 768, 3) := by decide +kernel
theorem dX0_init_8 : decode cX0_init 8 = .ok (.newarray .int, 2) := by decide +kernel
theorem dX0_init_10 : decode cX0_init 10 = .ok (.putfield 9, 3) := by decide +kernel
theorem dX0_init_13 : decode cX0_init 13 = .ok (.return_, 1) := by decide +kernel
theorem dX0_has_0 : decode cX0_has 0 = .ok (.iload_n 1, 1) := by decide +kernel
theorem dX0_has_1 : decode cX0_has 1 = .ok (.ifCond .lt 25, 3) := by decide +kernel
theorem dX0_has_4 : decode cX0_has 4 = .ok (.iload_n 1, 1) := by decide +kernel
theorem dX0_has_5 : decode cX0_has 5 = .ok (.aload_n 0, 1) := by decide +kernel
theorem dX0_has_6 : decode cX0_has 6 = .ok (.getfield 15, 3) := by decide +kernel
theorem dX0_has_9 : decode cX0_has 9 = .ok (.if_icmp .ge 17, 3) := by decide +kernel
theorem dX0_has_12 : decode cX0_has 12 = .ok (.iload_n 2, 1) := by decide +kernel
theorem dX0_has_13 : decode cX0_has 13 = .ok (.ifCond .lt 13, 3) := by decide +kernel
theorem dX0_has_16 : decode cX0_has 16 = .ok (.iload_n 2, 1) := by decide +kernel
theorem dX0_has_17 : decode cX0_has 17 = .ok (.bipush 16, 2) := by decide +kernel
theorem dX0_has_19 : decode cX0_has 19 = .ok (.if_icmp .ge 7, 3) := by decide +kernel
theorem dX0_has_22 : decode cX0_has 22 = .ok (.iconst 1, 1) := by decide +kernel
theorem dX0_has_23 : decode cX0_has 23 = .ok (.goto 4, 3) := by decide +kernel
theorem dX0_has_26 : decode cX0_has 26 = .ok (.iconst 0, 1) := by decide +kernel
theorem dX0_has_27 : decode cX0_has 27 = .ok (.ireturn, 1) := by decide +kernel
theorem dX0_setPlain_0 : decode cX0_setPlain 0 = .ok (.aload_n 0, 1) := by decide +kernel
theorem dX0_setPlain_1 : decode cX0_setPlain 1 = .ok (.getfield 9, 3) := by decide +kernel
theorem dX0_setPlain_4 : decode cX0_setPlain 4 = .ok (.iload_n 1, 1) := by decide +kernel
theorem dX0_setPlain_5 : decode cX0_setPlain 5 = .ok (.bipush 16, 2) := by decide +kernel
theorem dX0_setPlain_7 : decode cX0_setPlain 7 = .ok (.imul, 1) := by decide +kernel
theorem dX0_setPlain_8 : decode cX0_setPlain 8 = .ok (.iload_n 2, 1) := by decide +kernel
theorem dX0_setPlain_9 : decode cX0_setPlain 9 = .ok (.iadd, 1) := by decide +kernel
theorem dX0_setPlain_10 : decode cX0_setPlain 10 = .ok (.iload_n 2, 1) := by decide +kernel
theorem dX0_setPlain_11 : decode cX0_setPlain 11 = .ok (.iload_n 3, 1) := by decide +kernel
theorem dX0_setPlain_12 : decode cX0_setPlain 12 = .ok (.invokestatic 19, 3) := by decide +kernel
theorem dX0_setPlain_15 : decode cX0_setPlain 15 = .ok (.iastore, 1) := by decide +kernel
theorem dX0_setPlain_16 : decode cX0_setPlain 16 = .ok (.return_, 1) := by decide +kernel
theorem dX0_getPlain_0 : decode cX0_getPlain 0 = .ok (.aload_n 0, 1) := by decide +kernel
theorem dX0_getPlain_1 : decode cX0_getPlain 1 = .ok (.iload_n 1, 1) := by decide +kernel
theorem dX0_getPlain_2 : decode cX0_getPlain 2 = .ok (.iload_n 2, 1) := by decide +kernel
theorem dX0_getPlain_3 : decode cX0_getPlain 3 = .ok (.invokevirtual 23, 3) := by decide +kernel
theorem dX0_getPlain_6 : decode cX0_getPlain 6 = .ok (.ifCond .eq 21, 3) := by decide +kernel
theorem dX0_getPlain_9 : decode cX0_getPlain 9 = .ok (.iload_n 2, 1) := by decide +kernel
theorem dX0_getPlain_10 : decode cX0_getPlain 10 = .ok (.aload_n 0, 1) := by decide +kernel
theorem dX0_getPlain_11 : decode cX0_getPlain 11 = .ok (.getfield 9, 3) := by decide +kernel
theorem dX0_getPlain_14 : decode cX0_getPlain 14 = .ok (.iload_n 1, 1) := by decide +kernel
theorem dX0_getPlain_15 : decode cX0_getPlain 15 = .ok (.bipush 16, 2) := by decide +kernel
theorem dX0_getPlain_17 : decode cX0_getPlain 17 = .ok (.imul, 1) := by decide +kernel
theorem dX0_getPlain_18 : decode cX0_getPlain 18 = .ok (.iload_n 2, 1) := by decide +kernel
theorem dX0_getPlain_19 : decode cX0_getPlain 19 = .ok (.iadd, 1) := by decide +kernel
theorem dX0_getPlain_20 : decode cX0_getPlain 20 = .ok (.iaload, 1) := by decide +kernel
theorem dX0_getPlain_21 : decode cX0_getPlain 21 = .ok (.invokestatic 19, 3) := by decide +kernel
theorem dX0_getPlain_24 : decode cX0_getPlain 24 = .ok (.goto 4, 3) := by decide +kernel
theorem dX0_getPlain_27 : decode cX0_getPlain 27 = .ok (.iconst 0, 1) := by decide +kernel
theorem dX0_getPlain_28 : decode cX0_getPlain 28 = .ok (.ireturn, 1) := by decide +kernel
theorem dX0_turned_0 : decode cX0_turned 0 = .ok (.iload_n 0, 1) := by decide +kernel
theorem dX0_turned_1 : decode cX0_turned 1 = .ok (.bipush 8, 2) := by decide +kernel
theorem dX0_turned_3 : decode cX0_turned 3 = .ok (.if_icmp .ge 7, 3) := by decide +kernel
theorem dX0_turned_6 : decode cX0_turned 6 = .ok (.iload_n 1, 1) := by decide +kernel
theorem dX0_turned_7 : decode cX0_turned 7 = .ok (.goto 8, 3) := by decide +kernel
theorem dX0_turned_10 : decode cX0_turned 10 = .ok (.sipush 255, 3) := by decide +kernel
theorem dX0_turned_13 : decode cX0_turned 13 = .ok (.iload_n 1, 1) := by decide +kernel
theorem dX0_turned_14 : decode cX0_turned 14 = .ok (.isub, 1) := by decide +kernel
theorem dX0_turned_15 : decode cX0_turned 15 = .ok (.ireturn, 1) := by decide +kernel
def wsX4_init : List Cond := .code yX4_init cX4_init 4 none :: ([.methodLink RX4 3 objectInit, .instanceMethod objectInit, .code objectInit ⟨#[0xb1]⟩ 1 none, .fieldLink RX4 9 "DiscCoder$Writer" "disc" "LDiscCoder$Disc;", .fieldLink RX4 15 "DiscCoder$Writer" "inner" "LDiscCoder$Word;", .fieldLink RX4 19 "DiscCoder$Writer" "outer" "LDiscCoder$Word;", .fieldLink RX4 24 "DiscCoder$Writer" "innerWords" "[[I", .arrayClass .int, .fieldLink RX4 27 "DiscCoder$Writer" "outerBefore" "[I"] ++ wsX40)
def wsX4_writeFrame : List Cond := .code yX4_writeFrame cX4_writeFrame 4 (some .int) :: ([.fieldLink RX4 9 "DiscCoder$Writer" "disc" "LDiscCoder$Disc;", .methodLink RX4 37 yX4_makeInner, .instanceMethod yX4_makeInner, .selects RX4 yX4_makeInner yX4_makeInner, .initialized RX4, .code yX4_makeInner cX4_makeInner 5 none, .fieldLink RX4 15 "DiscCoder$Writer" "inner" "LDiscCoder$Word;", .methodLink RX4 48 yX3_beginWith, .instanceMethod yX3_beginWith, .selects RX3 yX3_beginWith yX3_beginWith, .initialized RX3, .code yX3_beginWith cX3_beginWith 4 none, .fieldLink RX3 15 "DiscCoder$Word" "symbols" "[I", .methodLink RX4 54 yX3_makeChecks, .instanceMethod yX3_makeChecks, .selects RX3 yX3_makeChecks yX3_makeChecks, .code yX3_makeChecks cX3_makeChecks 2 none, .fieldLink RX3 9 "DiscCoder$Word" "size" "I", .fieldLink RX3 19 "DiscCoder$Word" "doubted" "[Z", .methodLink RX3 44 yX3_fillDoubted, .instanceMethod yX3_fillDoubted, .selects RX3 yX3_fillDoubted yX3_fillDoubted, .code yX3_fillDoubted cX3_fillDoubted 3 (some .boolean), .methodLink RX3 58 yX3_countDoubted, .instanceMethod yX3_countDoubted, .selects RX3 yX3_countDoubted yX3_countDoubted, .code yX3_countDoubted cX3_countDoubted 3 (some .int), .methodLink RX3 62 yX3_listDoubted, .instanceMethod yX3_listDoubted, .selects RX3 yX3_listDoubted yX3_listDoubted, .code yX3_listDoubted cX3_listDoubted 3 none, .fieldLink RX3 29 "DiscCoder$Word" "doubtedAt" "[I", .methodLink RX3 48 yX3_makeSums, .instanceMethod yX3_makeSums, .selects RX3 yX3_makeSums yX3_makeSums, .code yX3_makeSums cX3_makeSums 5 none, .methodLink RX3 38 yX1_times, .static yX1_times, .initialized RX1, .code yX1_times cX1_times 5 (some .int), .fieldLink RX3 26 "DiscCoder$Word" "sums" "[I", .fieldLink RX3 32 "DiscCoder$Word" "changes" "[I", .methodLink RX3 65 yX3_changeAt, .instanceMethod yX3_changeAt, .selects RX3 yX3_changeAt yX3_changeAt, .code yX3_changeAt cX3_changeAt 7 (some .int), .fieldLink RX3 23 "DiscCoder$Word" "locators" "[I", .methodLink RX3 72 yX3_startWeights, .instanceMethod yX3_startWeights, .selects RX3 yX3_startWeights yX3_startWeights, .code yX3_startWeights cX3_startWeights 2 none, .fieldLink RX3 35 "DiscCoder$Word" "weights" "[I", .methodLink RX3 75 yX3_addRoot, .instanceMethod yX3_addRoot, .selects RX3 yX3_addRoot yX3_addRoot, .code yX3_addRoot cX3_addRoot 3 none, .methodLink RX3 78 yX3_weightedSums, .instanceMethod yX3_weightedSums, .selects RX3 yX3_weightedSums yX3_weightedSums, .code yX3_weightedSums cX3_weightedSums 3 (some .int), .methodLink RX3 81 yX1_inverse, .static yX1_inverse, .code yX1_inverse cX1_inverse 4 (some .int), .methodLink RX1 11 yX1_times, .methodLink RX3 68 yX3_addChanges, .instanceMethod yX3_addChanges, .selects RX3 yX3_addChanges yX3_addChanges, .code yX3_addChanges cX3_addChanges 3 none, .methodLink RX3 51 yX3_isWord, .instanceMethod yX3_isWord, .selects RX3 yX3_isWord yX3_isWord, .code yX3_isWord cX3_isWord 2 (some .boolean), .fieldLink RX4 24 "DiscCoder$Writer" "innerWords" "[[I", .methodLink RX4 41 yX4_makeOuter, .instanceMethod yX4_makeOuter, .selects RX4 yX4_makeOuter yX4_makeOuter, .code yX4_makeOuter cX4_makeOuter 3 none, .fieldLink RX4 19 "DiscCoder$Writer" "outer" "LDiscCoder$Word;", .methodLink RX4 45 yX4_writeRow, .instanceMethod yX4_writeRow, .selects RX4 yX4_writeRow yX4_writeRow, .code yX4_writeRow cX4_writeRow 3 none, .fieldLink RX4 27 "DiscCoder$Writer" "outerBefore" "[I", .methodLink RX4 60 yX0_setPlain, .instanceMethod yX0_setPlain, .selects RX0 yX0_setPlain yX0_setPlain, .initialized RX0, .code yX0_setPlain cX0_setPlain 4 none, .fieldLink RX0 9 "DiscCoder$Disc" "symbols" "[I", .methodLink RX0 19 yX0_turned, .static yX0_turned, .code yX0_turned cX0_turned 2 (some .int)] ++ wsX40 ++ wsX00 ++ wsX30)
def wsX4_makeInner : List Cond := .code yX4_makeInner cX4_makeInner 5 none :: ([.fieldLink RX4 15 "DiscCoder$Writer" "inner" "LDiscCoder$Word;", .methodLink RX4 48 yX3_beginWith, .instanceMethod yX3_beginWith, .selects RX3 yX3_beginWith yX3_beginWith, .initialized RX3, .code yX3_beginWith cX3_beginWith 4 none, .fieldLink RX3 15 "DiscCoder$Word" "symbols" "[I", .methodLink RX4 54 yX3_makeChecks, .instanceMethod yX3_makeChecks, .selects RX3 yX3_makeChecks yX3_makeChecks, .code yX3_makeChecks cX3_makeChecks 2 none, .fieldLink RX3 9 "DiscCoder$Word" "size" "I", .fieldLink RX3 19 "DiscCoder$Word" "doubted" "[Z", .methodLink RX3 44 yX3_fillDoubted, .instanceMethod yX3_fillDoubted, .selects RX3 yX3_fillDoubted yX3_fillDoubted, .code yX3_fillDoubted cX3_fillDoubted 3 (some .boolean), .methodLink RX3 58 yX3_countDoubted, .instanceMethod yX3_countDoubted, .selects RX3 yX3_countDoubted yX3_countDoubted, .code yX3_countDoubted cX3_countDoubted 3 (some .int), .methodLink RX3 62 yX3_listDoubted, .instanceMethod yX3_listDoubted, .selects RX3 yX3_listDoubted yX3_listDoubted, .code yX3_listDoubted cX3_listDoubted 3 none, .fieldLink RX3 29 "DiscCoder$Word" "doubtedAt" "[I", .methodLink RX3 48 yX3_makeSums, .instanceMethod yX3_makeSums, .selects RX3 yX3_makeSums yX3_makeSums, .code yX3_makeSums cX3_makeSums 5 none, .methodLink RX3 38 yX1_times, .static yX1_times, .initialized RX1, .code yX1_times cX1_times 5 (some .int), .fieldLink RX3 26 "DiscCoder$Word" "sums" "[I", .fieldLink RX3 32 "DiscCoder$Word" "changes" "[I", .methodLink RX3 65 yX3_changeAt, .instanceMethod yX3_changeAt, .selects RX3 yX3_changeAt yX3_changeAt, .code yX3_changeAt cX3_changeAt 7 (some .int), .fieldLink RX3 23 "DiscCoder$Word" "locators" "[I", .methodLink RX3 72 yX3_startWeights, .instanceMethod yX3_startWeights, .selects RX3 yX3_startWeights yX3_startWeights, .code yX3_startWeights cX3_startWeights 2 none, .fieldLink RX3 35 "DiscCoder$Word" "weights" "[I", .methodLink RX3 75 yX3_addRoot, .instanceMethod yX3_addRoot, .selects RX3 yX3_addRoot yX3_addRoot, .code yX3_addRoot cX3_addRoot 3 none, .methodLink RX3 78 yX3_weightedSums, .instanceMethod yX3_weightedSums, .selects RX3 yX3_weightedSums yX3_weightedSums, .code yX3_weightedSums cX3_weightedSums 3 (some .int), .methodLink RX3 81 yX1_inverse, .static yX1_inverse, .code yX1_inverse cX1_inverse 4 (some .int), .methodLink RX1 11 yX1_times, .methodLink RX3 68 yX3_addChanges, .instanceMethod yX3_addChanges, .selects RX3 yX3_addChanges yX3_addChanges, .code yX3_addChanges cX3_addChanges 3 none, .methodLink RX3 51 yX3_isWord, .instanceMethod yX3_isWord, .selects RX3 yX3_isWord yX3_isWord, .code yX3_isWord cX3_isWord 2 (some .boolean), .fieldLink RX4 24 "DiscCoder$Writer" "innerWords" "[[I"] ++ wsX40 ++ wsX30)
def wsX4_makeOuter : List Cond := .code yX4_makeOuter cX4_makeOuter 3 none :: ([.fieldLink RX4 19 "DiscCoder$Writer" "outer" "LDiscCoder$Word;", .fieldLink RX4 24 "DiscCoder$Writer" "innerWords" "[[I", .methodLink RX4 54 yX3_makeChecks, .instanceMethod yX3_makeChecks, .selects RX3 yX3_makeChecks yX3_makeChecks, .initialized RX3, .code yX3_makeChecks cX3_makeChecks 2 none, .fieldLink RX3 9 "DiscCoder$Word" "size" "I", .fieldLink RX3 19 "DiscCoder$Word" "doubted" "[Z", .methodLink RX3 44 yX3_fillDoubted, .instanceMethod yX3_fillDoubted, .selects RX3 yX3_fillDoubted yX3_fillDoubted, .code yX3_fillDoubted cX3_fillDoubted 3 (some .boolean), .methodLink RX3 58 yX3_countDoubted, .instanceMethod yX3_countDoubted, .selects RX3 yX3_countDoubted yX3_countDoubted, .code yX3_countDoubted cX3_countDoubted 3 (some .int), .methodLink RX3 62 yX3_listDoubted, .instanceMethod yX3_listDoubted, .selects RX3 yX3_listDoubted yX3_listDoubted, .code yX3_listDoubted cX3_listDoubted 3 none, .fieldLink RX3 29 "DiscCoder$Word" "doubtedAt" "[I", .methodLink RX3 48 yX3_makeSums, .instanceMethod yX3_makeSums, .selects RX3 yX3_makeSums yX3_makeSums, .code yX3_makeSums cX3_makeSums 5 none, .methodLink RX3 38 yX1_times, .static yX1_times, .initialized RX1, .code yX1_times cX1_times 5 (some .int), .fieldLink RX3 15 "DiscCoder$Word" "symbols" "[I", .fieldLink RX3 26 "DiscCoder$Word" "sums" "[I", .fieldLink RX3 32 "DiscCoder$Word" "changes" "[I", .methodLink RX3 65 yX3_changeAt, .instanceMethod yX3_changeAt, .selects RX3 yX3_changeAt yX3_changeAt, .code yX3_changeAt cX3_changeAt 7 (some .int), .fieldLink RX3 23 "DiscCoder$Word" "locators" "[I", .methodLink RX3 72 yX3_startWeights, .instanceMethod yX3_startWeights, .selects RX3 yX3_startWeights yX3_startWeights, .code yX3_startWeights cX3_startWeights 2 none, .fieldLink RX3 35 "DiscCoder$Word" "weights" "[I", .methodLink RX3 75 yX3_addRoot, .instanceMethod yX3_addRoot, .selects RX3 yX3_addRoot yX3_addRoot, .code yX3_addRoot cX3_addRoot 3 none, .methodLink RX3 78 yX3_weightedSums, .instanceMethod yX3_weightedSums, .selects RX3 yX3_weightedSums yX3_weightedSums, .code yX3_weightedSums cX3_weightedSums 3 (some .int), .methodLink RX3 81 yX1_inverse, .static yX1_inverse, .code yX1_inverse cX1_inverse 4 (some .int), .methodLink RX1 11 yX1_times, .methodLink RX3 68 yX3_addChanges, .instanceMethod yX3_addChanges, .selects RX3 yX3_addChanges yX3_addChanges, .code yX3_addChanges cX3_addChanges 3 none, .methodLink RX3 51 yX3_isWord, .instanceMethod yX3_isWord, .selects RX3 yX3_isWord yX3_isWord, .code yX3_isWord cX3_isWord 2 (some .boolean)] ++ wsX40 ++ wsX30)
def wsX4_writeRow : List Cond := .code yX4_writeRow cX4_writeRow 3 none :: ([.fieldLink RX4 9 "DiscCoder$Writer" "disc" "LDiscCoder$Disc;", .fieldLink RX4 19 "DiscCoder$Writer" "outer" "LDiscCoder$Word;", .fieldLink RX4 27 "DiscCoder$Writer" "outerBefore" "[I", .methodLink RX4 60 yX0_setPlain, .instanceMethod yX0_setPlain, .selects RX0 yX0_setPlain yX0_setPlain, .initialized RX0, .code yX0_setPlain cX0_setPlain 4 none, .fieldLink RX0 9 "DiscCoder$Disc" "symbols" "[I", .methodLink RX0 19 yX0_turned, .static yX0_turned, .code yX0_turned cX0_turned 2 (some .int)] ++ wsX40 ++ wsX30 ++ wsX00)
set_option maxRecDepth 20000 in
theorem ggX4_writeFrame_X4_makeInner : GoodIn wsX4_writeFrame wsX4_makeInner := goodIn_r _ [6, 7, 8, 9, 10, 11, 12, 13, 14, 15, 16, 17, 18, 19, 20, 21, 22, 23, 24, 25, 26, 27, 28, 29, 30, 31, 32, 33, 34, 35, 36, 37, 38, 39, 40, 41, 42, 43, 44, 45, 46, 47, 48, 49, 50, 51, 52, 53, 54, 55, 56, 57, 58, 59, 60, 61, 62, 63, 64, 65, 66, 67, 68, 69, 70, 71, 72, 73, 93, 94, 95, 96, 97, 101, 102, 103, 104, 105, 106, 107, 108] (by decide +kernel) (by decide +kernel)
theorem gX4_writeFrame_X4_makeInner : GoodIn wsX4_writeFrame (wsV RX4 37 RX4 yX4_makeInner wsX4_makeInner) := goodIn_app (goodIn_of _ (by decide +kernel)) ggX4_writeFrame_X4_makeInner
set_option maxRecDepth 20000 in
theorem ggX4_writeFrame_X4_makeOuter : GoodIn wsX4_writeFrame wsX4_makeOuter := goodIn_r _ [77, 78, 73, 14, 15, 16, 11, 17, 18, 19, 20, 21, 22, 23, 24, 25, 26, 27, 28, 29, 30, 31, 32, 33, 34, 35, 36, 37, 38, 39, 40, 13, 41, 42, 43, 44, 45, 46, 47, 48, 49, 50, 51, 52, 53, 54, 55, 56, 57, 58, 59, 60, 61, 62, 63, 64, 65, 66, 67, 68, 69, 70, 71, 72, 93, 94, 95, 96, 97, 101, 102, 103, 104, 105, 106, 107, 108] (by decide +kernel) (by decide +kernel)
theorem gX4_writeFrame_X4_makeOuter : GoodIn wsX4_writeFrame (wsV RX4 41 RX4 yX4_makeOuter wsX4_makeOuter) := goodIn_app (goodIn_of _ (by decide +kernel)) ggX4_writeFrame_X4_makeOuter
set_option maxRecDepth 20000 in
theorem ggX4_writeFrame_X4_writeRow : GoodIn wsX4_writeFrame wsX4_writeRow := goodIn_r _ [82, 1, 78, 83, 84, 85, 86, 87, 88, 89, 90, 91, 92, 93, 94, 95, 96, 97, 101, 102, 103, 104, 105, 106, 107, 108, 98, 99, 100] (by decide +kernel) (by decide +kernel)
theorem gX4_writeFrame_X4_writeRow : GoodIn wsX4_writeFrame (wsV RX4 45 RX4 yX4_writeRow wsX4_writeRow) := goodIn_app (goodIn_of _ (by decide +kernel)) ggX4_writeFrame_X4_writeRow
set_option maxRecDepth 20000 in
theorem ggX4_makeInner_X3_beginWith : GoodIn wsX4_makeInner wsX3_beginWith := goodIn_r _ [6, 7, 73, 74, 75, 76, 77, 78, 79, 80] (by decide +kernel) (by decide +kernel)
theorem gX4_makeInner_X3_beginWith : GoodIn wsX4_makeInner (wsV RX4 48 RX3 yX3_beginWith wsX3_beginWith) := goodIn_app (goodIn_of _ (by decide +kernel)) ggX4_makeInner_X3_beginWith
set_option maxRecDepth 20000 in
theorem ggX4_makeInner_X3_makeChecks : GoodIn wsX4_makeInner wsX3_makeChecks := goodIn_r _ [11, 12, 13, 14, 15, 16, 5, 17, 18, 19, 20, 21, 22, 23, 24, 25, 26, 27, 28, 29, 30, 31, 32, 33, 34, 7, 35, 36, 37, 38, 39, 40, 41, 42, 43, 44, 45, 46, 47, 48, 49, 50, 51, 52, 53, 54, 55, 56, 57, 58, 59, 60, 61, 62, 63, 64, 65, 66, 73, 74, 75, 76, 77, 78, 79, 80] (by decide +kernel) (by decide +kernel)
theorem gX4_makeInner_X3_makeChecks : GoodIn wsX4_makeInner (wsV RX4 54 RX3 yX3_makeChecks wsX3_makeChecks) := goodIn_app (goodIn_of _ (by decide +kernel)) ggX4_makeInner_X3_makeChecks
set_option maxRecDepth 20000 in
theorem ggX4_makeOuter_X3_makeChecks : GoodIn wsX4_makeOuter wsX3_makeChecks := goodIn_r _ [7, 8, 9, 10, 11, 12, 6, 13, 14, 15, 16, 17, 18, 19, 20, 21, 22, 23, 24, 25, 26, 27, 28, 29, 30, 31, 32, 33, 34, 35, 36, 37, 38, 39, 40, 41, 42, 43, 44, 45, 46, 47, 48, 49, 50, 51, 52, 53, 54, 55, 56, 57, 58, 59, 60, 61, 62, 63, 69, 70, 71, 72, 73, 74, 75, 76] (by decide +kernel) (by decide +kernel)
theorem gX4_makeOuter_X3_makeChecks : GoodIn wsX4_makeOuter (wsV RX4 54 RX3 yX3_makeChecks wsX3_makeChecks) := goodIn_app (goodIn_of _ (by decide +kernel)) ggX4_makeOuter_X3_makeChecks
set_option maxRecDepth 20000 in
theorem ggX4_writeRow_X0_setPlain : GoodIn wsX4_writeRow wsX0_setPlain := goodIn_r _ [8, 9, 10, 11, 7, 12, 26, 27, 28] (by decide +kernel) (by decide +kernel)
theorem gX4_writeRow_X0_setPlain : GoodIn wsX4_writeRow (wsV RX4 60 RX0 yX0_setPlain wsX0_setPlain) := goodIn_app (goodIn_of _ (by decide +kernel)) ggX4_writeRow_X0_setPlain
theorem dX4_init_0 : decode cX4_init 0 = .ok (.aload_n 0, 1) := by decide +kernel
theorem dX4_init_1 : decode cX4_init 1 = .ok (.invokespecial 3, 3) := by decide +kernel
theorem dX4_init_4 : decode cX4_init 4 = .ok (.aload_n 0, 1) := by decide +kernel
theorem dX4_init_5 : decode cX4_init 5 = .ok (.aload_n 1, 1) := by decide +kernel
theorem dX4_init_6 : decode cX4_init 6 = .ok (.putfield 9, 3) := by decide +kernel
theorem dX4_init_9 : decode cX4_init 9 = .ok (.aload_n 0, 1) := by decide +kernel
theorem dX4_init_10 : decode cX4_init 10 = .ok (.aload_n 2, 1) := by decide +kernel
theorem dX4_init_11 : decode cX4_init 11 = .ok (.putfield 15, 3) := by decide +kernel
theorem dX4_init_14 : decode cX4_init 14 = .ok (.aload_n 0, 1) := by decide +kernel
theorem dX4_init_15 : decode cX4_init 15 = .ok (.aload_n 3, 1) := by decide +kernel
theorem dX4_init_16 : decode cX4_init 16 = .ok (.putfield 19, 3) := by decide +kernel
theorem dX4_init_19 : decode cX4_init 19 = .ok (.aload_n 0, 1) := by decide +kernel
theorem dX4_init_20 : decode cX4_init 20 = .ok (.bipush 48, 2) := by decide +kernel
theorem dX4_init_22 : decode cX4_init 22 = .ok (.bipush 12, 2) := by decide +kernel
theorem dX4_init_24 : decode cX4_init 24 = .ok (.multianewarray 22 2, 4) := by decide +kernel
theorem dX4_init_28 : decode cX4_init 28 = .ok (.putfield 24, 3) := by decide +kernel
theorem dX4_init_31 : decode cX4_init 31 = .ok (.aload_n 0, 1) := by decide +kernel
theorem dX4_init_32 : decode cX4_init 32 = .ok (.bipush 16, 2) := by decide +kernel
theorem dX4_init_34 : decode cX4_init 34 = .ok (.newarray .int, 2) := by decide +kernel
theorem dX4_init_36 : decode cX4_init 36 = .ok (.putfield 27, 3) := by decide +kernel
theorem dX4_init_39 : decode cX4_init 39 = .ok (.return_, 1) := by decide +kernel
theorem dX4_writeFrame_0 : decode cX4_writeFrame 0 = .ok (.aload_n 0, 1) := by decide +kernel
theorem dX4_writeFrame_1 : decode cX4_writeFrame 1 = .ok (.getfield 9, 3) := by decide +kernel
theorem dX4_writeFrame_4 : decode cX4_writeFrame 4 = .ok (.getfield 31, 3) := by decide +kernel
theorem dX4_writeFrame_7 : decode cX4_writeFrame 7 = .ok (.istore_n 3, 1) := by decide +kernel
theorem dX4_writeFrame_8 : decode cX4_writeFrame 8 = .ok (.aload_n 0, 1) := by decide +kernel
theorem dX4_writeFrame_9 : decode cX4_writeFrame 9 = .ok (.iload_n 3, 1) := by decide +kernel
theorem dX4_writeFrame_10 : decode cX4_writeFrame 10 = .ok (.lload_n 1, 1) := by decide +kernel
theorem dX4_writeFrame_11 : decode cX4_writeFrame 11 = .ok (.invokevirtual 37, 3) := by decide +kernel
theorem dX4_writeFrame_14 : decode cX4_writeFrame 14 = .ok (.aload_n 0, 1) := by decide +kernel
theorem dX4_writeFrame_15 : decode cX4_writeFrame 15 = .ok (.iload_n 3, 1) := by decide +kernel
theorem dX4_writeFrame_16 : decode cX4_writeFrame 16 = .ok (.invokevirtual 41, 3) := by decide +kernel
theorem dX4_writeFrame_19 : decode cX4_writeFrame 19 = .ok (.aload_n 0, 1) := by decide +kernel
theorem dX4_writeFrame_20 : decode cX4_writeFrame 20 = .ok (.iload_n 3, 1) := by decide +kernel
theorem dX4_writeFrame_21 : decode cX4_writeFrame 21 = .ok (.invokevirtual 45, 3) := by decide +kernel
theorem dX4_writeFrame_24 : decode cX4_writeFrame 24 = .ok (.aload_n 0, 1) := by decide +kernel
theorem dX4_writeFrame_25 : decode cX4_writeFrame 25 = .ok (.getfield 9, 3) := by decide +kernel
theorem dX4_writeFrame_28 : decode cX4_writeFrame 28 = .ok (.dup, 1) := by decide +kernel
theorem dX4_writeFrame_29 : decode cX4_writeFrame 29 = .ok (.getfield 31, 3) := by decide +kernel
theorem dX4_writeFrame_32 : decode cX4_writeFrame 32 = .ok (.iconst 1, 1) := by decide +kernel
theorem dX4_writeFrame_33 : decode cX4_writeFrame 33 = .ok (.iadd, 1) := by decide +kernel
theorem dX4_writeFrame_34 : decode cX4_writeFrame 34 = .ok (.putfield 31, 3) := by decide +kernel
theorem dX4_writeFrame_37 : decode cX4_writeFrame 37 = .ok (.iload_n 3, 1) := by decide +kernel
theorem dX4_writeFrame_38 : decode cX4_writeFrame 38 = .ok (.ireturn, 1) := by decide +kernel
theorem dX4_makeInner_0 : decode cX4_makeInner 0 = .ok (.aload_n 0, 1) := by decide +kernel
theorem dX4_makeInner_1 : decode cX4_makeInner 1 = .ok (.getfield 15, 3) := by decide +kernel
theorem dX4_makeInner_4 : decode cX4_makeInner 4 = .ok (.lload_n 2, 1) := by decide +kernel
theorem dX4_makeInner_5 : decode cX4_makeInner 5 = .ok (.invokevirtual 48, 3) := by decide +kernel
theorem dX4_makeInner_8 : decode cX4_makeInner 8 = .ok (.aload_n 0, 1) := by decide +kernel
theorem dX4_makeInner_9 : decode cX4_makeInner 9 = .ok (.getfield 15, 3) := by decide +kernel
theorem dX4_makeInner_12 : decode cX4_makeInner 12 = .ok (.invokevirtual 54, 3) := by decide +kernel
theorem dX4_makeInner_15 : decode cX4_makeInner 15 = .ok (.iconst 0, 1) := by decide +kernel
theorem dX4_makeInner_16 : decode cX4_makeInner 16 = .ok (.istore 4, 2) := by decide +kernel
theorem dX4_makeInner_18 : decode cX4_makeInner 18 = .ok (.iload 4, 2) := by decide +kernel
theorem dX4_makeInner_20 : decode cX4_makeInner 20 = .ok (.bipush 12, 2) := by decide +kernel
theorem dX4_makeInner_22 : decode cX4_makeInner 22 = .ok (.if_icmp .ge 28, 3) := by decide +kernel
theorem dX4_makeInner_25 : decode cX4_makeInner 25 = .ok (.aload_n 0, 1) := by decide +kernel
theorem dX4_makeInner_26 : decode cX4_makeInner 26 = .ok (.getfield 24, 3) := by decide +kernel
theorem dX4_makeInner_29 : decode cX4_makeInner 29 = .ok (.iload_n 1, 1) := by decide +kernel
theorem dX4_makeInner_30 : decode cX4_makeInner 30 = .ok (.aaload, 1) := by decide +kernel
theorem dX4_makeInner_31 : decode cX4_makeInner 31 = .ok (.iload 4, 2) := by decide +kernel
theorem dX4_makeInner_33 : decode cX4_makeInner 33 = .ok (.aload_n 0, 1) := by decide +kernel
theorem dX4_makeInner_34 : decode cX4_makeInner 34 = .ok (.getfield 15, 3) := by decide +kernel
theorem dX4_makeInner_37 : decode cX4_makeInner 37 = .ok (.getfield 57, 3) := by decide +kernel
theorem dX4_makeInner_40 : decode cX4_makeInner 40 = .ok (.iload 4, 2) := by decide +kernel
theorem dX4_makeInner_42 : decode cX4_makeInner 42 = .ok (.iaload, 1) := by decide +kernel
theorem dX4_makeInner_43 : decode cX4_makeInner 43 = .ok (.iastore, 1) := by decide +kernel
theorem dX4_makeInner_44 : decode cX4_makeInner 44 = .ok (.iinc 4 1, 3) := by decide +kernel
theorem dX4_makeInner_47 : decode cX4_makeInner 47 = .ok (.goto (-29), 3) := by decide +kernel
theorem dX4_makeInner_50 : decode cX4_makeInner 50 = .ok (.return_, 1) := by decide +kernel
theorem dX4_makeOuter_0 : decode cX4_makeOuter 0 = .ok (.iconst 0, 1) := by decide +kernel
theorem dX4_makeOuter_1 : decode cX4_makeOuter 1 = .ok (.istore_n 2, 1) := by decide +kernel
theorem dX4_makeOuter_2 : decode cX4_makeOuter 2 = .ok (.iload_n 2, 1) := by decide +kernel
theorem dX4_makeOuter_3 : decode cX4_makeOuter 3 = .ok (.bipush 12, 2) := by decide +kernel
theorem dX4_makeOuter_5 : decode cX4_makeOuter 5 = .ok (.if_icmp .ge 37, 3) := by decide +kernel
theorem dX4_makeOuter_8 : decode cX4_makeOuter 8 = .ok (.aload_n 0, 1) := by decide +kernel
theorem dX4_makeOuter_9 : decode cX4_makeOuter 9 = .ok (.getfield 19, 3) := by decide +kernel
theorem dX4_makeOuter_12 : decode cX4_makeOuter 12 = .ok (.getfield 57, 3) := by decide +kernel
theorem dX4_makeOuter_15 : decode cX4_makeOuter 15 = .ok (.iload_n 2, 1) := by decide +kernel
theorem dX4_makeOuter_16 : decode cX4_makeOuter 16 = .ok (.iload_n 1, 1) := by decide +kernel
theorem dX4_makeOuter_17 : decode cX4_makeOuter 17 = .ok (.iload_n 2, 1) := by decide +kernel
theorem dX4_makeOuter_18 : decode cX4_makeOuter 18 = .ok (.if_icmp .lt 16, 3) := by decide +kernel
theorem dX4_makeOuter_21 : decode cX4_makeOuter 21 = .ok (.aload_n 0, 1) := by decide +kernel
theorem dX4_makeOuter_22 : decode cX4_makeOuter 22 = .ok (.getfield 24, 3) := by decide +kernel
theorem dX4_makeOuter_25 : decode cX4_makeOuter 25 = .ok (.iload_n 1, 1) := by decide +kernel
theorem dX4_makeOuter_26 : decode cX4_makeOuter 26 = .ok (.iload_n 2, 1) := by decide +kernel
theorem dX4_makeOuter_27 : decode cX4_makeOuter 27 = .ok (.isub, 1) := by decide +kernel
theorem dX4_makeOuter_28 : decode cX4_makeOuter 28 = .ok (.aaload, 1) := by decide +kernel
theorem dX4_makeOuter_29 : decode cX4_makeOuter 29 = .ok (.iload_n 2, 1) := by decide +kernel
theorem dX4_makeOuter_30 : decode cX4_makeOuter 30 = .ok (.iaload, 1) := by decide +kernel
theorem dX4_makeOuter_31 : decode cX4_makeOuter 31 = .ok (.goto 4, 3) := by decide +kernel
theorem dX4_makeOuter_34 : decode cX4_makeOuter 34 = .ok (.iconst 0, 1) := by decide +kernel
theorem dX4_makeOuter_35 : decode cX4_makeOuter 35 = .ok (.iastore, 1) := by decide +kernel
theorem dX4_makeOuter_36 : decode cX4_makeOuter 36 = .ok (.iinc 2 1, 3) := by decide +kernel
theorem dX4_makeOuter_39 : decode cX4_makeOuter 39 = .ok (.goto (-37), 3) := by decide +kernel
theorem dX4_makeOuter_42 : decode cX4_makeOuter 42 = .ok (.aload_n 0, 1) := by decide +kernel
theorem dX4_makeOuter_43 : decode cX4_makeOuter 43 = .ok (.getfield 19, 3) := by decide +kernel
theorem dX4_makeOuter_46 : decode cX4_makeOuter 46 = .ok (.invokevirtual 54, 3) := by decide +kernel
theorem dX4_makeOuter_49 : decode cX4_makeOuter 49 = .ok (.return_, 1) := by decide +kernel
theorem dX4_writeRow_0 : decode cX4_writeRow 0 = .ok (.iconst 0, 1) := by decide +kernel
theorem dX4_writeRow_1 : decode cX4_writeRow 1 = .ok (.istore_n 2, 1) := by decide +kernel
theorem dX4_writeRow_2 : decode cX4_writeRow 2 = .ok (.iload_n 2, 1) := by decide +kernel
theorem dX4_writeRow_3 : decode cX4_writeRow 3 = .ok (.bipush 16, 2) := by decide +kernel
theorem dX4_writeRow_5 : decode cX4_writeRow 5 = .ok (.if_icmp .ge 57, 3) := by decide +kernel
theorem dX4_writeRow_8 : decode cX4_writeRow 8 = .ok (.aload_n 0, 1) := by decide +kernel
theorem dX4_writeRow_9 : decode cX4_writeRow 9 = .ok (.getfield 9, 3) := by decide +kernel
theorem dX4_writeRow_12 : decode cX4_writeRow 12 = .ok (.iload_n 1, 1) := by decide +kernel
theorem dX4_writeRow_13 : decode cX4_writeRow 13 = .ok (.iload_n 2, 1) := by decide +kernel
theorem dX4_writeRow_14 : decode cX4_writeRow 14 = .ok (.iload_n 2, 1) := by decide +kernel
theorem dX4_writeRow_15 : decode cX4_writeRow 15 = .ok (.iconst 2, 1) := by decide +kernel
theorem dX4_writeRow_16 : decode cX4_writeRow 16 = .ok (.irem, 1) := by decide +kernel
theorem dX4_writeRow_17 : decode cX4_writeRow 17 = .ok (.ifCond .ne 15, 3) := by decide +kernel
theorem dX4_writeRow_20 : decode cX4_writeRow 20 = .ok (.aload_n 0, 1) := by decide +kernel
theorem dX4_writeRow_21 : decode cX4_writeRow 21 = .ok (.getfield 19, 3) := by decide +kernel
theorem dX4_writeRow_24 : decode cX4_writeRow 24 = .ok (.getfield 57, 3) := by decide +kernel
theorem dX4_writeRow_27 : decode cX4_writeRow 27 = .ok (.iload_n 2, 1) := by decide +kernel
theorem dX4_writeRow_28 : decode cX4_writeRow 28 = .ok (.iaload, 1) := by decide +kernel
theorem dX4_writeRow_29 : decode cX4_writeRow 29 = .ok (.goto 9, 3) := by decide +kernel
theorem dX4_writeRow_32 : decode cX4_writeRow 32 = .ok (.aload_n 0, 1) := by decide +kernel
theorem dX4_writeRow_33 : decode cX4_writeRow 33 = .ok (.getfield 27, 3) := by decide +kernel
theorem dX4_writeRow_36 : decode cX4_writeRow 36 = .ok (.iload_n 2, 1) := by decide +kernel
theorem dX4_writeRow_37 : decode cX4_writeRow 37 = .ok (.iaload, 1) := by decide +kernel
theorem dX4_writeRow_38 : decode cX4_writeRow 38 = .ok (.invokevirtual 60, 3) := by decide +kernel
theorem dX4_writeRow_41 : decode cX4_writeRow 41 = .ok (.aload_n 0, 1) := by decide +kernel
theorem dX4_writeRow_42 : decode cX4_writeRow 42 = .ok (.getfield 27, 3) := by decide +kernel
theorem dX4_writeRow_45 : decode cX4_writeRow 45 = .ok (.iload_n 2, 1) := by decide +kernel
theorem dX4_writeRow_46 : decode cX4_writeRow 46 = .ok (.aload_n 0, 1) := by decide +kernel
theorem dX4_writeRow_47 : decode cX4_writeRow 47 = .ok (.getfield 19, 3) := by decide +kernel
theorem dX4_writeRow_50 : decode cX4_writeRow 50 = .ok (.getfield 57, 3) := by decide +kernel
theorem dX4_writeRow_53 : decode cX4_writeRow 53 = .ok (.iload_n 2, 1) := by decide +kernel
theorem dX4_writeRow_54 : decode cX4_writeRow 54 = .ok (.iaload, 1) := by decide +kernel
theorem dX4_writeRow_55 : decode cX4_writeRow 55 = .ok (.iastore, 1) := by decide +kernel
theorem dX4_writeRow_56 : decode cX4_writeRow 56 = .ok (.iinc 2 1, 3) := by decide +kernel
theorem dX4_writeRow_59 : decode cX4_writeRow 59 = .ok (.goto (-57), 3) := by decide +kernel
theorem dX4_writeRow_62 : decode cX4_writeRow 62 = .ok (.return_, 1) := by decide +kernel
def wsX2_init : List Cond := .code yX2_init cX2_init 4 none :: ([.methodLink RX2 3 objectInit, .instanceMethod objectInit, .code objectInit ⟨#[0xb1]⟩ 1 none, .fieldLink RX2 9 "DiscCoder$Reader" "disc" "LDiscCoder$Disc;", .fieldLink RX2 15 "DiscCoder$Reader" "inner" "LDiscCoder$Word;", .fieldLink RX2 19 "DiscCoder$Reader" "outer" "LDiscCoder$Word;", .fieldLink RX2 24 "DiscCoder$Reader" "outerWords" "[[I", .arrayClass .boolean, .fieldLink RX2 27 "DiscCoder$Reader" "outerDoubted" "[Z", .arrayClass .int, .fieldLink RX2 31 "DiscCoder$Reader" "output" "[I", .fieldLink RX2 35 "DiscCoder$Reader" "lost" "[Z"] ++ wsX20)
def wsX2_readRow : List Cond := .code yX2_readRow cX2_readRow 2 (some .boolean) :: ([.fieldLink RX2 9 "DiscCoder$Reader" "disc" "LDiscCoder$Disc;", .methodLink RX2 44 yX2_gatherOuter, .instanceMethod yX2_gatherOuter, .selects RX2 yX2_gatherOuter yX2_gatherOuter, .initialized RX2, .code yX2_gatherOuter cX2_gatherOuter 3 none, .fieldLink RX2 19 "DiscCoder$Reader" "outer" "LDiscCoder$Word;", .methodLink RX2 62 yX0_getPlain, .instanceMethod yX0_getPlain, .selects RX0 yX0_getPlain yX0_getPlain, .initialized RX0, .code yX0_getPlain cX0_getPlain 3 (some .int), .methodLink RX0 23 yX0_has, .instanceMethod yX0_has, .selects RX0 yX0_has yX0_has, .code yX0_has cX0_has 3 (some .boolean), .fieldLink RX0 15 "DiscCoder$Disc" "rowsWritten" "I", .fieldLink RX0 9 "DiscCoder$Disc" "symbols" "[I", .methodLink RX0 19 yX0_turned, .static yX0_turned, .code yX0_turned cX0_turned 2 (some .int), .methodLink RX2 48 yX2_rightOuter, .instanceMethod yX2_rightOuter, .selects RX2 yX2_rightOuter yX2_rightOuter, .code yX2_rightOuter cX2_rightOuter 3 none, .methodLink RX2 66 yX3_mendOne, .instanceMethod yX3_mendOne, .selects RX3 yX3_mendOne yX3_mendOne, .initialized RX3, .code yX3_mendOne cX3_mendOne 2 (some .boolean), .methodLink RX3 51 yX3_isWord, .instanceMethod yX3_isWord, .selects RX3 yX3_isWord yX3_isWord, .code yX3_isWord cX3_isWord 2 (some .boolean), .methodLink RX3 48 yX3_makeSums, .instanceMethod yX3_makeSums, .selects RX3 yX3_makeSums yX3_makeSums, .code yX3_makeSums cX3_makeSums 5 none, .fieldLink RX3 9 "DiscCoder$Word" "size" "I", .methodLink RX3 38 yX1_times, .static yX1_times, .initialized RX1, .code yX1_times cX1_times 5 (some .int), .fieldLink RX3 15 "DiscCoder$Word" "symbols" "[I", .fieldLink RX3 26 "DiscCoder$Word" "sums" "[I", .methodLink RX3 54 yX3_isOnlyFault, .instanceMethod yX3_isOnlyFault, .selects RX3 yX3_isOnlyFault yX3_isOnlyFault, .code yX3_isOnlyFault cX3_isOnlyFault 4 (some .boolean), .fieldLink RX3 23 "DiscCoder$Word" "locators" "[I", .fieldLink RX2 70 "DiscCoder$Reader" "wordsMended" "I", .methodLink RX2 73 yX3_isWord, .fieldLink RX2 27 "DiscCoder$Reader" "outerDoubted" "[Z", .fieldLink RX2 76 "DiscCoder$Reader" "wordsDoubted" "I", .fieldLink RX2 24 "DiscCoder$Reader" "outerWords" "[[I", .methodLink RX2 51 yX2_gatherInner, .instanceMethod yX2_gatherInner, .selects RX2 yX2_gatherInner yX2_gatherInner, .code yX2_gatherInner cX2_gatherInner 4 none, .fieldLink RX2 15 "DiscCoder$Reader" "inner" "LDiscCoder$Word;", .methodLink RX2 54 yX2_rightInner, .instanceMethod yX2_rightInner, .selects RX2 yX2_rightInner yX2_rightInner, .code yX2_rightInner cX2_rightInner 3 none, .methodLink RX2 82 yX3_fillDoubted, .instanceMethod yX3_fillDoubted, .selects RX3 yX3_fillDoubted yX3_fillDoubted, .code yX3_fillDoubted cX3_fillDoubted 3 (some .boolean), .methodLink RX3 58 yX3_countDoubted, .instanceMethod yX3_countDoubted, .selects RX3 yX3_countDoubted yX3_countDoubted, .code yX3_countDoubted cX3_countDoubted 3 (some .int), .fieldLink RX3 19 "DiscCoder$Word" "doubted" "[Z", .methodLink RX3 62 yX3_listDoubted, .instanceMethod yX3_listDoubted, .selects RX3 yX3_listDoubted yX3_listDoubted, .code yX3_listDoubted cX3_listDoubted 3 none, .fieldLink RX3 29 "DiscCoder$Word" "doubtedAt" "[I", .fieldLink RX3 32 "DiscCoder$Word" "changes" "[I", .methodLink RX3 65 yX3_changeAt, .instanceMethod yX3_changeAt, .selects RX3 yX3_changeAt yX3_changeAt, .code yX3_changeAt cX3_changeAt 7 (some .int), .methodLink RX3 72 yX3_startWeights, .instanceMethod yX3_startWeights, .selects RX3 yX3_startWeights yX3_startWeights, .code yX3_startWeights cX3_startWeights 2 none, .fieldLink RX3 35 "DiscCoder$Word" "weights" "[I", .methodLink RX3 75 yX3_addRoot, .instanceMethod yX3_addRoot, .selects RX3 yX3_addRoot yX3_addRoot, .code yX3_addRoot cX3_addRoot 3 none, .methodLink RX3 78 yX3_weightedSums, .instanceMethod yX3_weightedSums, .selects RX3 yX3_weightedSums yX3_weightedSums, .code yX3_weightedSums cX3_weightedSums 3 (some .int), .methodLink RX3 81 yX1_inverse, .static yX1_inverse, .code yX1_inverse cX1_inverse 4 (some .int), .methodLink RX1 11 yX1_times, .methodLink RX3 68 yX3_addChanges, .instanceMethod yX3_addChanges, .selects RX3 yX3_addChanges yX3_addChanges, .code yX3_addChanges cX3_addChanges 3 none, .fieldLink RX2 85 "DiscCoder$Reader" "symbolsFilled" "I", .methodLink RX2 88 yX3_countDoubted, .fieldLink RX2 35 "DiscCoder$Reader" "lost" "[Z", .fieldLink RX2 92 "DiscCoder$Reader" "wordsLost" "I", .fieldLink RX2 31 "DiscCoder$Reader" "output" "[I"] ++ wsX20 ++ wsX00 ++ wsX30)
def wsX2_gatherOuter : List Cond := .code yX2_gatherOuter cX2_gatherOuter 3 none :: ([.fieldLink RX2 19 "DiscCoder$Reader" "outer" "LDiscCoder$Word;", .fieldLink RX2 9 "DiscCoder$Reader" "disc" "LDiscCoder$Disc;", .methodLink RX2 62 yX0_getPlain, .instanceMethod yX0_getPlain, .selects RX0 yX0_getPlain yX0_getPlain, .initialized RX0, .code yX0_getPlain cX0_getPlain 3 (some .int), .methodLink RX0 23 yX0_has, .instanceMethod yX0_has, .selects RX0 yX0_has yX0_has, .code yX0_has cX0_has 3 (some .boolean), .fieldLink RX0 15 "DiscCoder$Disc" "rowsWritten" "I", .fieldLink RX0 9 "DiscCoder$Disc" "symbols" "[I", .methodLink RX0 19 yX0_turned, .static yX0_turned, .code yX0_turned cX0_turned 2 (some .int)] ++ wsX20 ++ wsX30 ++ wsX00)
def wsX2_rightOuter : List Cond := .code yX2_rightOuter cX2_rightOuter 3 none :: ([.fieldLink RX2 19 "DiscCoder$Reader" "outer" "LDiscCoder$Word;", .methodLink RX2 66 yX3_mendOne, .instanceMethod yX3_mendOne, .selects RX3 yX3_mendOne yX3_mendOne, .initialized RX3, .code yX3_mendOne cX3_mendOne 2 (some .boolean), .methodLink RX3 51 yX3_isWord, .instanceMethod yX3_isWord, .selects RX3 yX3_isWord yX3_isWord, .code yX3_isWord cX3_isWord 2 (some .boolean), .methodLink RX3 48 yX3_makeSums, .instanceMethod yX3_makeSums, .selects RX3 yX3_makeSums yX3_makeSums, .code yX3_makeSums cX3_makeSums 5 none, .fieldLink RX3 9 "DiscCoder$Word" "size" "I", .methodLink RX3 38 yX1_times, .static yX1_times, .initialized RX1, .code yX1_times cX1_times 5 (some .int), .fieldLink RX3 15 "DiscCoder$Word" "symbols" "[I", .fieldLink RX3 26 "DiscCoder$Word" "sums" "[I", .methodLink RX3 54 yX3_isOnlyFault, .instanceMethod yX3_isOnlyFault, .selects RX3 yX3_isOnlyFault yX3_isOnlyFault, .code yX3_isOnlyFault cX3_isOnlyFault 4 (some .boolean), .fieldLink RX3 23 "DiscCoder$Word" "locators" "[I", .fieldLink RX2 70 "DiscCoder$Reader" "wordsMended" "I", .methodLink RX2 73 yX3_isWord, .fieldLink RX2 27 "DiscCoder$Reader" "outerDoubted" "[Z", .fieldLink RX2 76 "DiscCoder$Reader" "wordsDoubted" "I", .fieldLink RX2 24 "DiscCoder$Reader" "outerWords" "[[I"] ++ wsX20 ++ wsX30)
def wsX2_gatherInner : List Cond := .code yX2_gatherInner cX2_gatherInner 4 none :: ([.fieldLink RX2 15 "DiscCoder$Reader" "inner" "LDiscCoder$Word;", .fieldLink RX2 24 "DiscCoder$Reader" "outerWords" "[[I", .fieldLink RX2 27 "DiscCoder$Reader" "outerDoubted" "[Z"] ++ wsX20 ++ wsX30)
def wsX2_rightInner : List Cond := .code yX2_rightInner cX2_rightInner 3 none :: ([.fieldLink RX2 15 "DiscCoder$Reader" "inner" "LDiscCoder$Word;", .methodLink RX2 82 yX3_fillDoubted, .instanceMethod yX3_fillDoubted, .selects RX3 yX3_fillDoubted yX3_fillDoubted, .initialized RX3, .code yX3_fillDoubted cX3_fillDoubted 3 (some .boolean), .methodLink RX3 58 yX3_countDoubted, .instanceMethod yX3_countDoubted, .selects RX3 yX3_countDoubted yX3_countDoubted, .code yX3_countDoubted cX3_countDoubted 3 (some .int), .fieldLink RX3 9 "DiscCoder$Word" "size" "I", .fieldLink RX3 19 "DiscCoder$Word" "doubted" "[Z", .methodLink RX3 62 yX3_listDoubted, .instanceMethod yX3_listDoubted, .selects RX3 yX3_listDoubted yX3_listDoubted, .code yX3_listDoubted cX3_listDoubted 3 none, .fieldLink RX3 29 "DiscCoder$Word" "doubtedAt" "[I", .methodLink RX3 48 yX3_makeSums, .instanceMethod yX3_makeSums, .selects RX3 yX3_makeSums yX3_makeSums, .code yX3_makeSums cX3_makeSums 5 none, .methodLink RX3 38 yX1_times, .static yX1_times, .initialized RX1, .code yX1_times cX1_times 5 (some .int), .fieldLink RX3 15 "DiscCoder$Word" "symbols" "[I", .fieldLink RX3 26 "DiscCoder$Word" "sums" "[I", .fieldLink RX3 32 "DiscCoder$Word" "changes" "[I", .methodLink RX3 65 yX3_changeAt, .instanceMethod yX3_changeAt, .selects RX3 yX3_changeAt yX3_changeAt, .code yX3_changeAt cX3_changeAt 7 (some .int), .fieldLink RX3 23 "DiscCoder$Word" "locators" "[I", .methodLink RX3 72 yX3_startWeights, .instanceMethod yX3_startWeights, .selects RX3 yX3_startWeights yX3_startWeights, .code yX3_startWeights cX3_startWeights 2 none, .fieldLink RX3 35 "DiscCoder$Word" "weights" "[I", .methodLink RX3 75 yX3_addRoot, .instanceMethod yX3_addRoot, .selects RX3 yX3_addRoot yX3_addRoot, .code yX3_addRoot cX3_addRoot 3 none, .methodLink RX3 78 yX3_weightedSums, .instanceMethod yX3_weightedSums, .selects RX3 yX3_weightedSums yX3_weightedSums, .code yX3_weightedSums cX3_weightedSums 3 (some .int), .methodLink RX3 81 yX1_inverse, .static yX1_inverse, .code yX1_inverse cX1_inverse 4 (some .int), .methodLink RX1 11 yX1_times, .methodLink RX3 68 yX3_addChanges, .instanceMethod yX3_addChanges, .selects RX3 yX3_addChanges yX3_addChanges, .code yX3_addChanges cX3_addChanges 3 none, .methodLink RX3 51 yX3_isWord, .instanceMethod yX3_isWord, .selects RX3 yX3_isWord yX3_isWord, .code yX3_isWord cX3_isWord 2 (some .boolean), .fieldLink RX2 85 "DiscCoder$Reader" "symbolsFilled" "I", .methodLink RX2 88 yX3_countDoubted, .fieldLink RX2 35 "DiscCoder$Reader" "lost" "[Z", .fieldLink RX2 92 "DiscCoder$Reader" "wordsLost" "I", .fieldLink RX2 31 "DiscCoder$Reader" "output" "[I"] ++ wsX20 ++ wsX30)
set_option maxRecDepth 20000 in
theorem ggX2_readRow_X2_gatherOuter : GoodIn wsX2_readRow wsX2_gatherOuter := goodIn_r _ [6, 7, 1, 8, 9, 10, 11, 12, 13, 14, 15, 16, 17, 18, 19, 20, 21, 110, 111, 112, 113, 114, 115, 116, 117, 118, 119, 120, 124, 125, 126, 127, 128, 129, 130, 131, 121, 122, 123] (by decide +kernel) (by decide +kernel)
theorem gX2_readRow_X2_gatherOuter : GoodIn wsX2_readRow (wsV RX2 44 RX2 yX2_gatherOuter wsX2_gatherOuter) := goodIn_app (goodIn_of _ (by decide +kernel)) ggX2_readRow_X2_gatherOuter
set_option maxRecDepth 20000 in
theorem ggX2_readRow_X2_rightOuter : GoodIn wsX2_readRow wsX2_rightOuter := goodIn_r _ [25, 7, 26, 27, 28, 29, 30, 31, 32, 33, 34, 35, 36, 37, 38, 39, 40, 41, 42, 43, 44, 45, 46, 47, 48, 49, 50, 51, 52, 53, 54, 55, 110, 111, 112, 113, 114, 115, 116, 117, 118, 119, 120, 124, 125, 126, 127, 128, 129, 130, 131] (by decide +kernel) (by decide +kernel)
theorem gX2_readRow_X2_rightOuter : GoodIn wsX2_readRow (wsV RX2 48 RX2 yX2_rightOuter wsX2_rightOuter) := goodIn_app (goodIn_of _ (by decide +kernel)) ggX2_readRow_X2_rightOuter
set_option maxRecDepth 20000 in
theorem ggX2_readRow_X2_gatherInner : GoodIn wsX2_readRow wsX2_gatherInner := goodIn_r _ [59, 60, 55, 53, 110, 111, 112, 113, 114, 115, 116, 117, 118, 119, 120, 124, 125, 126, 127, 128, 129, 130, 131] (by decide +kernel) (by decide +kernel)
theorem gX2_readRow_X2_gatherInner : GoodIn wsX2_readRow (wsV RX2 51 RX2 yX2_gatherInner wsX2_gatherInner) := goodIn_app (goodIn_of _ (by decide +kernel)) ggX2_readRow_X2_gatherInner
set_option maxRecDepth 20000 in
theorem ggX2_readRow_X2_rightInner : GoodIn wsX2_readRow wsX2_rightInner := goodIn_r _ [64, 60, 65, 66, 67, 29, 68, 69, 70, 71, 72, 39, 73, 74, 75, 76, 77, 78, 35, 36, 37, 38, 40, 41, 42, 43, 44, 45, 79, 80, 81, 82, 83, 50, 84, 85, 86, 87, 88, 89, 90, 91, 92, 93, 94, 95, 96, 97, 98, 99, 100, 101, 102, 103, 104, 31, 32, 33, 34, 105, 106, 107, 108, 109, 110, 111, 112, 113, 114, 115, 116, 117, 118, 119, 120, 124, 125, 126, 127, 128, 129, 130, 131] (by decide +kernel) (by decide +kernel)
theorem gX2_readRow_X2_rightInner : GoodIn wsX2_readRow (wsV RX2 54 RX2 yX2_rightInner wsX2_rightInner) := goodIn_app (goodIn_of _ (by decide +kernel)) ggX2_readRow_X2_rightInner
set_option maxRecDepth 20000 in
theorem ggX2_gatherOuter_X0_getPlain : GoodIn wsX2_gatherOuter wsX0_getPlain := goodIn_r _ [7, 8, 9, 10, 6, 11, 12, 13, 14, 15, 16, 36, 37, 38] (by decide +kernel) (by decide +kernel)
theorem gX2_gatherOuter_X0_getPlain : GoodIn wsX2_gatherOuter (wsV RX2 62 RX0 yX0_getPlain wsX0_getPlain) := goodIn_app (goodIn_of _ (by decide +kernel)) ggX2_gatherOuter_X0_getPlain
set_option maxRecDepth 20000 in
theorem ggX2_rightOuter_X3_mendOne : GoodIn wsX2_rightOuter wsX3_mendOne := goodIn_r _ [6, 7, 8, 9, 5, 10, 11, 12, 13, 14, 15, 16, 17, 18, 19, 20, 21, 22, 23, 24, 25, 26, 43, 44, 45, 46, 47, 48, 49, 50] (by decide +kernel) (by decide +kernel)
theorem gX2_rightOuter_X3_mendOne : GoodIn wsX2_rightOuter (wsV RX2 66 RX3 yX3_mendOne wsX3_mendOne) := goodIn_app (goodIn_of _ (by decide +kernel)) ggX2_rightOuter_X3_mendOne
set_option maxRecDepth 20000 in
theorem ggX2_rightOuter_X3_isWord : GoodIn wsX2_rightOuter wsX3_isWord := goodIn_r _ [10, 11, 12, 13, 5, 14, 15, 16, 17, 18, 19, 20, 21, 43, 44, 45, 46, 47, 48, 49, 50] (by decide +kernel) (by decide +kernel)
theorem gX2_rightOuter_X3_isWord : GoodIn wsX2_rightOuter (wsV RX2 73 RX3 yX3_isWord wsX3_isWord) := goodIn_app (goodIn_of _ (by decide +kernel)) ggX2_rightOuter_X3_isWord
set_option maxRecDepth 20000 in
theorem ggX2_rightInner_X3_fillDoubted : GoodIn wsX2_rightInner wsX3_fillDoubted := goodIn_r _ [6, 7, 8, 9, 5, 10, 11, 12, 13, 14, 15, 16, 17, 18, 19, 20, 21, 22, 23, 24, 25, 26, 27, 28, 29, 30, 31, 32, 33, 34, 35, 36, 37, 38, 39, 40, 41, 42, 43, 44, 45, 46, 47, 48, 49, 50, 51, 52, 53, 54, 55, 56, 57, 58, 75, 76, 77, 78, 79, 80, 81, 82] (by decide +kernel) (by decide +kernel)
theorem gX2_rightInner_X3_fillDoubted : GoodIn wsX2_rightInner (wsV RX2 82 RX3 yX3_fillDoubted wsX3_fillDoubted) := goodIn_app (goodIn_of _ (by decide +kernel)) ggX2_rightInner_X3_fillDoubted
set_option maxRecDepth 20000 in
theorem ggX2_rightInner_X3_countDoubted : GoodIn wsX2_rightInner wsX3_countDoubted := goodIn_r _ [10, 11, 12, 75, 76, 77, 78, 79, 80, 81, 82] (by decide +kernel) (by decide +kernel)
theorem gX2_rightInner_X3_countDoubted : GoodIn wsX2_rightInner (wsV RX2 88 RX3 yX3_countDoubted wsX3_countDoubted) := goodIn_app (goodIn_of _ (by decide +kernel)) ggX2_rightInner_X3_countDoubted
theorem dX2_init_0 : decode cX2_init 0 = .ok (.aload_n 0, 1) := by decide +kernel
theorem dX2_init_1 : decode cX2_init 1 = .ok (.invokespecial 3, 3) := by decide +kernel
theorem dX2_init_4 : decode cX2_init 4 = .ok (.aload_n 0, 1) := by decide +kernel
theorem dX2_init_5 : decode cX2_init 5 = .ok (.aload_n 1, 1) := by decide +kernel
theorem dX2_init_6 : decode cX2_init 6 = .ok (.putfield 9, 3) := by decide +kernel
theorem dX2_init_9 : decode cX2_init 9 = .ok (.aload_n 0, 1) := by decide +kernel
theorem dX2_init_10 : decode cX2_init 10 = .ok (.aload_n 2, 1) := by decide +kernel
theorem dX2_init_11 : decode cX2_init 11 = .ok (.putfield 15, 3) := by decide +kernel
theorem dX2_init_14 : decode cX2_init 14 = .ok (.aload_n 0, 1) := by decide +kernel
theorem dX2_init_15 : decode cX2_init 15 = .ok (.aload_n 3, 1) := by decide +kernel
theorem dX2_init_16 : decode cX2_init 16 = .ok (.putfield 19, 3) := by decide +kernel
theorem dX2_init_19 : decode cX2_init 19 = .ok (.aload_n 0, 1) := by decide +kernel
theorem dX2_init_20 : decode cX2_init 20 = .ok (.bipush 48, 2) := by decide +kernel
theorem dX2_init_22 : decode cX2_init 22 = .ok (.bipush 12, 2) := by decide +kernel
theorem dX2_init_24 : decode cX2_init 24 = .ok (.multianewarray 22 2, 4) := by decide +kernel
theorem dX2_init_28 : decode cX2_init 28 = .ok (.putfield 24, 3) := by decide +kernel
theorem dX2_init_31 : decode cX2_init 31 = .ok (.aload_n 0, 1) := by decide +kernel
theorem dX2_init_32 : decode cX2_init 32 = .ok (.bipush 48, 2) := by decide +kernel
theorem dX2_init_34 : decode cX2_init 34 = .ok (.newarray .boolean, 2) := by decide +kernel
theorem dX2_init_36 : decode cX2_init 36 = .ok (.putfield 27, 3) := by decide +kernel
theorem dX2_init_39 : decode cX2_init 39 = .ok (.aload_n 0, 1) := by decide +kernel
theorem dX2_init_40 : decode cX2_init 40 = .ok (.sipush 384, 3) := by decide +kernel
theorem dX2_init_43 : decode cX2_init 43 = .ok (.newarray .int, 2) := by decide +kernel
theorem dX2_init_45 : decode cX2_init 45 = .ok (.putfield 31, 3) := by decide +kernel
theorem dX2_init_48 : decode cX2_init 48 = .ok (.aload_n 0, 1) := by decide +kernel
theorem dX2_init_49 : decode cX2_init 49 = .ok (.bipush 48, 2) := by decide +kernel
theorem dX2_init_51 : decode cX2_init 51 = .ok (.newarray .boolean, 2) := by decide +kernel
theorem dX2_init_53 : decode cX2_init 53 = .ok (.putfield 35, 3) := by decide +kernel
theorem dX2_init_56 : decode cX2_init 56 = .ok (.return_, 1) := by decide +kernel
theorem dX2_readRow_0 : decode cX2_readRow 0 = .ok (.aload_n 0, 1) := by decide +kernel
theorem dX2_readRow_1 : decode cX2_readRow 1 = .ok (.getfield 9, 3) := by decide +kernel
theorem dX2_readRow_4 : decode cX2_readRow 4 = .ok (.getfield 38, 3) := by decide +kernel
theorem dX2_readRow_7 : decode cX2_readRow 7 = .ok (.istore_n 1, 1) := by decide +kernel
theorem dX2_readRow_8 : decode cX2_readRow 8 = .ok (.aload_n 0, 1) := by decide +kernel
theorem dX2_readRow_9 : decode cX2_readRow 9 = .ok (.iload_n 1, 1) := by decide +kernel
theorem dX2_readRow_10 : decode cX2_readRow 10 = .ok (.invokevirtual 44, 3) := by decide +kernel
theorem dX2_readRow_13 : decode cX2_readRow 13 = .ok (.aload_n 0, 1) := by decide +kernel
theorem dX2_readRow_14 : decode cX2_readRow 14 = .ok (.iload_n 1, 1) := by decide +kernel
theorem dX2_readRow_15 : decode cX2_readRow 15 = .ok (.invokevirtual 48, 3) := by decide +kernel
theorem dX2_readRow_18 : decode cX2_readRow 18 = .ok (.aload_n 0, 1) := by decide +kernel
theorem dX2_readRow_19 : decode cX2_readRow 19 = .ok (.iload_n 1, 1) := by decide +kernel
theorem dX2_readRow_20 : decode cX2_readRow 20 = .ok (.invokevirtual 51, 3) := by decide +kernel
theorem dX2_readRow_23 : decode cX2_readRow 23 = .ok (.aload_n 0, 1) := by decide +kernel
theorem dX2_readRow_24 : decode cX2_readRow 24 = .ok (.iload_n 1, 1) := by decide +kernel
theorem dX2_readRow_25 : decode cX2_readRow 25 = .ok (.invokevirtual 54, 3) := by decide +kernel
theorem dX2_readRow_28 : decode cX2_readRow 28 = .ok (.aload_n 0, 1) := by decide +kernel
theorem dX2_readRow_29 : decode cX2_readRow 29 = .ok (.getfield 9, 3) := by decide +kernel
theorem dX2_readRow_32 : decode cX2_readRow 32 = .ok (.dup, 1) := by decide +kernel
theorem dX2_readRow_33 : decode cX2_readRow 33 = .ok (.getfield 38, 3) := by decide +kernel
theorem dX2_readRow_36 : decode cX2_readRow 36 = .ok (.iconst 1, 1) := by decide +kernel
theorem dX2_readRow_37 : decode cX2_readRow 37 = .ok (.iadd, 1) := by decide +kernel
theorem dX2_readRow_38 : decode cX2_readRow 38 = .ok (.putfield 38, 3) := by decide +kernel
theorem dX2_readRow_41 : decode cX2_readRow 41 = .ok (.aload_n 0, 1) := by decide +kernel
theorem dX2_readRow_42 : decode cX2_readRow 42 = .ok (.getfield 35, 3) := by decide +kernel
theorem dX2_readRow_45 : decode cX2_readRow 45 = .ok (.iload_n 1, 1) := by decide +kernel
theorem dX2_readRow_46 : decode cX2_readRow 46 = .ok (.baload, 1) := by decide +kernel
theorem dX2_readRow_47 : decode cX2_readRow 47 = .ok (.ifCond .ne 7, 3) := by decide +kernel
theorem dX2_readRow_50 : decode cX2_readRow 50 = .ok (.iconst 1, 1) := by decide +kernel
theorem dX2_readRow_51 : decode cX2_readRow 51 = .ok (.goto 4, 3) := by decide +kernel
theorem dX2_readRow_54 : decode cX2_readRow 54 = .ok (.iconst 0, 1) := by decide +kernel
theorem dX2_readRow_55 : decode cX2_readRow 55 = .ok (.ireturn, 1) := by decide +kernel
theorem dX2_gatherOuter_0 : decode cX2_gatherOuter 0 = .ok (.iconst 0, 1) := by decide +kernel
theorem dX2_gatherOuter_1 : decode cX2_gatherOuter 1 = .ok (.istore_n 2, 1) := by decide +kernel
theorem dX2_gatherOuter_2 : decode cX2_gatherOuter 2 = .ok (.iload_n 2, 1) := by decide +kernel
theorem dX2_gatherOuter_3 : decode cX2_gatherOuter 3 = .ok (.bipush 16, 2) := by decide +kernel
theorem dX2_gatherOuter_5 : decode cX2_gatherOuter 5 = .ok (.if_icmp .ge 39, 3) := by decide +kernel
theorem dX2_gatherOuter_8 : decode cX2_gatherOuter 8 = .ok (.aload_n 0, 1) := by decide +kernel
theorem dX2_gatherOuter_9 : decode cX2_gatherOuter 9 = .ok (.getfield 19, 3) := by decide +kernel
theorem dX2_gatherOuter_12 : decode cX2_gatherOuter 12 = .ok (.getfield 57, 3) := by decide +kernel
theorem dX2_gatherOuter_15 : decode cX2_gatherOuter 15 = .ok (.iload_n 2, 1) := by decide +kernel
theorem dX2_gatherOuter_16 : decode cX2_gatherOuter 16 = .ok (.aload_n 0, 1) := by decide +kernel
theorem dX2_gatherOuter_17 : decode cX2_gatherOuter 17 = .ok (.getfield 9, 3) := by decide +kernel
theorem dX2_gatherOuter_20 : decode cX2_gatherOuter 20 = .ok (.iload_n 2, 1) := by decide +kernel
theorem dX2_gatherOuter_21 : decode cX2_gatherOuter 21 = .ok (.iconst 2, 1) := by decide +kernel
theorem dX2_gatherOuter_22 : decode cX2_gatherOuter 22 = .ok (.irem, 1) := by decide +kernel
theorem dX2_gatherOuter_23 : decode cX2_gatherOuter 23 = .ok (.ifCond .ne 9, 3) := by decide +kernel
theorem dX2_gatherOuter_26 : decode cX2_gatherOuter 26 = .ok (.iload_n 1, 1) := by decide +kernel
theorem dX2_gatherOuter_27 : decode cX2_gatherOuter 27 = .ok (.iconst 1, 1) := by decide +kernel
theorem dX2_gatherOuter_28 : decode cX2_gatherOuter 28 = .ok (.isub, 1) := by decide +kernel
theorem dX2_gatherOuter_29 : decode cX2_gatherOuter 29 = .ok (.goto 4, 3) := by decide +kernel
theorem dX2_gatherOuter_32 : decode cX2_gatherOuter 32 = .ok (.iload_n 1, 1) := by decide +kernel
theorem dX2_gatherOuter_33 : decode cX2_gatherOuter 33 = .ok (.iload_n 2, 1) := by decide +kernel
theorem dX2_gatherOuter_34 : decode cX2_gatherOuter 34 = .ok (.invokevirtual 62, 3) := by decide +kernel
theorem dX2_gatherOuter_37 : decode cX2_gatherOuter 37 = .ok (.iastore, 1) := by decide +kernel
theorem dX2_gatherOuter_38 : decode cX2_gatherOuter 38 = .ok (.iinc 2 1, 3) := by decide +kernel
theorem dX2_gatherOuter_41 : decode cX2_gatherOuter 41 = .ok (.goto (-39), 3) := by decide +kernel
theorem dX2_gatherOuter_44 : decode cX2_gatherOuter 44 = .ok (.return_, 1) := by decide +kernel
theorem dX2_rightOuter_0 : decode cX2_rightOuter 0 = .ok (.aload_n 0, 1) := by decide +kernel
theorem dX2_rightOuter_1 : decode cX2_rightOuter 1 = .ok (.getfield 19, 3) := by decide +kernel
theorem dX2_rightOuter_4 : decode cX2_rightOuter 4 = .ok (.invokevirtual 66, 3) := by decide +kernel
theorem dX2_rightOuter_7 : decode cX2_rightOuter 7 = .ok (.ifCond .eq 16, 3) := by decide +kernel
theorem dX2_rightOuter_10 : decode cX2_rightOuter 10 = .ok (.aload_n 0, 1) := by decide +kernel
theorem dX2_rightOuter_11 : decode cX2_rightOuter 11 = .ok (.dup, 1) := by decide +kernel
theorem dX2_rightOuter_12 : decode cX2_rightOuter 12 = .ok (.getfield 70, 3) := by decide +kernel
theorem dX2_rightOuter_15 : decode cX2_rightOuter 15 = .ok (.iconst 1, 1) := by decide +kernel
theorem dX2_rightOuter_16 : decode cX2_rightOuter 16 = .ok (.iadd, 1) := by decide +kernel
theorem dX2_rightOuter_17 : decode cX2_rightOuter 17 = .ok (.putfield 70, 3) := by decide +kernel
theorem dX2_rightOuter_20 : decode cX2_rightOuter 20 = .ok (.goto 30, 3) := by decide +kernel
theorem dX2_rightOuter_23 : decode cX2_rightOuter 23 = .ok (.aload_n 0, 1) := by decide +kernel
theorem dX2_rightOuter_24 : decode cX2_rightOuter 24 = .ok (.getfield 19, 3) := by decide +kernel
theorem dX2_rightOuter_27 : decode cX2_rightOuter 27 = .ok (.invokevirtual 73, 3) := by decide +kernel
theorem dX2_rightOuter_30 : decode cX2_rightOuter 30 = .ok (.ifCond .ne 20, 3) := by decide +kernel
theorem dX2_rightOuter_33 : decode cX2_rightOuter 33 = .ok (.aload_n 0, 1) := by decide +kernel
theorem dX2_rightOuter_34 : decode cX2_rightOuter 34 = .ok (.getfield 27, 3) := by decide +kernel
theorem dX2_rightOuter_37 : decode cX2_rightOuter 37 = .ok (.iload_n 1, 1) := by decide +kernel
theorem dX2_rightOuter_38 : decode cX2_rightOuter 38 = .ok (.iconst 1, 1) := by decide +kernel
theorem dX2_rightOuter_39 : decode cX2_rightOuter 39 = .ok (.bastore, 1) := by decide +kernel
theorem dX2_rightOuter_40 : decode cX2_rightOuter 40 = .ok (.aload_n 0, 1) := by decide +kernel
theorem dX2_rightOuter_41 : decode cX2_rightOuter 41 = .ok (.dup, 1) := by decide +kernel
theorem dX2_rightOuter_42 : decode cX2_rightOuter 42 = .ok (.getfield 76, 3) := by decide +kernel
theorem dX2_rightOuter_45 : decode cX2_rightOuter 45 = .ok (.iconst 1, 1) := by decide +kernel
theorem dX2_rightOuter_46 : decode cX2_rightOuter 46 = .ok (.iadd, 1) := by decide +kernel
theorem dX2_rightOuter_47 : decode cX2_rightOuter 47 = .ok (.putfield 76, 3) := by decide +kernel
theorem dX2_rightOuter_50 : decode cX2_rightOuter 50 = .ok (.iconst 0, 1) := by decide +kernel
theorem dX2_rightOuter_51 : decode cX2_rightOuter 51 = .ok (.istore_n 2, 1) := by decide +kernel
theorem dX2_rightOuter_52 : decode cX2_rightOuter 52 = .ok (.iload_n 2, 1) := by decide +kernel
theorem dX2_rightOuter_53 : decode cX2_rightOuter 53 = .ok (.bipush 12, 2) := by decide +kernel
theorem dX2_rightOuter_55 : decode cX2_rightOuter 55 = .ok (.if_icmp .ge 26, 3) := by decide +kernel
theorem dX2_rightOuter_58 : decode cX2_rightOuter 58 = .ok (.aload_n 0, 1) := by decide +kernel
theorem dX2_rightOuter_59 : decode cX2_rightOuter 59 = .ok (.getfield 24, 3) := by decide +kernel
theorem dX2_rightOuter_62 : decode cX2_rightOuter 62 = .ok (.iload_n 1, 1) := by decide +kernel
theorem dX2_rightOuter_63 : decode cX2_rightOuter 63 = .ok (.aaload, 1) := by decide +kernel
theorem dX2_rightOuter_64 : decode cX2_rightOuter 64 = .ok (.iload_n 2, 1) := by decide +kernel
theorem dX2_rightOuter_65 : decode cX2_rightOuter 65 = .ok (.aload_n 0, 1) := by decide +kernel
theorem dX2_rightOuter_66 : decode cX2_rightOuter 66 = .ok (.getfield 19, 3) := by decide +kernel
theorem dX2_rightOuter_69 : decode cX2_rightOuter 69 = .ok (.getfield 57, 3) := by decide +kernel
theorem dX2_rightOuter_72 : decode cX2_rightOuter 72 = .ok (.iload_n 2, 1) := by decide +kernel
theorem dX2_rightOuter_73 : decode cX2_rightOuter 73 = .ok (.iaload, 1) := by decide +kernel
theorem dX2_rightOuter_74 : decode cX2_rightOuter 74 = .ok (.iastore, 1) := by decide +kernel
theorem dX2_rightOuter_75 : decode cX2_rightOuter 75 = .ok (.iinc 2 1, 3) := by decide +kernel
theorem dX2_rightOuter_78 : decode cX2_rightOuter 78 = .ok (.goto (-26), 3) := by decide +kernel
theorem dX2_rightOuter_81 : decode cX2_rightOuter 81 = .ok (.return_, 1) := by decide +kernel
theorem dX2_gatherInner_0 : decode cX2_gatherInner 0 = .ok (.iconst 0, 1) := by decide +kernel
theorem dX2_gatherInner_1 : decode cX2_gatherInner 1 = .ok (.istore_n 2, 1) := by decide +kernel
theorem dX2_gatherInner_2 : decode cX2_gatherInner 2 = .ok (.iload_n 2, 1) := by decide +kernel
theorem dX2_gatherInner_3 : decode cX2_gatherInner 3 = .ok (.bipush 12, 2) := by decide +kernel
theorem dX2_gatherInner_5 : decode cX2_gatherInner 5 = .ok (.if_icmp .ge 68, 3) := by decide +kernel
theorem dX2_gatherInner_8 : decode cX2_gatherInner 8 = .ok (.iload_n 1, 1) := by decide +kernel
theorem dX2_gatherInner_9 : decode cX2_gatherInner 9 = .ok (.bipush 11, 2) := by decide +kernel
theorem dX2_gatherInner_11 : decode cX2_gatherInner 11 = .ok (.isub, 1) := by decide +kernel
theorem dX2_gatherInner_12 : decode cX2_gatherInner 12 = .ok (.iload_n 2, 1) := by decide +kernel
theorem dX2_gatherInner_13 : decode cX2_gatherInner 13 = .ok (.iadd, 1) := by decide +kernel
theorem dX2_gatherInner_14 : decode cX2_gatherInner 14 = .ok (.istore_n 3, 1) := by decide +kernel
theorem dX2_gatherInner_15 : decode cX2_gatherInner 15 = .ok (.aload_n 0, 1) := by decide +kernel
theorem dX2_gatherInner_16 : decode cX2_gatherInner 16 = .ok (.getfield 15, 3) := by decide +kernel
theorem dX2_gatherInner_19 : decode cX2_gatherInner 19 = .ok (.getfield 57, 3) := by decide +kernel
theorem dX2_gatherInner_22 : decode cX2_gatherInner 22 = .ok (.iload_n 2, 1) := by decide +kernel
theorem dX2_gatherInner_23 : decode cX2_gatherInner 23 = .ok (.iload_n 3, 1) := by decide +kernel
theorem dX2_gatherInner_24 : decode cX2_gatherInner 24 = .ok (.ifCond .lt 14, 3) := by decide +kernel
theorem dX2_gatherInner_27 : decode cX2_gatherInner 27 = .ok (.aload_n 0, 1) := by decide +kernel
theorem dX2_gatherInner_28 : decode cX2_gatherInner 28 = .ok (.getfield 24, 3) := by decide +kernel
theorem dX2_gatherInner_31 : decode cX2_gatherInner 31 = .ok (.iload_n 3, 1) := by decide +kernel
theorem dX2_gatherInner_32 : decode cX2_gatherInner 32 = .ok (.aaload, 1) := by decide +kernel
theorem dX2_gatherInner_33 : decode cX2_gatherInner 33 = .ok (.iload_n 2, 1) := by decide +kernel
theorem dX2_gatherInner_34 : decode cX2_gatherInner 34 = .ok (.iaload, 1) := by decide +kernel
theorem dX2_gatherInner_35 : decode cX2_gatherInner 35 = .ok (.goto 4, 3) := by decide +kernel
theorem dX2_gatherInner_38 : decode cX2_gatherInner 38 = .ok (.iconst 0, 1) := by decide +kernel
theorem dX2_gatherInner_39 : decode cX2_gatherInner 39 = .ok (.iastore, 1) := by decide +kernel
theorem dX2_gatherInner_40 : decode cX2_gatherInner 40 = .ok (.aload_n 0, 1) := by decide +kernel
theorem dX2_gatherInner_41 : decode cX2_gatherInner 41 = .ok (.getfield 15, 3) := by decide +kernel
theorem dX2_gatherInner_44 : decode cX2_gatherInner 44 = .ok (.getfield 79, 3) := by decide +kernel
theorem dX2_gatherInner_47 : decode cX2_gatherInner 47 = .ok (.iload_n 2, 1) := by decide +kernel
theorem dX2_gatherInner_48 : decode cX2_gatherInner 48 = .ok (.iload_n 3, 1) := by decide +kernel
theorem dX2_gatherInner_49 : decode cX2_gatherInner 49 = .ok (.ifCond .lt 16, 3) := by decide +kernel
theorem dX2_gatherInner_52 : decode cX2_gatherInner 52 = .ok (.aload_n 0, 1) := by decide +kernel
theorem dX2_gatherInner_53 : decode cX2_gatherInner 53 = .ok (.getfield 27, 3) := by decide +kernel
theorem dX2_gatherInner_56 : decode cX2_gatherInner 56 = .ok (.iload_n 3, 1) := by decide +kernel
theorem dX2_gatherInner_57 : decode cX2_gatherInner 57 = .ok (.baload, 1) := by decide +kernel
theorem dX2_gatherInner_58 : decode cX2_gatherInner 58 = .ok (.ifCond .eq 7, 3) := by decide +kernel
theorem dX2_gatherInner_61 : decode cX2_gatherInner 61 = .ok (.iconst 1, 1) := by decide +kernel
theorem dX2_gatherInner_62 : decode cX2_gatherInner 62 = .ok (.goto 4, 3) := by decide +kernel
theorem dX2_gatherInner_65 : decode cX2_gatherInner 65 = .ok (.iconst 0, 1) := by decide +kernel
theorem dX2_gatherInner_66 : decode cX2_gatherInner 66 = .ok (.bastore, 1) := by decide +kernel
theorem dX2_gatherInner_67 : decode cX2_gatherInner 67 = .ok (.iinc 2 1, 3) := by decide +kernel
theorem dX2_gatherInner_70 : decode cX2_gatherInner 70 = .ok (.goto (-68), 3) := by decide +kernel
theorem dX2_gatherInner_73 : decode cX2_gatherInner 73 = .ok (.return_, 1) := by decide +kernel
theorem dX2_rightInner_0 : decode cX2_rightInner 0 = .ok (.aload_n 0, 1) := by decide +kernel
theorem dX2_rightInner_1 : decode cX2_rightInner 1 = .ok (.getfield 15, 3) := by decide +kernel
theorem dX2_rightInner_4 : decode cX2_rightInner 4 = .ok (.invokevirtual 82, 3) := by decide +kernel
theorem dX2_rightInner_7 : decode cX2_rightInner 7 = .ok (.ifCond .eq 22, 3) := by decide +kernel
theorem dX2_rightInner_10 : decode cX2_rightInner 10 = .ok (.aload_n 0, 1) := by decide +kernel
theorem dX2_rightInner_11 : decode cX2_rightInner 11 = .ok (.dup, 1) := by decide +kernel
theorem dX2_rightInner_12 : decode cX2_rightInner 12 = .ok (.getfield 85, 3) := by decide +kernel
theorem dX2_rightInner_15 : decode cX2_rightInner 15 = .ok (.aload_n 0, 1) := by decide +kernel
theorem dX2_rightInner_16 : decode cX2_rightInner 16 = .ok (.getfield 15, 3) := by decide +kernel
theorem dX2_rightInner_19 : decode cX2_rightInner 19 = .ok (.invokevirtual 88, 3) := by decide +kernel
theorem dX2_rightInner_22 : decode cX2_rightInner 22 = .ok (.iadd, 1) := by decide +kernel
theorem dX2_rightInner_23 : decode cX2_rightInner 23 = .ok (.putfield 85, 3) := by decide +kernel
theorem dX2_rightInner_26 : decode cX2_rightInner 26 = .ok (.goto 20, 3) := by decide +kernel
theorem dX2_rightInner_29 : decode cX2_rightInner 29 = .ok (.aload_n 0, 1) := by decide +kernel
theorem dX2_rightInner_30 : decode cX2_rightInner 30 = .ok (.getfield 35, 3) := by decide +kernel
theorem dX2_rightInner_33 : decode cX2_rightInner 33 = .ok (.iload_n 1, 1) := by decide +kernel
theorem dX2_rightInner_34 : decode cX2_rightInner 34 = .ok (.iconst 1, 1) := by decide +kernel
theorem dX2_rightInner_35 : decode cX2_rightInner 35 = .ok (.bastore, 1) := by decide +kernel
theorem dX2_rightInner_36 : decode cX2_rightInner 36 = .ok (.aload_n 0, 1) := by decide +kernel
theorem dX2_rightInner_37 : decode cX2_rightInner 37 = .ok (.dup, 1) := by decide +kernel
theorem dX2_rightInner_38 : decode cX2_rightInner 38 = .ok (.getfield 92, 3) := by decide +kernel
theorem dX2_rightInner_41 : decode cX2_rightInner 41 = .ok (.iconst 1, 1) := by decide +kernel
theorem dX2_rightInner_42 : decode cX2_rightInner 42 = .ok (.iadd, 1) := by decide +kernel
theorem dX2_rightInner_43 : decode cX2_rightInner 43 = .ok (.putfield 92, 3) := by decide +kernel
theorem dX2_rightInner_46 : decode cX2_rightInner 46 = .ok (.iconst 0, 1) := by decide +kernel
theorem dX2_rightInner_47 : decode cX2_rightInner 47 = .ok (.istore_n 2, 1) := by decide +kernel
theorem dX2_rightInner_48 : decode cX2_rightInner 48 = .ok (.iload_n 2, 1) := by decide +kernel
theorem dX2_rightInner_49 : decode cX2_rightInner 49 = .ok (.bipush 8, 2) := by decide +kernel
theorem dX2_rightInner_51 : decode cX2_rightInner 51 = .ok (.if_icmp .ge 29, 3) := by decide +kernel
theorem dX2_rightInner_54 : decode cX2_rightInner 54 = .ok (.aload_n 0, 1) := by decide +kernel
theorem dX2_rightInner_55 : decode cX2_rightInner 55 = .ok (.getfield 31, 3) := by decide +kernel
theorem dX2_rightInner_58 : decode cX2_rightInner 58 = .ok (.iload_n 1, 1) := by decide +kernel
theorem dX2_rightInner_59 : decode cX2_rightInner 59 = .ok (.bipush 8, 2) := by decide +kernel
theorem dX2_rightInner_61 : decode cX2_rightInner 61 = .ok (.imul, 1) := by decide +kernel
theorem dX2_rightInner_62 : decode cX2_rightInner 62 = .ok (.iload_n 2, 1) := by decide +kernel
theorem dX2_rightInner_63 : decode cX2_rightInner 63 = .ok (.iadd, 1) := by decide +kernel
theorem dX2_rightInner_64 : decode cX2_rightInner 64 = .ok (.aload_n 0, 1) := by decide +kernel
theorem dX2_rightInner_65 : decode cX2_rightInner 65 = .ok (.getfield 15, 3) := by decide +kernel
theorem dX2_rightInner_68 : decode cX2_rightInner 68 = .ok (.getfield 57, 3) := by decide +kernel
theorem dX2_rightInner_71 : decode cX2_rightInner 71 = .ok (.iload_n 2, 1) := by decide +kernel
theorem dX2_rightInner_72 : decode cX2_rightInner 72 = .ok (.iaload, 1) := by decide +kernel
theorem dX2_rightInner_73 : decode cX2_rightInner 73 = .ok (.iastore, 1) := by decide +kernel
theorem dX2_rightInner_74 : decode cX2_rightInner 74 = .ok (.iinc 2 1, 3) := by decide +kernel
theorem dX2_rightInner_77 : decode cX2_rightInner 77 = .ok (.goto (-29), 3) := by decide +kernel
theorem dX2_rightInner_80 : decode cX2_rightInner 80 = .ok (.return_, 1) := by decide +kernel
end
section
set_option maxHeartbeats 4000000 in
set_option maxRecDepth 100000 in
/-- Field.holds -/
theorem qc_holds (l : Launch) (x : Int32)  : Met l yX1_holds wsX1_holds ({ frames := 0, cells := 0, slots := 0, locals := 0 } : Room) (va_Pc [.int x] (fun _ => True)) (vp_Si (fun r => ∃ b : Bool, r = zI b ∧ (b = true ↔ (¬ x < 0 ∧ ¬ nI 255 < x)))) 0 0 (fun _ => False) := by
  refine Met.ofW (cc := cX1_holds) (maxL := 1) (ret := (some .boolean)) (by decide) rfl ?_
  intro p e s m args below meth c s₁ B hml hv
  obtain ⟨rfl, -⟩ := hv
  have hx := B.exec
  have hb := B.bytes
  have hr := B.returns
  have hts := atoms_spec (ws := wsX1_holds) B.pre
  have hown : s.vm.findClass RX1 = some m.cls := findClass_of_methodNamed B.named
  have hlocks := B.notSynchronized
  have hl := lv_entry ([.int x]) (n := 1) (Nat.le_of_ble_eq_true rfl)
  rw [lg_entry_eq]
  generalize (lg_sl ([.int x]) ++ List.replicate (1 - (lg_sl ([.int x])).length) Slot.unset).toArray = ls at hl ⊢
  have hl : lv_has ls 1 [(0, .int x)] := hl
  refine qr_nm (fun Q hQ => ?_)
  refine lv_iload_n hx hb dX1_holds_0 rfl (lv_at hl 0 rfl) ?_
  refine lv_if_lt (tgt := 15) hx hb dX1_holds_1 rfl  (fun b1 => ?_) (fun b1 => ?_)
  · refine lv_iconst (v := zI false) hx hb dX1_holds_15 (by decide) ?_
    subst hQ
    exact W.zret hx hb hr (qr_narZ _) (fun t ht hW => ⟨_, rfl, ⟨false, rfl, ⟨fun h => Bool.noConfusion h, fun h => absurd b1 h.1⟩⟩, ht⟩) (fun _ h => absurd h List.not_mem_nil) dX1_holds_16
  · refine lv_iload_n hx hb dX1_holds_4 rfl (lv_at hl 0 rfl) ?_
    refine lv_sipush (v := nI 255) hx hb dX1_holds_5 (by decide) ?_
    refine lv_icmp_gt (tgt := 15) hx hb dX1_holds_8 rfl  (fun b8 => ?_) (fun b8 => ?_)
    · refine lv_iconst (v := zI false) hx hb dX1_holds_15 (by decide) ?_
      subst hQ
      exact W.zret hx hb hr (qr_narZ _) (fun t ht hW => ⟨_, rfl, ⟨false, rfl, ⟨fun h => Bool.noConfusion h, fun h => absurd b8 h.2⟩⟩, ht⟩) (fun _ h => absurd h List.not_mem_nil) dX1_holds_16
    · refine lv_iconst (v := zI true) hx hb dX1_holds_11 (by decide) ?_
      refine lv_goto (tgt := 16) hx hb dX1_holds_12 rfl ?_
      subst hQ
      exact W.zret hx hb hr (qr_narZ _) (fun t ht hW => ⟨_, rfl, ⟨true, rfl, ⟨fun _ => ⟨b1, b8⟩, fun _ => rfl⟩⟩, ht⟩) (fun _ h => absurd h List.not_mem_nil) dX1_holds_16
set_option maxHeartbeats 4000000 in
set_option maxRecDepth 100000 in
/-- Field.times -/
theorem qc_times (l : Launch) (a b : BitVec 8)  : Met l yX1_times wsX1_times ({ frames := 0, cells := 0, slots := 0, locals := 0 } : Room) (va_Pc [.int (sI a), .int (sI b)] (fun _ => True)) (vp_Si (fun r => r = sI (qf_m a b))) 0 0 (fun _ => False) := by
  refine Met.ofW (cc := cX1_times) (maxL := 5) (ret := (some .int)) (by decide) rfl ?_
  intro p e s m args below meth c s₁ B hml hv
  obtain ⟨rfl, -⟩ := hv
  have hx := B.exec
  have hb := B.bytes
  have hr := B.returns
  have hts := atoms_spec (ws := wsX1_times) B.pre
  have hown : s.vm.findClass RX1 = some m.cls := findClass_of_methodNamed B.named
  have hlocks := B.notSynchronized
  have hl := lv_entry ([.int (sI a), .int (sI b)]) (n := 5) (Nat.le_of_ble_eq_true rfl)
  rw [lg_entry_eq]
  generalize (lg_sl ([.int (sI a), .int (sI b)]) ++ List.replicate (5 - (lg_sl ([.int (sI a), .int (sI b)])).length) Slot.unset).toArray = ls at hl ⊢
  have hl : lv_has ls 5 [(0, .int (sI a)), (1, .int (sI b))] := hl
  refine qr_nm (fun Q hQ => ?_)
  refine lv_iconst (v := sI 0#8) hx hb dX1_times_0 (by decide) ?_
  refine lv_istore_n (lv' := [(2, .int (sI 0#8)), (0, .int (sI a)), (1, .int (sI b))]) hx hb dX1_times_1 rfl hl (by decide) rfl (fun ls hl => ?_)
  refine lv_iload_n hx hb dX1_times_2 rfl (lv_at hl 1 rfl) ?_
  refine lv_istore_n (lv' := [(3, .int (sI a)), (2, .int (sI 0#8)), (0, .int (sI a)), (1, .int (sI b))]) hx hb dX1_times_3 rfl hl (by decide) rfl (fun ls hl => ?_)
  refine lv_iconst (v := nI 0) hx hb dX1_times_4 (by decide) ?_
  refine lv_istore (lv' := [(4, .int (nI 0)), (3, .int (sI a)), (2, .int (sI 0#8)), (0, .int (sI a)), (1, .int (sI b))]) hx hb dX1_times_5 hl (by decide) rfl (fun ls hl => ?_)
  have lp7 : ∀ (k i : Nat), i + k = 8 → ∀  (ls : Array Slot) , lv_has ls 5 [(0, .int (sI a)), (1, .int (sI b)), (2, .int (sI (qf_u a b i))), (3, .int (sI (qf_s a i))), (4, .int (nI i))] → W p l e (headSpec wsX1_times ({ frames := 0, cells := 0, slots := 0, locals := 0 } : Room)).room s m ([.int (sI a), .int (sI b)] : List Value).toArray below meth c s.heap [] 0 0 Q (F0 m 7 ls []) := by
    intro k
    induction k with
    | zero =>
      intro i hi  ls hl
      have e9 : 8 = i := by omega
      subst e9
      refine lv_iload hx hb dX1_times_7 (lv_at hl 4 rfl) ?_
      refine lv_bipush (v := nI 8) hx hb dX1_times_9 (by decide) ?_
      refine qr_ge (tgt := 50) hx hb dX1_times_11 rfl (by omega) (by omega) (fun b11 => ?_) (fun h => absurd h (by omega))
      refine lv_iload_n hx hb dX1_times_50 rfl (lv_at hl 2 rfl) ?_
      subst hQ
      exact W.iret hx hb hr (fun t ht hW => ⟨_, rfl, rfl, ht⟩) (fun _ h => absurd h List.not_mem_nil) dX1_times_51
    | succ k ih =>
      intro i hi  ls hl
      have li : i < 8 := by omega
      refine lv_iload hx hb dX1_times_7 (lv_at hl 4 rfl) ?_
      refine lv_bipush (v := nI 8) hx hb dX1_times_9 (by decide) ?_
      refine qr_ge (tgt := 50) hx hb dX1_times_11 rfl (by omega) (by omega) (fun h => absurd h (by omega)) (fun b11 => ?_)
      refine lv_iload_n hx hb dX1_times_14 rfl (lv_at hl 1 rfl) ?_
      refine lv_iload hx hb dX1_times_15 (lv_at hl 4 rfl) ?_
      refine qr_ishr (z := (sI b) >>> ((nI i) &&& 31)) hx hb dX1_times_17 rfl ?_
      refine lv_iconst (v := nI 1) hx hb dX1_times_18 (by decide) ?_
      refine qr_iand (z := zI (b.getLsbD i)) hx hb dX1_times_19 (qr_bit b (by omega)) ?_
      refine qr_ifeqZ (tgt := 27) hx hb dX1_times_20 rfl  (fun b20 => ?_) (fun b20 => ?_)
      · refine lv_iload_n hx hb dX1_times_27 rfl (lv_at hl 3 rfl) ?_
        refine lv_iconst (v := nI 1) hx hb dX1_times_28 (by decide) ?_
        refine qr_ishl (z := (sI (qf_s a i)) <<< ((nI 1) &&& 31)) hx hb dX1_times_29 rfl ?_
        refine lv_istore_n (lv' := [(3, .int ((sI (qf_s a i)) <<< ((nI 1) &&& 31))), (0, .int (sI a)), (1, .int (sI b)), (2, .int (sI (qf_u a b i))), (4, .int (nI i))]) hx hb dX1_times_30 rfl hl (by decide) rfl (fun ls hl => ?_)
        refine lv_iload_n hx hb dX1_times_31 rfl (lv_at hl 0 rfl) ?_
        refine lv_sipush (v := nI 255) hx hb dX1_times_32 (by decide) ?_
        refine lv_icmp_le (tgt := 44) hx hb dX1_times_35 rfl  (fun b35 => ?_) (fun b35 => ?_)
        · refine lv_iinc (k := 4) (v := nI (i + 1)) (lv' := [(4, .int (nI (i + 1))), (3, .int ((sI (qf_s a i)) <<< ((nI 1) &&& 31))), (0, .int (sI a)), (1, .int (sI b)), (2, .int (sI (qf_u a b i)))]) hx hb dX1_times_44 hl rfl (qr_inc _) (by decide) rfl (fun ls hl => ?_)
          refine lv_goto (tgt := 7) hx hb dX1_times_47 rfl ?_
          have hl := lv_sub (l' := [(0, .int (sI a)), (1, .int (sI b)), (2, .int (sI (qf_u a b i))), (3, .int ((sI (qf_s a i)) <<< ((nI 1) &&& 31))), (4, .int (nI (i + 1)))]) hl [2, 3, 4, 1, 0] rfl
          have e1 : qf_u a b (i + 1) = qf_u a b i := by simp only [qf_u, b20, cond_true, cond_false, BitVec.xor_zero]
          have e2 : sI (qf_s a (i + 1)) = (sI (qf_s a i)) <<< ((nI 1) &&& 31) := by rw [qf_s, ← qr_sh, if_neg (Int32.not_lt.mpr b35)]
          exact ih (i + 1) (by omega)  ls (by rw [e1, e2]; exact hl) 
        · refine lv_iload_n hx hb dX1_times_38 rfl (lv_at hl 0 rfl) ?_
          refine lv_sipush (v := nI 285) hx hb dX1_times_39 (by decide) ?_
          refine qr_ixor (z := ((sI (qf_s a i)) <<< ((nI 1) &&& 31)) ^^^ (nI 285)) hx hb dX1_times_42 rfl ?_
          refine lv_istore_n (lv' := [(3, .int (((sI (qf_s a i)) <<< ((nI 1) &&& 31)) ^^^ (nI 285))), (0, .int (sI a)), (1, .int (sI b)), (2, .int (sI (qf_u a b i))), (4, .int (nI i))]) hx hb dX1_times_43 rfl hl (by decide) rfl (fun ls hl => ?_)
          refine lv_iinc (k := 4) (v := nI (i + 1)) (lv' := [(4, .int (nI (i + 1))), (3, .int (((sI (qf_s a i)) <<< ((nI 1) &&& 31)) ^^^ (nI 285))), (0, .int (sI a)), (1, .int (sI b)), (2, .int (sI (qf_u a b i)))]) hx hb dX1_times_44 hl rfl (qr_inc _) (by decide) rfl (fun ls hl => ?_)
          refine lv_goto (tgt := 7) hx hb dX1_times_47 rfl ?_
          have hl := lv_sub (l' := [(0, .int (sI a)), (1, .int (sI b)), (2, .int (sI (qf_u a b i))), (3, .int (((sI (qf_s a i)) <<< ((nI 1) &&& 31)) ^^^ (nI 285))), (4, .int (nI (i + 1)))]) hl [2, 3, 4, 1, 0] rfl
          have e3 : qf_u a b (i + 1) = qf_u a b i := by simp only [qf_u, b20, cond_true, cond_false, BitVec.xor_zero]
          have e4 : sI (qf_s a (i + 1)) = ((sI (qf_s a i)) <<< ((nI 1) &&& 31)) ^^^ (nI 285) := by rw [qf_s, ← qr_sh, if_pos (Int32.not_le.mp b35)]
          exact ih (i + 1) (by omega)  ls (by rw [e3, e4]; exact hl) 
      · refine lv_iload_n hx hb dX1_times_23 rfl (lv_at hl 2 rfl) ?_
        refine lv_iload_n hx hb dX1_times_24 rfl (lv_at hl 3 rfl) ?_
        refine qr_ixor (z := sI ((qf_u a b i) ^^^ (qf_s a i))) hx hb dX1_times_25 (sI_xor _ _) ?_
        refine lv_istore_n (lv' := [(2, .int (sI ((qf_u a b i) ^^^ (qf_s a i)))), (0, .int (sI a)), (1, .int (sI b)), (3, .int (sI (qf_s a i))), (4, .int (nI i))]) hx hb dX1_times_26 rfl hl (by decide) rfl (fun ls hl => ?_)
        refine lv_iload_n hx hb dX1_times_27 rfl (lv_at hl 3 rfl) ?_
        refine lv_iconst (v := nI 1) hx hb dX1_times_28 (by decide) ?_
        refine qr_ishl (z := (sI (qf_s a i)) <<< ((nI 1) &&& 31)) hx hb dX1_times_29 rfl ?_
        refine lv_istore_n (lv' := [(3, .int ((sI (qf_s a i)) <<< ((nI 1) &&& 31))), (2, .int (sI ((qf_u a b i) ^^^ (qf_s a i)))), (0, .int (sI a)), (1, .int (sI b)), (4, .int (nI i))]) hx hb dX1_times_30 rfl hl (by decide) rfl (fun ls hl => ?_)
        refine lv_iload_n hx hb dX1_times_31 rfl (lv_at hl 0 rfl) ?_
        refine lv_sipush (v := nI 255) hx hb dX1_times_32 (by decide) ?_
        refine lv_icmp_le (tgt := 44) hx hb dX1_times_35 rfl  (fun b35 => ?_) (fun b35 => ?_)
        · refine lv_iinc (k := 4) (v := nI (i + 1)) (lv' := [(4, .int (nI (i + 1))), (3, .int ((sI (qf_s a i)) <<< ((nI 1) &&& 31))), (2, .int (sI ((qf_u a b i) ^^^ (qf_s a i)))), (0, .int (sI a)), (1, .int (sI b))]) hx hb dX1_times_44 hl rfl (qr_inc _) (by decide) rfl (fun ls hl => ?_)
          refine lv_goto (tgt := 7) hx hb dX1_times_47 rfl ?_
          have hl := lv_sub (l' := [(0, .int (sI a)), (1, .int (sI b)), (2, .int (sI ((qf_u a b i) ^^^ (qf_s a i)))), (3, .int ((sI (qf_s a i)) <<< ((nI 1) &&& 31))), (4, .int (nI (i + 1)))]) hl [3, 4, 2, 1, 0] rfl
          have e5 : qf_u a b (i + 1) = (qf_u a b i) ^^^ (qf_s a i) := by simp only [qf_u, b20, cond_true, cond_false, BitVec.xor_zero]
          have e6 : sI (qf_s a (i + 1)) = (sI (qf_s a i)) <<< ((nI 1) &&& 31) := by rw [qf_s, ← qr_sh, if_neg (Int32.not_lt.mpr b35)]
          exact ih (i + 1) (by omega)  ls (by rw [e5, e6]; exact hl) 
        · refine lv_iload_n hx hb dX1_times_38 rfl (lv_at hl 0 rfl) ?_
          refine lv_sipush (v := nI 285) hx hb dX1_times_39 (by decide) ?_
          refine qr_ixor (z := ((sI (qf_s a i)) <<< ((nI 1) &&& 31)) ^^^ (nI 285)) hx hb dX1_times_42 rfl ?_
          refine lv_istore_n (lv' := [(3, .int (((sI (qf_s a i)) <<< ((nI 1) &&& 31)) ^^^ (nI 285))), (2, .int (sI ((qf_u a b i) ^^^ (qf_s a i)))), (0, .int (sI a)), (1, .int (sI b)), (4, .int (nI i))]) hx hb dX1_times_43 rfl hl (by decide) rfl (fun ls hl => ?_)
          refine lv_iinc (k := 4) (v := nI (i + 1)) (lv' := [(4, .int (nI (i + 1))), (3, .int (((sI (qf_s a i)) <<< ((nI 1) &&& 31)) ^^^ (nI 285))), (2, .int (sI ((qf_u a b i) ^^^ (qf_s a i)))), (0, .int (sI a)), (1, .int (sI b))]) hx hb dX1_times_44 hl rfl (qr_inc _) (by decide) rfl (fun ls hl => ?_)
          refine lv_goto (tgt := 7) hx hb dX1_times_47 rfl ?_
          have hl := lv_sub (l' := [(0, .int (sI a)), (1, .int (sI b)), (2, .int (sI ((qf_u a b i) ^^^ (qf_s a i)))), (3, .int (((sI (qf_s a i)) <<< ((nI 1) &&& 31)) ^^^ (nI 285))), (4, .int (nI (i + 1)))]) hl [3, 4, 2, 1, 0] rfl
          have e7 : qf_u a b (i + 1) = (qf_u a b i) ^^^ (qf_s a i) := by simp only [qf_u, b20, cond_true, cond_false, BitVec.xor_zero]
          have e8 : sI (qf_s a (i + 1)) = ((sI (qf_s a i)) <<< ((nI 1) &&& 31)) ^^^ (nI 285) := by rw [qf_s, ← qr_sh, if_pos (Int32.not_le.mp b35)]
          exact ih (i + 1) (by omega)  ls (by rw [e7, e8]; exact hl) 
  have hl := lv_sub (l' := [(0, .int (sI a)), (1, .int (sI b)), (2, .int (sI 0#8)), (3, .int (sI a)), (4, .int (nI 0))]) hl [3, 4, 2, 1, 0] rfl
  exact lp7 8 0 (by omega)  ls hl 
set_option maxHeartbeats 4000000 in
set_option maxRecDepth 100000 in
/-- Field.inverse -/
theorem qc_inverse (l : Launch) (a : BitVec 8)  : Met l yX1_inverse wsX1_inverse ({ frames := 1, cells := 0, slots := 0, locals := 24 } : Room) (va_Pc [.int (sI a)] (fun _ => True)) (vp_Si (fun r => r = sI (qf_i a))) 0 0 (fun _ => False) := by
  refine Met.ofW (cc := cX1_inverse) (maxL := 4) (ret := (some .int)) (by decide) rfl ?_
  intro p e s m args below meth c s₁ B hml hv
  obtain ⟨rfl, -⟩ := hv
  have hx := B.exec
  have hb := B.bytes
  have hr := B.returns
  have hts := atoms_spec (ws := wsX1_inverse) B.pre
  have hown : s.vm.findClass RX1 = some m.cls := findClass_of_methodNamed B.named
  have hlocks := B.notSynchronized
  have hl := lv_entry ([.int (sI a)]) (n := 4) (Nat.le_of_ble_eq_true rfl)
  rw [lg_entry_eq]
  generalize (lg_sl ([.int (sI a)]) ++ List.replicate (4 - (lg_sl ([.int (sI a)])).length) Slot.unset).toArray = ls at hl ⊢
  have hl : lv_has ls 4 [(0, .int (sI a))] := hl
  refine qr_nm (fun Q hQ => ?_)
  refine lv_iload_n hx hb dX1_inverse_0 rfl (lv_at hl 0 rfl) ?_
  refine lv_istore_n (lv' := [(1, .int (sI a)), (0, .int (sI a))]) hx hb dX1_inverse_1 rfl hl (by decide) rfl (fun ls hl => ?_)
  refine lv_iconst (v := sI 1#8) hx hb dX1_inverse_2 (by decide) ?_
  refine lv_istore_n (lv' := [(2, .int (sI 1#8)), (1, .int (sI a)), (0, .int (sI a))]) hx hb dX1_inverse_3 rfl hl (by decide) rfl (fun ls hl => ?_)
  refine lv_iconst (v := nI 1) hx hb dX1_inverse_4 (by decide) ?_
  refine lv_istore_n (lv' := [(3, .int (nI 1)), (2, .int (sI 1#8)), (1, .int (sI a)), (0, .int (sI a))]) hx hb dX1_inverse_5 rfl hl (by decide) rfl (fun ls hl => ?_)
  have lp6 : ∀ (k i : Nat), i + k = 7 → ∀  (ls : Array Slot) , lv_has ls 4 [(0, .int (sI a)), (1, .int (sI (qf_ip a i))), (2, .int (sI (qf_ir a i))), (3, .int (nI (i + 1)))] → W p l e (headSpec wsX1_inverse ({ frames := 1, cells := 0, slots := 0, locals := 24 } : Room)).room s m ([.int (sI a)] : List Value).toArray below meth c s.heap [] 0 0 Q (F0 m 6 ls []) := by
    intro k
    induction k with
    | zero =>
      intro i hi  ls hl
      have e9 : 7 = i := by omega
      subst e9
      refine lv_iload_n hx hb dX1_inverse_6 rfl (lv_at hl 3 rfl) ?_
      refine lv_bipush (v := nI 8) hx hb dX1_inverse_7 (by decide) ?_
      refine qr_ge (tgt := 30) hx hb dX1_inverse_9 rfl (by omega) (by omega) (fun b9 => ?_) (fun h => absurd h (by omega))
      refine lv_iload_n hx hb dX1_inverse_30 rfl (lv_at hl 2 rfl) ?_
      subst hQ
      exact W.iret hx hb hr (fun t ht hW => ⟨_, rfl, congrArg sI (qf_ir_7 a), ht⟩) (fun _ h => absurd h List.not_mem_nil) dX1_inverse_31
    | succ k ih =>
      intro i hi  ls hl
      have li : i < 7 := by omega
      refine lv_iload_n hx hb dX1_inverse_6 rfl (lv_at hl 3 rfl) ?_
      refine lv_bipush (v := nI 8) hx hb dX1_inverse_7 (by decide) ?_
      refine qr_ge (tgt := 30) hx hb dX1_inverse_9 rfl (by omega) (by omega) (fun h => absurd h (by omega)) (fun b9 => ?_)
      refine lv_iload_n hx hb dX1_inverse_12 rfl (lv_at hl 1 rfl) ?_
      refine lv_iload_n hx hb dX1_inverse_13 rfl (lv_at hl 1 rfl) ?_
      refine vp_callSi (va_Run.run (va_runS (As := [.int (sI (qf_ip a i)), .int (sI (qf_ip a i))]) (rest := []) ⟨hx, hb, hml, hown, hts⟩ (qc_times l (qf_ip a i) (qf_ip a i) ) (va_cwS 2 hts gX1_inverse_X1_times rfl rfl rfl (by decide +kernel) ⟨Nat.le_of_ble_eq_true rfl, Nat.le_of_ble_eq_true rfl⟩) ⟨fun a U g mk q => q, fun U hU hW => ⟨rfl, trivial⟩⟩ rfl rfl hl.1 rfl (lv_room (Nat.le_of_ble_eq_true rfl)) dX1_inverse_14 ⟨Nat.le_of_ble_eq_true rfl, Nat.le_of_ble_eq_true rfl⟩)) (fun r14 hr14 => ?_)
      have hr14 : r14 = sI (qf_m (qf_ip a i) (qf_ip a i)) := hr14
      subst hr14
      refine lv_istore_n (lv' := [(1, .int (sI (qf_m (qf_ip a i) (qf_ip a i)))), (0, .int (sI a)), (2, .int (sI (qf_ir a i))), (3, .int (nI (i + 1)))]) hx hb dX1_inverse_17 rfl hl (by decide) rfl (fun ls hl => ?_)
      refine lv_iload_n hx hb dX1_inverse_18 rfl (lv_at hl 2 rfl) ?_
      refine lv_iload_n hx hb dX1_inverse_19 rfl (lv_at hl 0 rfl) ?_
      refine vp_callSi (va_Run.run (va_runS (As := [.int (sI (qf_ir a i)), .int (sI (qf_m (qf_ip a i) (qf_ip a i)))]) (rest := []) ⟨hx, hb, hml, hown, hts⟩ (qc_times l (qf_ir a i) (qf_m (qf_ip a i) (qf_ip a i)) ) (va_cwS 2 hts gX1_inverse_X1_times rfl rfl rfl (by decide +kernel) ⟨Nat.le_of_ble_eq_true rfl, Nat.le_of_ble_eq_true rfl⟩) ⟨fun a U g mk q => q, fun U hU hW => ⟨rfl, trivial⟩⟩ rfl rfl hl.1 rfl (lv_room (Nat.le_of_ble_eq_true rfl)) dX1_inverse_20 ⟨Nat.le_of_ble_eq_true rfl, Nat.le_of_ble_eq_true rfl⟩)) (fun r20 hr20 => ?_)
      have hr20 : r20 = sI (qf_m (qf_ir a i) (qf_m (qf_ip a i) (qf_ip a i))) := hr20
      subst hr20
      refine lv_istore_n (lv' := [(2, .int (sI (qf_m (qf_ir a i) (qf_m (qf_ip a i) (qf_ip a i))))), (1, .int (sI (qf_m (qf_ip a i) (qf_ip a i)))), (0, .int (sI a)), (3, .int (nI (i + 1)))]) hx hb dX1_inverse_23 rfl hl (by decide) rfl (fun ls hl => ?_)
      refine lv_iinc (k := 3) (v := nI ((i + 1) + 1)) (lv' := [(3, .int (nI ((i + 1) + 1))), (2, .int (sI (qf_m (qf_ir a i) (qf_m (qf_ip a i) (qf_ip a i))))), (1, .int (sI (qf_m (qf_ip a i) (qf_ip a i)))), (0, .int (sI a))]) hx hb dX1_inverse_24 hl rfl (qr_inc _) (by decide) rfl (fun ls hl => ?_)
      refine lv_goto (tgt := 6) hx hb dX1_inverse_27 rfl ?_
      have hl := lv_sub (l' := [(0, .int (sI a)), (1, .int (sI (qf_m (qf_ip a i) (qf_ip a i)))), (2, .int (sI (qf_m (qf_ir a i) (qf_m (qf_ip a i) (qf_ip a i))))), (3, .int (nI ((i + 1) + 1)))]) hl [3, 2, 1, 0] rfl
      have e1 : qf_ip a (i + 1) = qf_m (qf_ip a i) (qf_ip a i) := by first | rfl | (simp only [cond_true, cond_false])
      have e2 : qf_ir a (i + 1) = qf_m (qf_ir a i) (qf_m (qf_ip a i) (qf_ip a i)) := by first | rfl | (simp only [cond_true, cond_false])
      exact ih (i + 1) (by omega)  ls (by rw [e1, e2]; exact hl) 
  have hl := lv_sub (l' := [(0, .int (sI a)), (1, .int (sI a)), (2, .int (sI 1#8)), (3, .int (nI 1))]) hl [3, 2, 1, 0] rfl
  exact lp6 7 0 (by omega)  ls hl 
set_option maxHeartbeats 4000000 in
set_option maxRecDepth 100000 in
/-- Word.makeSums -/
theorem qc_makeSums (l : Launch) (dC : Nat → ClassId) (dI : Nat → Nat → Nat) (cI cZ : ClassId) (h0 a1 a2 a3 a4 a5 a6 a7 n : Nat) (w : Nat → BitVec 8) (z : Nat → Bool) (lo su : Nat → BitVec 8) (da : Nat → Nat) (ch we : Nat → BitVec 8) (sz : Nat) (hn : n ≤ 16) : Met l yX3_makeSums wsX3_makeSums ({ frames := 1, cells := 0, slots := 0, locals := 24 } : Room) (va_Pc [.ref h0] (fun U => U.heap.size = sz ∧ va_P (dC, dI) vwCl [(h0, .inr (2, [.int (nI n), .ref a1, .ref a2, .ref a3, .ref a4, .ref a5, .ref a6, .ref a7])), (a1, .inl (cI, n, .inl (qS w))), (a2, .inl (cZ, n, .inl (qZ z))), (a3, .inl (cI, n, .inl (qS lo))), (a4, .inl (cI, 4, .inl (qS su))), (a5, .inl (cI, 4, .inl (qN da))), (a6, .inl (cI, 4, .inl (qS ch))), (a7, .inl (cI, 4, .inl (qS we)))] U.heap ∧ va_K (dC, dI) vwCl [(cI, .int), (cZ, .boolean)] U ∧ va_D (fun _ => True) [(h0, .inr (2, [.int (nI n), .ref a1, .ref a2, .ref a3, .ref a4, .ref a5, .ref a6, .ref a7])), (a1, .inl (cI, n, .inl (qS w))), (a2, .inl (cZ, n, .inl (qZ z))), (a3, .inl (cI, n, .inl (qS lo))), (a4, .inl (cI, 4, .inl (qS su))), (a5, .inl (cI, 4, .inl (qN da))), (a6, .inl (cI, 4, .inl (qS ch))), (a7, .inl (cI, 4, .inl (qS we)))])) (va_Qv (fun (_ : Unit) => True) (fun _ t => va_P (dC, dI) vwCl [(h0, .inr (2, [.int (nI n), .ref a1, .ref a2, .ref a3, .ref a4, .ref a5, .ref a6, .ref a7])), (a1, .inl (cI, n, .inl (qS w))), (a2, .inl (cZ, n, .inl (qZ z))), (a3, .inl (cI, n, .inl (qS lo))), (a4, .inl (cI, 4, .inl (qS (qm_su n w su 4)))), (a5, .inl (cI, 4, .inl (qN da))), (a6, .inl (cI, 4, .inl (qS ch))), (a7, .inl (cI, 4, .inl (qS we)))] t.heap ∧ va_K (dC, dI) vwCl [(cI, .int), (cZ, .boolean)] t ∧ va_D (va_A [(h0, .inr (2, [.int (nI n), .ref a1, .ref a2, .ref a3, .ref a4, .ref a5, .ref a6, .ref a7])), (a1, .inl (cI, n, .inl (qS w))), (a2, .inl (cZ, n, .inl (qZ z))), (a3, .inl (cI, n, .inl (qS lo))), (a4, .inl (cI, 4, .inl (qS su))), (a5, .inl (cI, 4, .inl (qN da))), (a6, .inl (cI, 4, .inl (qS ch))), (a7, .inl (cI, 4, .inl (qS we)))] sz) [(h0, .inr (2, [.int (nI n), .ref a1, .ref a2, .ref a3, .ref a4, .ref a5, .ref a6, .ref a7])), (a1, .inl (cI, n, .inl (qS w))), (a2, .inl (cZ, n, .inl (qZ z))), (a3, .inl (cI, n, .inl (qS lo))), (a4, .inl (cI, 4, .inl (qS (qm_su n w su 4)))), (a5, .inl (cI, 4, .inl (qN da))), (a6, .inl (cI, 4, .inl (qS ch))), (a7, .inl (cI, 4, .inl (qS we)))]) (va_A [(h0, .inr (2, [.int (nI n), .ref a1, .ref a2, .ref a3, .ref a4, .ref a5, .ref a6, .ref a7])), (a1, .inl (cI, n, .inl (qS w))), (a2, .inl (cZ, n, .inl (qZ z))), (a3, .inl (cI, n, .inl (qS lo))), (a4, .inl (cI, 4, .inl (qS su))), (a5, .inl (cI, 4, .inl (qN da))), (a6, .inl (cI, 4, .inl (qS ch))), (a7, .inl (cI, 4, .inl (qS we)))] sz)) 0 0 (va_A [(h0, .inr (2, [.int (nI n), .ref a1, .ref a2, .ref a3, .ref a4, .ref a5, .ref a6, .ref a7])), (a1, .inl (cI, n, .inl (qS w))), (a2, .inl (cZ, n, .inl (qZ z))), (a3, .inl (cI, n, .inl (qS lo))), (a4, .inl (cI, 4, .inl (qS su))), (a5, .inl (cI, 4, .inl (qN da))), (a6, .inl (cI, 4, .inl (qS ch))), (a7, .inl (cI, 4, .inl (qS we)))] sz) := by
  refine Met.ofW (cc := cX3_makeSums) (maxL := 5) (ret := none) (by decide) rfl ?_
  intro p e s m args below meth c s₁ B hml hv
  obtain ⟨rfl, hsz, hP, hK, hD0⟩ := hv
  have hx := B.exec
  have hb := B.bytes
  have hr := B.returns
  have hts := atoms_spec (ws := wsX3_makeSums) B.pre
  have hown : s.vm.findClass RX3 = some m.cls := findClass_of_methodNamed B.named
  have hlocks := B.notSynchronized
  subst hsz
  have hD := hD0.self (sz := s.heap.size)
  generalize hAe : va_A [(h0, .inr (2, [.int (nI n), .ref a1, .ref a2, .ref a3, .ref a4, .ref a5, .ref a6, .ref a7])), (a1, .inl (cI, n, .inl (qS w))), (a2, .inl (cZ, n, .inl (qZ z))), (a3, .inl (cI, n, .inl (qS lo))), (a4, .inl (cI, 4, .inl (qS su))), (a5, .inl (cI, 4, .inl (qN da))), (a6, .inl (cI, 4, .inl (qS ch))), (a7, .inl (cI, 4, .inl (qS we)))] s.heap.size = A at hD ⊢
  have hA : ∀ q : Nat, s.heap.size ≤ q → A q := fun q h => by rw [← hAe]; exact Or.inr h
  have hS : va_S A s.heap s.heap [] := va_S.rf
  have hP : va_P (dC, dI) vwCl [(h0, .inr (2, [.int (nI n), .ref a1, .ref a2, .ref a3, .ref a4, .ref a5, .ref a6, .ref a7])), (a1, .inl (cI, n, .inl (qS w))), (a2, .inl (cZ, n, .inl (qZ z))), (a3, .inl (cI, n, .inl (qS lo))), (a4, .inl (cI, 4, .inl (qS su))), (a5, .inl (cI, 4, .inl (qN da))), (a6, .inl (cI, 4, .inl (qS ch))), (a7, .inl (cI, 4, .inl (qS we)))] s.heap := hP
  have hl := lv_entry ([.ref h0]) (n := 5) (Nat.le_of_ble_eq_true rfl)
  rw [lg_entry_eq]
  generalize (lg_sl ([.ref h0]) ++ List.replicate (5 - (lg_sl ([.ref h0])).length) Slot.unset).toArray = ls at hl ⊢
  have hl : lv_has ls 5 [(0, .ref h0)] := hl
  have k_9 := hts (.fieldLink RX3 9 "DiscCoder$Word" "size" "I") (by decide +kernel)
  have k_15 := hts (.fieldLink RX3 15 "DiscCoder$Word" "symbols" "[I") (by decide +kernel)
  have k_26 := hts (.fieldLink RX3 26 "DiscCoder$Word" "sums" "[I") (by decide +kernel)
  have i_X3 : ∀ w ∈ u_ws RX3 TX3 8, w ∈ wsX3_makeSums := by decide +kernel
  refine qr_nm (fun Q hQ => ?_)
  refine lv_iconst (v := sI 1#8) hx hb dX3_makeSums_0 (by decide) ?_
  refine lv_istore_n (lv' := [(1, .int (sI 1#8)), (0, .ref h0)]) hx hb dX3_makeSums_1 rfl hl (by decide) rfl (fun ls hl => ?_)
  refine lv_iconst (v := nI 0) hx hb dX3_makeSums_2 (by decide) ?_
  refine lv_istore_n (lv' := [(2, .int (nI 0)), (1, .int (sI 1#8)), (0, .ref h0)]) hx hb dX3_makeSums_3 rfl hl (by decide) rfl (fun ls hl => ?_)
  have lp4 : ∀ (j k : Nat), k + j = 4 → ∀  (ls : Array Slot) (H : Heap) (locs : List Loc), lv_has ls 5 [(0, .ref h0), (1, .int (sI (qf_E k))), (2, .int (nI k))] → va_P (dC, dI) vwCl [(h0, .inr (2, [.int (nI n), .ref a1, .ref a2, .ref a3, .ref a4, .ref a5, .ref a6, .ref a7])), (a1, .inl (cI, n, .inl (qS w))), (a2, .inl (cZ, n, .inl (qZ z))), (a3, .inl (cI, n, .inl (qS lo))), (a4, .inl (cI, 4, .inl (qS (qm_su n w su k)))), (a5, .inl (cI, 4, .inl (qN da))), (a6, .inl (cI, 4, .inl (qS ch))), (a7, .inl (cI, 4, .inl (qS we)))] H → va_D A [(h0, .inr (2, [.int (nI n), .ref a1, .ref a2, .ref a3, .ref a4, .ref a5, .ref a6, .ref a7])), (a1, .inl (cI, n, .inl (qS w))), (a2, .inl (cZ, n, .inl (qZ z))), (a3, .inl (cI, n, .inl (qS lo))), (a4, .inl (cI, 4, .inl (qS (qm_su n w su k)))), (a5, .inl (cI, 4, .inl (qN da))), (a6, .inl (cI, 4, .inl (qS ch))), (a7, .inl (cI, 4, .inl (qS we)))] → va_S A s.heap H locs → W p l e (headSpec wsX3_makeSums ({ frames := 1, cells := 0, slots := 0, locals := 24 } : Room)).room s m ([.ref h0] : List Value).toArray below meth c H locs 0 0 Q (F0 m 4 ls []) := by
    intro j
    induction j with
    | zero =>
      intro k hk  ls H locs hl hP hD hS
      have e9 : 4 = k := by omega
      subst e9
      refine lv_iload_n hx hb dX3_makeSums_4 rfl (lv_at hl 2 rfl) ?_
      refine lv_iconst (v := nI 4) hx hb dX3_makeSums_5 (by decide) ?_
      refine qr_ge (tgt := 62) hx hb dX3_makeSums_6 rfl (by omega) (by omega) (fun b6 => ?_) (fun h => absurd h (by omega))
      subst hQ
      exact W.vret hx hb hr (fun t ht hW => ⟨⟨(), rfl, trivial, by rw [ht]; exact hP, va_K.moved hW.alike hK, hD⟩, hS.F ht⟩) hS.2.2 dX3_makeSums_62
    | succ j ih =>
      intro k hk  ls H locs hl hP hD hS
      have lk : k < 4 := by omega
      refine lv_iload_n hx hb dX3_makeSums_4 rfl (lv_at hl 2 rfl) ?_
      refine lv_iconst (v := nI 4) hx hb dX3_makeSums_5 (by decide) ?_
      refine qr_ge (tgt := 62) hx hb dX3_makeSums_6 rfl (by omega) (by omega) (fun h => absurd h (by omega)) (fun b6 => ?_)
      refine lv_iconst (v := sI 0#8) hx hb dX3_makeSums_9 (by decide) ?_
      refine lv_istore_n (lv' := [(3, .int (sI 0#8)), (0, .ref h0), (1, .int (sI (qf_E k))), (2, .int (nI k))]) hx hb dX3_makeSums_10 rfl hl (by decide) rfl (fun ls hl => ?_)
      refine lv_iconst (v := nI 0) hx hb dX3_makeSums_11 (by decide) ?_
      refine lv_istore (lv' := [(4, .int (nI 0)), (3, .int (sI 0#8)), (0, .ref h0), (1, .int (sI (qf_E k))), (2, .int (nI k))]) hx hb dX3_makeSums_12 hl (by decide) rfl (fun ls hl => ?_)
      have lp14 : ∀ (q i : Nat), i + q = n → ∀  (ls : Array Slot) (H : Heap) (locs : List Loc), lv_has ls 5 [(0, .ref h0), (1, .int (sI (qf_E k))), (2, .int (nI k)), (3, .int (sI (qw_h (qf_E k) w i))), (4, .int (nI i))] → va_P (dC, dI) vwCl [(h0, .inr (2, [.int (nI n), .ref a1, .ref a2, .ref a3, .ref a4, .ref a5, .ref a6, .ref a7])), (a1, .inl (cI, n, .inl (qS w))), (a2, .inl (cZ, n, .inl (qZ z))), (a3, .inl (cI, n, .inl (qS lo))), (a4, .inl (cI, 4, .inl (qS (qm_su n w su k)))), (a5, .inl (cI, 4, .inl (qN da))), (a6, .inl (cI, 4, .inl (qS ch))), (a7, .inl (cI, 4, .inl (qS we)))] H → va_D A [(h0, .inr (2, [.int (nI n), .ref a1, .ref a2, .ref a3, .ref a4, .ref a5, .ref a6, .ref a7])), (a1, .inl (cI, n, .inl (qS w))), (a2, .inl (cZ, n, .inl (qZ z))), (a3, .inl (cI, n, .inl (qS lo))), (a4, .inl (cI, 4, .inl (qS (qm_su n w su k)))), (a5, .inl (cI, 4, .inl (qN da))), (a6, .inl (cI, 4, .inl (qS ch))), (a7, .inl (cI, 4, .inl (qS we)))] → va_S A s.heap H locs → W p l e (headSpec wsX3_makeSums ({ frames := 1, cells := 0, slots := 0, locals := 24 } : Room)).room s m ([.ref h0] : List Value).toArray below meth c H locs 0 0 Q (F0 m 14 ls []) := by
        intro q
        induction q with
        | zero =>
          intro i hi  ls H locs hl hP hD hS
          have e9 : n = i := by omega
          subst e9
          refine lv_iload hx hb dX3_makeSums_14 (lv_at hl 4 rfl) ?_
          refine lv_aload_n hx hb dX3_makeSums_16 rfl (lv_at hl 0 rfl) ?_
          refine va_get (D := (dC, dI)) (ci := 2) (v := .int (nI n)) (C := RX3) (T := TX3) (N := 8) hx hb hts i_X3 hown hK hP 0 rfl rfl 0 (by decide) k_9 (fun _ h9 => h9) rfl dX3_makeSums_17 ?_
          refine qr_ge (tgt := 43) hx hb dX3_makeSums_20 rfl (by omega) (by omega) (fun b20 => ?_) (fun h => absurd h (by omega))
          refine lv_aload_n hx hb dX3_makeSums_43 rfl (lv_at hl 0 rfl) ?_
          refine va_get (D := (dC, dI)) (ci := 2) (v := .ref a4) (C := RX3) (T := TX3) (N := 8) hx hb hts i_X3 hown hK hP 0 rfl rfl 4 (by decide) k_26 (fun _ h9 => h9) rfl dX3_makeSums_44 ?_
          refine lv_iload_n hx hb dX3_makeSums_47 rfl (lv_at hl 2 rfl) ?_
          refine lv_iload_n hx hb dX3_makeSums_48 rfl (lv_at hl 3 rfl) ?_
          refine qr_istS (x := qw_h (qf_E k) w n) hx hb hK hP hD hS 4 0 rfl rfl (by omega) (by omega) dX3_makeSums_49 (fun H locs hP hD hS => ?_)
          have hP : va_P (dC, dI) vwCl [(h0, .inr (2, [.int (nI n), .ref a1, .ref a2, .ref a3, .ref a4, .ref a5, .ref a6, .ref a7])), (a1, .inl (cI, n, .inl (qS w))), (a2, .inl (cZ, n, .inl (qZ z))), (a3, .inl (cI, n, .inl (qS lo))), (a4, .inl (cI, 4, .inl (qS (va_up (qm_su n w su k) k (qw_h (qf_E k) w n))))), (a5, .inl (cI, 4, .inl (qN da))), (a6, .inl (cI, 4, .inl (qS ch))), (a7, .inl (cI, 4, .inl (qS we)))] H := hP
          have hD : va_D A [(h0, .inr (2, [.int (nI n), .ref a1, .ref a2, .ref a3, .ref a4, .ref a5, .ref a6, .ref a7])), (a1, .inl (cI, n, .inl (qS w))), (a2, .inl (cZ, n, .inl (qZ z))), (a3, .inl (cI, n, .inl (qS lo))), (a4, .inl (cI, 4, .inl (qS (va_up (qm_su n w su k) k (qw_h (qf_E k) w n))))), (a5, .inl (cI, 4, .inl (qN da))), (a6, .inl (cI, 4, .inl (qS ch))), (a7, .inl (cI, 4, .inl (qS we)))] := hD
          refine lv_iload_n hx hb dX3_makeSums_50 rfl (lv_at hl 1 rfl) ?_
          refine lv_iconst (v := sI 2#8) hx hb dX3_makeSums_51 (by decide) ?_
          refine vp_callSi (va_Run.run (va_runS (As := [.int (sI (qf_E k)), .int (sI 2#8)]) (rest := []) ⟨hx, hb, hml, hown, hts⟩ (qc_times l (qf_E k) 2#8 ) (va_cwS 2 hts gX3_makeSums_X1_times rfl rfl rfl (by decide +kernel) ⟨Nat.le_of_ble_eq_true rfl, Nat.le_of_ble_eq_true rfl⟩) ⟨fun a U g mk q => q, fun U hU hW => ⟨rfl, trivial⟩⟩ rfl rfl hl.1 rfl (lv_room (Nat.le_of_ble_eq_true rfl)) dX3_makeSums_52 ⟨Nat.le_of_ble_eq_true rfl, Nat.le_of_ble_eq_true rfl⟩)) (fun r52 hr52 => ?_)
          have hr52 : r52 = sI (qf_m (qf_E k) 2#8) := hr52
          subst hr52
          refine lv_istore_n (lv' := [(1, .int (sI (qf_m (qf_E k) 2#8))), (0, .ref h0), (2, .int (nI k)), (3, .int (sI (qw_h (qf_E k) w n))), (4, .int (nI n))]) hx hb dX3_makeSums_55 rfl hl (by decide) rfl (fun ls hl => ?_)
          refine lv_iinc (k := 2) (v := nI (k + 1)) (lv' := [(2, .int (nI (k + 1))), (1, .int (sI (qf_m (qf_E k) 2#8))), (0, .ref h0), (3, .int (sI (qw_h (qf_E k) w n))), (4, .int (nI n))]) hx hb dX3_makeSums_56 hl rfl (qr_inc _) (by decide) rfl (fun ls hl => ?_)
          refine lv_goto (tgt := 4) hx hb dX3_makeSums_59 rfl ?_
          have hl := lv_sub (l' := [(0, .ref h0), (1, .int (sI (qf_m (qf_E k) 2#8))), (2, .int (nI (k + 1)))]) hl [2, 1, 0] rfl
          have e1 : qf_E (k + 1) = qf_m (qf_E k) 2#8 := by first | rfl | (simp only [cond_true, cond_false])
          have e2 : qm_su n w su (k + 1) = va_up (qm_su n w su k) k (qw_h (qf_E k) w n) := by first | rfl | (simp only [cond_true, cond_false])
          exact ih (k + 1) (by omega)  ls H _ (by rw [e1]; exact hl) (by rw [e2]; exact hP) (by rw [e2]; exact hD) hS 
        | succ q ih =>
          intro i hi  ls H locs hl hP hD hS
          have li : i < n := by omega
          refine lv_iload hx hb dX3_makeSums_14 (lv_at hl 4 rfl) ?_
          refine lv_aload_n hx hb dX3_makeSums_16 rfl (lv_at hl 0 rfl) ?_
          refine va_get (D := (dC, dI)) (ci := 2) (v := .int (nI n)) (C := RX3) (T := TX3) (N := 8) hx hb hts i_X3 hown hK hP 0 rfl rfl 0 (by decide) k_9 (fun _ h9 => h9) rfl dX3_makeSums_17 ?_
          refine qr_ge (tgt := 43) hx hb dX3_makeSums_20 rfl (by omega) (by omega) (fun h => absurd h (by omega)) (fun b20 => ?_)
          refine lv_iload_n hx hb dX3_makeSums_23 rfl (lv_at hl 3 rfl) ?_
          refine lv_iload_n hx hb dX3_makeSums_24 rfl (lv_at hl 1 rfl) ?_
          refine vp_callSi (va_Run.run (va_runS (As := [.int (sI (qw_h (qf_E k) w i)), .int (sI (qf_E k))]) (rest := []) ⟨hx, hb, hml, hown, hts⟩ (qc_times l (qw_h (qf_E k) w i) (qf_E k) ) (va_cwS 2 hts gX3_makeSums_X1_times rfl rfl rfl (by decide +kernel) ⟨Nat.le_of_ble_eq_true rfl, Nat.le_of_ble_eq_true rfl⟩) ⟨fun a U g mk q => q, fun U hU hW => ⟨rfl, trivial⟩⟩ rfl rfl hl.1 rfl (lv_room (Nat.le_of_ble_eq_true rfl)) dX3_makeSums_25 ⟨Nat.le_of_ble_eq_true rfl, Nat.le_of_ble_eq_true rfl⟩)) (fun r25 hr25 => ?_)
          have hr25 : r25 = sI (qf_m (qw_h (qf_E k) w i) (qf_E k)) := hr25
          subst hr25
          refine lv_aload_n hx hb dX3_makeSums_28 rfl (lv_at hl 0 rfl) ?_
          refine va_get (D := (dC, dI)) (ci := 2) (v := .ref a1) (C := RX3) (T := TX3) (N := 8) hx hb hts i_X3 hown hK hP 0 rfl rfl 1 (by decide) k_15 (fun _ h9 => h9) rfl dX3_makeSums_29 ?_
          refine lv_iload hx hb dX3_makeSums_32 (lv_at hl 4 rfl) ?_
          refine qr_ildS hx hb hK hP 1 0 rfl rfl (by omega) (by omega) dX3_makeSums_34 ?_
          refine qr_ixor (z := sI ((qf_m (qw_h (qf_E k) w i) (qf_E k)) ^^^ (w i))) hx hb dX3_makeSums_35 (sI_xor _ _) ?_
          refine lv_istore_n (lv' := [(3, .int (sI ((qf_m (qw_h (qf_E k) w i) (qf_E k)) ^^^ (w i)))), (0, .ref h0), (1, .int (sI (qf_E k))), (2, .int (nI k)), (4, .int (nI i))]) hx hb dX3_makeSums_36 rfl hl (by decide) rfl (fun ls hl => ?_)
          refine lv_iinc (k := 4) (v := nI (i + 1)) (lv' := [(4, .int (nI (i + 1))), (3, .int (sI ((qf_m (qw_h (qf_E k) w i) (qf_E k)) ^^^ (w i)))), (0, .ref h0), (1, .int (sI (qf_E k))), (2, .int (nI k))]) hx hb dX3_makeSums_37 hl rfl (qr_inc _) (by decide) rfl (fun ls hl => ?_)
          refine lv_goto (tgt := 14) hx hb dX3_makeSums_40 rfl ?_
          have hl := lv_sub (l' := [(0, .ref h0), (1, .int (sI (qf_E k))), (2, .int (nI k)), (3, .int (sI ((qf_m (qw_h (qf_E k) w i) (qf_E k)) ^^^ (w i)))), (4, .int (nI (i + 1)))]) hl [2, 3, 4, 1, 0] rfl
          have e3 : qw_h (qf_E k) w (i + 1) = (qf_m (qw_h (qf_E k) w i) (qf_E k)) ^^^ (w i) := by first | rfl | (simp only [cond_true, cond_false])
          exact ih (i + 1) (by omega)  ls H _ (by rw [e3]; exact hl) (by exact hP) (by exact hD) hS 
      have hl := lv_sub (l' := [(0, .ref h0), (1, .int (sI (qf_E k))), (2, .int (nI k)), (3, .int (sI 0#8)), (4, .int (nI 0))]) hl [2, 3, 4, 1, 0] rfl
      exact lp14 n 0 (by omega)  ls H _ hl hP hD hS 
  have hl := lv_sub (l' := [(0, .ref h0), (1, .int (sI 1#8)), (2, .int (nI 0))]) hl [2, 1, 0] rfl
  exact lp4 4 0 (by omega)  ls s.heap _ hl hP hD hS 
set_option maxHeartbeats 4000000 in
set_option maxRecDepth 100000 in
/-- Word.isWord -/
theorem qc_isWord (l : Launch) (dC : Nat → ClassId) (dI : Nat → Nat → Nat) (cI cZ : ClassId) (h0 a1 a2 a3 a4 a5 a6 a7 n : Nat) (w : Nat → BitVec 8) (z : Nat → Bool) (lo su : Nat → BitVec 8) (da : Nat → Nat) (ch we : Nat → BitVec 8) (sz : Nat) (hn : n ≤ 16) : Met l yX3_isWord wsX3_isWord ({ frames := 2, cells := 0, slots := 0, locals := 48 } : Room) (va_Pc [.ref h0] (fun U => U.heap.size = sz ∧ va_P (dC, dI) vwCl [(h0, .inr (2, [.int (nI n), .ref a1, .ref a2, .ref a3, .ref a4, .ref a5, .ref a6, .ref a7])), (a1, .inl (cI, n, .inl (qS w))), (a2, .inl (cZ, n, .inl (qZ z))), (a3, .inl (cI, n, .inl (qS lo))), (a4, .inl (cI, 4, .inl (qS su))), (a5, .inl (cI, 4, .inl (qN da))), (a6, .inl (cI, 4, .inl (qS ch))), (a7, .inl (cI, 4, .inl (qS we)))] U.heap ∧ va_K (dC, dI) vwCl [(cI, .int), (cZ, .boolean)] U ∧ va_D (fun _ => True) [(h0, .inr (2, [.int (nI n), .ref a1, .ref a2, .ref a3, .ref a4, .ref a5, .ref a6, .ref a7])), (a1, .inl (cI, n, .inl (qS w))), (a2, .inl (cZ, n, .inl (qZ z))), (a3, .inl (cI, n, .inl (qS lo))), (a4, .inl (cI, 4, .inl (qS su))), (a5, .inl (cI, 4, .inl (qN da))), (a6, .inl (cI, 4, .inl (qS ch))), (a7, .inl (cI, 4, .inl (qS we)))])) (va_Qi (fun (r : Int32) (_ : Unit) => ∃ b : Bool, r = zI b ∧ (b = true ↔ qw_W n w)) (fun _ t => va_P (dC, dI) vwCl [(h0, .inr (2, [.int (nI n), .ref a1, .ref a2, .ref a3, .ref a4, .ref a5, .ref a6, .ref a7])), (a1, .inl (cI, n, .inl (qS w))), (a2, .inl (cZ, n, .inl (qZ z))), (a3, .inl (cI, n, .inl (qS lo))), (a4, .inl (cI, 4, .inl (qS (qm_su n w su 4)))), (a5, .inl (cI, 4, .inl (qN da))), (a6, .inl (cI, 4, .inl (qS ch))), (a7, .inl (cI, 4, .inl (qS we)))] t.heap ∧ va_K (dC, dI) vwCl [(cI, .int), (cZ, .boolean)] t ∧ va_D (va_A [(h0, .inr (2, [.int (nI n), .ref a1, .ref a2, .ref a3, .ref a4, .ref a5, .ref a6, .ref a7])), (a1, .inl (cI, n, .inl (qS w))), (a2, .inl (cZ, n, .inl (qZ z))), (a3, .inl (cI, n, .inl (qS lo))), (a4, .inl (cI, 4, .inl (qS su))), (a5, .inl (cI, 4, .inl (qN da))), (a6, .inl (cI, 4, .inl (qS ch))), (a7, .inl (cI, 4, .inl (qS we)))] sz) [(h0, .inr (2, [.int (nI n), .ref a1, .ref a2, .ref a3, .ref a4, .ref a5, .ref a6, .ref a7])), (a1, .inl (cI, n, .inl (qS w))), (a2, .inl (cZ, n, .inl (qZ z))), (a3, .inl (cI, n, .inl (qS lo))), (a4, .inl (cI, 4, .inl (qS (qm_su n w su 4)))), (a5, .inl (cI, 4, .inl (qN da))), (a6, .inl (cI, 4, .inl (qS ch))), (a7, .inl (cI, 4, .inl (qS we)))]) (va_A [(h0, .inr (2, [.int (nI n), .ref a1, .ref a2, .ref a3, .ref a4, .ref a5, .ref a6, .ref a7])), (a1, .inl (cI, n, .inl (qS w))), (a2, .inl (cZ, n, .inl (qZ z))), (a3, .inl (cI, n, .inl (qS lo))), (a4, .inl (cI, 4, .inl (qS su))), (a5, .inl (cI, 4, .inl (qN da))), (a6, .inl (cI, 4, .inl (qS ch))), (a7, .inl (cI, 4, .inl (qS we)))] sz)) 0 0 (va_A [(h0, .inr (2, [.int (nI n), .ref a1, .ref a2, .ref a3, .ref a4, .ref a5, .ref a6, .ref a7])), (a1, .inl (cI, n, .inl (qS w))), (a2, .inl (cZ, n, .inl (qZ z))), (a3, .inl (cI, n, .inl (qS lo))), (a4, .inl (cI, 4, .inl (qS su))), (a5, .inl (cI, 4, .inl (qN da))), (a6, .inl (cI, 4, .inl (qS ch))), (a7, .inl (cI, 4, .inl (qS we)))] sz) := by
  refine Met.ofW (cc := cX3_isWord) (maxL := 2) (ret := (some .boolean)) (by decide) rfl ?_
  intro p e s m args below meth c s₁ B hml hv
  obtain ⟨rfl, hsz, hP, hK, hD0⟩ := hv
  have hx := B.exec
  have hb := B.bytes
  have hr := B.returns
  have hts := atoms_spec (ws := wsX3_isWord) B.pre
  have hown : s.vm.findClass RX3 = some m.cls := findClass_of_methodNamed B.named
  have hlocks := B.notSynchronized
  subst hsz
  have hD := hD0.self (sz := s.heap.size)
  generalize hAe : va_A [(h0, .inr (2, [.int (nI n), .ref a1, .ref a2, .ref a3, .ref a4, .ref a5, .ref a6, .ref a7])), (a1, .inl (cI, n, .inl (qS w))), (a2, .inl (cZ, n, .inl (qZ z))), (a3, .inl (cI, n, .inl (qS lo))), (a4, .inl (cI, 4, .inl (qS su))), (a5, .inl (cI, 4, .inl (qN da))), (a6, .inl (cI, 4, .inl (qS ch))), (a7, .inl (cI, 4, .inl (qS we)))] s.heap.size = A at hD ⊢
  have hA : ∀ q : Nat, s.heap.size ≤ q → A q := fun q h => by rw [← hAe]; exact Or.inr h
  have hS : va_S A s.heap s.heap [] := va_S.rf
  have hP : va_P (dC, dI) vwCl [(h0, .inr (2, [.int (nI n), .ref a1, .ref a2, .ref a3, .ref a4, .ref a5, .ref a6, .ref a7])), (a1, .inl (cI, n, .inl (qS w))), (a2, .inl (cZ, n, .inl (qZ z))), (a3, .inl (cI, n, .inl (qS lo))), (a4, .inl (cI, 4, .inl (qS su))), (a5, .inl (cI, 4, .inl (qN da))), (a6, .inl (cI, 4, .inl (qS ch))), (a7, .inl (cI, 4, .inl (qS we)))] s.heap := hP
  have hl := lv_entry ([.ref h0]) (n := 2) (Nat.le_of_ble_eq_true rfl)
  rw [lg_entry_eq]
  generalize (lg_sl ([.ref h0]) ++ List.replicate (2 - (lg_sl ([.ref h0])).length) Slot.unset).toArray = ls at hl ⊢
  have hl : lv_has ls 2 [(0, .ref h0)] := hl
  have k_26 := hts (.fieldLink RX3 26 "DiscCoder$Word" "sums" "[I") (by decide +kernel)
  have i_X3 : ∀ w ∈ u_ws RX3 TX3 8, w ∈ wsX3_isWord := by decide +kernel
  refine qr_nm (fun Q hQ => ?_)
  refine lv_aload_n hx hb dX3_isWord_0 rfl (lv_at hl 0 rfl) ?_
  have hPc := hP.sub (ws' := [(h0, .inr (2, [.int (nI n), .ref a1, .ref a2, .ref a3, .ref a4, .ref a5, .ref a6, .ref a7])), (a1, .inl (cI, n, .inl (qS w))), (a2, .inl (cZ, n, .inl (qZ z))), (a3, .inl (cI, n, .inl (qS lo))), (a4, .inl (cI, 4, .inl (qS su))), (a5, .inl (cI, 4, .inl (qN da))), (a6, .inl (cI, 4, .inl (qS ch))), (a7, .inl (cI, 4, .inl (qS we)))]) [0, 1, 2, 3, 4, 5, 6, 7] rfl
  have hDc := hD.sub (ws' := [(h0, .inr (2, [.int (nI n), .ref a1, .ref a2, .ref a3, .ref a4, .ref a5, .ref a6, .ref a7])), (a1, .inl (cI, n, .inl (qS w))), (a2, .inl (cZ, n, .inl (qZ z))), (a3, .inl (cI, n, .inl (qS lo))), (a4, .inl (cI, 4, .inl (qS su))), (a5, .inl (cI, 4, .inl (qN da))), (a6, .inl (cI, 4, .inl (qS ch))), (a7, .inl (cI, 4, .inl (qS we)))]) [0, 1, 2, 3, 4, 5, 6, 7] (by decide) rfl
  have hKc := hK.sub (tys' := [(cI, .int), (cZ, .boolean)]) [0, 1] rfl
  have hFc := va_free (wc := [(h0, .inr (2, [.int (nI n), .ref a1, .ref a2, .ref a3, .ref a4, .ref a5, .ref a6, .ref a7])), (a1, .inl (cI, n, .inl (qS w))), (a2, .inl (cZ, n, .inl (qZ z))), (a3, .inl (cI, n, .inl (qS lo))), (a4, .inl (cI, 4, .inl (qS su))), (a5, .inl (cI, 4, .inl (qN da))), (a6, .inl (cI, 4, .inl (qS ch))), (a7, .inl (cI, 4, .inl (qS we)))]) hD hS hA [0, 1, 2, 3, 4, 5, 6, 7] rfl
  refine va_callv (va_runV (As := []) (rest := []) ⟨hx, hb, hml, hown, hts⟩ (qc_makeSums l dC dI cI cZ h0 a1 a2 a3 a4 a5 a6 a7 n w z lo su da ch we s.heap.size hn) (cwV 0 hts gX3_isWord_X3_makeSums rfl rfl rfl (by decide +kernel) ⟨Nat.le_of_ble_eq_true rfl, Nat.le_of_ble_eq_true rfl⟩) ⟨fun a U g mk q => by obtain ⟨q0, q1, qP, qK, qD⟩ := q; exact ⟨q0, q1, qP, va_K.moved (u := U) (U := U.calling g mk a) (Vm.Alike.refl U.vm) qK, qD⟩, (va_recv (q0 := 0) (ci := 2) hK hP rfl rfl), fun U hU hW => ⟨rfl, by rw [hU], by rw [hU]; exact hPc, va_K.moved hW.alike hKc, hDc.weaken (fun _ _ _ _ => trivial)⟩⟩ rfl rfl hl.1 rfl (lv_room (Nat.le_of_ble_eq_true rfl)) dX3_isWord_1 ⟨Nat.le_of_ble_eq_true rfl, Nat.le_of_ble_eq_true rfl⟩) hS (fun q _ h => hFc q h) hFc (fun u t H1 locs ht hvm hr1 hB hz1 hk1 hS => ?_)
  obtain ⟨hP1, hK1, hD1⟩ := hB
  rw [ht] at hP1
  have hP1 : va_P (dC, dI) vwCl [(h0, .inr (2, [.int (nI n), .ref a1, .ref a2, .ref a3, .ref a4, .ref a5, .ref a6, .ref a7])), (a1, .inl (cI, n, .inl (qS w))), (a2, .inl (cZ, n, .inl (qZ z))), (a3, .inl (cI, n, .inl (qS lo))), (a4, .inl (cI, 4, .inl (qS (qm_su n w su 4)))), (a5, .inl (cI, 4, .inl (qN da))), (a6, .inl (cI, 4, .inl (qS ch))), (a7, .inl (cI, 4, .inl (qS we)))] H1 := hP1
  obtain ⟨hP, hD⟩ := qj_join (wc := [(h0, .inr (2, [.int (nI n), .ref a1, .ref a2, .ref a3, .ref a4, .ref a5, .ref a6, .ref a7])), (a1, .inl (cI, n, .inl (qS w))), (a2, .inl (cZ, n, .inl (qZ z))), (a3, .inl (cI, n, .inl (qS lo))), (a4, .inl (cI, 4, .inl (qS su))), (a5, .inl (cI, 4, .inl (qN da))), (a6, .inl (cI, 4, .inl (qS ch))), (a7, .inl (cI, 4, .inl (qS we)))]) (w1 := [(h0, .inr (2, [.int (nI n), .ref a1, .ref a2, .ref a3, .ref a4, .ref a5, .ref a6, .ref a7])), (a1, .inl (cI, n, .inl (qS w))), (a2, .inl (cZ, n, .inl (qZ z))), (a3, .inl (cI, n, .inl (qS lo))), (a4, .inl (cI, 4, .inl (qS (qm_su n w su 4)))), (a5, .inl (cI, 4, .inl (qN da))), (a6, .inl (cI, 4, .inl (qS ch))), (a7, .inl (cI, 4, .inl (qS we)))]) hP hD [0, 1, 2, 3, 4, 5, 6, 7] rfl rfl hk1 hP1
  generalize H1 = H at hP hS ⊢
  have hP : va_P (dC, dI) vwCl [(h0, .inr (2, [.int (nI n), .ref a1, .ref a2, .ref a3, .ref a4, .ref a5, .ref a6, .ref a7])), (a1, .inl (cI, n, .inl (qS w))), (a2, .inl (cZ, n, .inl (qZ z))), (a3, .inl (cI, n, .inl (qS lo))), (a4, .inl (cI, 4, .inl (qS (qm_su n w su 4)))), (a5, .inl (cI, 4, .inl (qN da))), (a6, .inl (cI, 4, .inl (qS ch))), (a7, .inl (cI, 4, .inl (qS we)))] H := hP
  have hD : va_D A [(h0, .inr (2, [.int (nI n), .ref a1, .ref a2, .ref a3, .ref a4, .ref a5, .ref a6, .ref a7])), (a1, .inl (cI, n, .inl (qS w))), (a2, .inl (cZ, n, .inl (qZ z))), (a3, .inl (cI, n, .inl (qS lo))), (a4, .inl (cI, 4, .inl (qS (qm_su n w su 4)))), (a5, .inl (cI, 4, .inl (qN da))), (a6, .inl (cI, 4, .inl (qS ch))), (a7, .inl (cI, 4, .inl (qS we)))] := hD
  refine lv_iconst (v := nI 0) hx hb dX3_isWord_4 (by decide) ?_
  refine lv_istore_n (lv' := [(1, .int (nI 0)), (0, .ref h0)]) hx hb dX3_isWord_5 rfl hl (by decide) rfl (fun ls hl => ?_)
  have lp6 : ∀ (j k : Nat), k + j = 4 → ∀  (ls : Array Slot) (H : Heap) (locs : List Loc), lv_has ls 2 [(0, .ref h0), (1, .int (nI k))] → va_P (dC, dI) vwCl [(h0, .inr (2, [.int (nI n), .ref a1, .ref a2, .ref a3, .ref a4, .ref a5, .ref a6, .ref a7])), (a1, .inl (cI, n, .inl (qS w))), (a2, .inl (cZ, n, .inl (qZ z))), (a3, .inl (cI, n, .inl (qS lo))), (a4, .inl (cI, 4, .inl (qS (qm_su n w su 4)))), (a5, .inl (cI, 4, .inl (qN da))), (a6, .inl (cI, 4, .inl (qS ch))), (a7, .inl (cI, 4, .inl (qS we)))] H → va_D A [(h0, .inr (2, [.int (nI n), .ref a1, .ref a2, .ref a3, .ref a4, .ref a5, .ref a6, .ref a7])), (a1, .inl (cI, n, .inl (qS w))), (a2, .inl (cZ, n, .inl (qZ z))), (a3, .inl (cI, n, .inl (qS lo))), (a4, .inl (cI, 4, .inl (qS (qm_su n w su 4)))), (a5, .inl (cI, 4, .inl (qN da))), (a6, .inl (cI, 4, .inl (qS ch))), (a7, .inl (cI, 4, .inl (qS we)))] → va_S A s.heap H locs → (∀ j, j < k → qw_S n w j = 0#8) → W p l e (headSpec wsX3_isWord ({ frames := 2, cells := 0, slots := 0, locals := 48 } : Room)).room s m ([.ref h0] : List Value).toArray below meth c H locs 0 0 Q (F0 m 6 ls []) := by
    intro j
    induction j with
    | zero =>
      intro k hk  ls H locs hl hP hD hS hk
      have e9 : 4 = k := by omega
      subst e9
      refine lv_iload_n hx hb dX3_isWord_6 rfl (lv_at hl 1 rfl) ?_
      refine lv_iconst (v := nI 4) hx hb dX3_isWord_7 (by decide) ?_
      refine qr_ge (tgt := 28) hx hb dX3_isWord_8 rfl (by omega) (by omega) (fun b8 => ?_) (fun h => absurd h (by omega))
      refine lv_iconst (v := zI true) hx hb dX3_isWord_28 (by decide) ?_
      subst hQ
      exact W.zret hx hb hr (qr_narZ _) (fun t ht hW => ⟨⟨_, (), rfl, ⟨true, rfl, ⟨fun _ => hk, fun _ => rfl⟩⟩, by rw [ht]; exact hP, va_K.moved hW.alike hK, hD⟩, hS.F ht⟩) hS.2.2 dX3_isWord_29
    | succ j ih =>
      intro k hk  ls H locs hl hP hD hS hk
      have lk : k < 4 := by omega
      refine lv_iload_n hx hb dX3_isWord_6 rfl (lv_at hl 1 rfl) ?_
      refine lv_iconst (v := nI 4) hx hb dX3_isWord_7 (by decide) ?_
      refine qr_ge (tgt := 28) hx hb dX3_isWord_8 rfl (by omega) (by omega) (fun h => absurd h (by omega)) (fun b8 => ?_)
      refine lv_aload_n hx hb dX3_isWord_11 rfl (lv_at hl 0 rfl) ?_
      refine va_get (D := (dC, dI)) (ci := 2) (v := .ref a4) (C := RX3) (T := TX3) (N := 8) hx hb hts i_X3 hown hK hP 0 rfl rfl 4 (by decide) k_26 (fun _ h9 => h9) rfl dX3_isWord_12 ?_
      refine lv_iload_n hx hb dX3_isWord_15 rfl (lv_at hl 1 rfl) ?_
      refine qr_ildS hx hb hK hP 4 0 rfl rfl (by omega) (by omega) dX3_isWord_16 ?_
      refine qr_ifeqS (tgt := 22) hx hb dX3_isWord_17 rfl  (fun b17 => ?_) (fun b17 => ?_)
      · refine lv_iinc (k := 1) (v := nI (k + 1)) (lv' := [(1, .int (nI (k + 1))), (0, .ref h0)]) hx hb dX3_isWord_22 hl rfl (qr_inc _) (by decide) rfl (fun ls hl => ?_)
        refine lv_goto (tgt := 6) hx hb dX3_isWord_25 rfl ?_
        have hl := lv_sub (l' := [(0, .ref h0), (1, .int (nI (k + 1)))]) hl [1, 0] rfl
        exact ih (k + 1) (by omega)  ls H _ (by exact hl) (by exact hP) (by exact hD) hS (lt_s hk (by rw [← qm_su_at (su := su) (m := 4) (by omega)]; exact b17))
      · refine lv_iconst (v := zI false) hx hb dX3_isWord_20 (by decide) ?_
        subst hQ
        exact W.zret hx hb hr (qr_narZ _) (fun t ht hW => ⟨⟨_, (), rfl, ⟨false, rfl, ⟨fun h => Bool.noConfusion h, fun h => absurd ((qm_su_at (su := su) (m := 4) (by omega)).trans (h k (by omega))) b17⟩⟩, by rw [ht]; exact hP, va_K.moved hW.alike hK, hD⟩, hS.F ht⟩) hS.2.2 dX3_isWord_21
  have hl := lv_sub (l' := [(0, .ref h0), (1, .int (nI 0))]) hl [1, 0] rfl
  exact lp6 4 0 (by omega)  ls H _ hl hP hD hS (fun _ h => absurd h (Nat.not_lt_zero _))
set_option maxHeartbeats 4000000 in
set_option maxRecDepth 100000 in
/-- Word.isOnlyFault -/
theorem qc_isOnlyFault (l : Launch) (dC : Nat → ClassId) (dI : Nat → Nat → Nat) (cI cZ : ClassId) (h0 a1 a2 a3 a4 a5 a6 a7 n : Nat) (w : Nat → BitVec 8) (z : Nat → Bool) (lo su : Nat → BitVec 8) (da : Nat → Nat) (ch we : Nat → BitVec 8) (x : Nat) (hn : n ≤ 16) (hx0 : x < n) : Met l yX3_isOnlyFault wsX3_isOnlyFault ({ frames := 1, cells := 0, slots := 0, locals := 24 } : Room) (va_Pc [.ref h0, .int (nI x)] (fun U => va_P (dC, dI) vwCl [(h0, .inr (2, [.int (nI n), .ref a1, .ref a2, .ref a3, .ref a4, .ref a5, .ref a6, .ref a7])), (a1, .inl (cI, n, .inl (qS w))), (a2, .inl (cZ, n, .inl (qZ z))), (a3, .inl (cI, n, .inl (qS lo))), (a4, .inl (cI, 4, .inl (qS su))), (a5, .inl (cI, 4, .inl (qN da))), (a6, .inl (cI, 4, .inl (qS ch))), (a7, .inl (cI, 4, .inl (qS we)))] U.heap ∧ va_K (dC, dI) vwCl [(cI, .int), (cZ, .boolean)] U)) (vp_Si (fun r => ∃ b : Bool, r = zI b ∧ (b = true ↔ ∀ k, 0 < k → k < 4 → qf_m (su 0) (qf_p (lo x) k) = su k))) 0 0 (fun _ => False) := by
  refine Met.ofW (cc := cX3_isOnlyFault) (maxL := 4) (ret := (some .boolean)) (by decide) rfl ?_
  intro p e s m args below meth c s₁ B hml hv
  obtain ⟨rfl, hP, hK⟩ := hv
  have hx := B.exec
  have hb := B.bytes
  have hr := B.returns
  have hts := atoms_spec (ws := wsX3_isOnlyFault) B.pre
  have hown : s.vm.findClass RX3 = some m.cls := findClass_of_methodNamed B.named
  have hlocks := B.notSynchronized
  have hP : va_P (dC, dI) vwCl [(h0, .inr (2, [.int (nI n), .ref a1, .ref a2, .ref a3, .ref a4, .ref a5, .ref a6, .ref a7])), (a1, .inl (cI, n, .inl (qS w))), (a2, .inl (cZ, n, .inl (qZ z))), (a3, .inl (cI, n, .inl (qS lo))), (a4, .inl (cI, 4, .inl (qS su))), (a5, .inl (cI, 4, .inl (qN da))), (a6, .inl (cI, 4, .inl (qS ch))), (a7, .inl (cI, 4, .inl (qS we)))] s.heap := hP
  have hl := lv_entry ([.ref h0, .int (nI x)]) (n := 4) (Nat.le_of_ble_eq_true rfl)
  rw [lg_entry_eq]
  generalize (lg_sl ([.ref h0, .int (nI x)]) ++ List.replicate (4 - (lg_sl ([.ref h0, .int (nI x)])).length) Slot.unset).toArray = ls at hl ⊢
  have hl : lv_has ls 4 [(0, .ref h0), (1, .int (nI x))] := hl
  have k_26 := hts (.fieldLink RX3 26 "DiscCoder$Word" "sums" "[I") (by decide +kernel)
  have k_23 := hts (.fieldLink RX3 23 "DiscCoder$Word" "locators" "[I") (by decide +kernel)
  have i_X3 : ∀ w ∈ u_ws RX3 TX3 8, w ∈ wsX3_isOnlyFault := by decide +kernel
  refine qr_nm (fun Q hQ => ?_)
  refine lv_aload_n hx hb dX3_isOnlyFault_0 rfl (lv_at hl 0 rfl) ?_
  refine va_get (D := (dC, dI)) (ci := 2) (v := .ref a4) (C := RX3) (T := TX3) (N := 8) hx hb hts i_X3 hown hK hP 0 rfl rfl 4 (by decide) k_26 (fun _ h9 => h9) rfl dX3_isOnlyFault_1 ?_
  refine lv_iconst (v := nI 0) hx hb dX3_isOnlyFault_4 (by decide) ?_
  refine qr_ildS hx hb hK hP 4 0 rfl rfl (by omega) (by omega) dX3_isOnlyFault_5 ?_
  refine lv_istore_n (lv' := [(2, .int (sI (su 0))), (0, .ref h0), (1, .int (nI x))]) hx hb dX3_isOnlyFault_6 rfl hl (by decide) rfl (fun ls hl => ?_)
  refine lv_iconst (v := nI 1) hx hb dX3_isOnlyFault_7 (by decide) ?_
  refine lv_istore_n (lv' := [(3, .int (nI 1)), (2, .int (sI (su 0))), (0, .ref h0), (1, .int (nI x))]) hx hb dX3_isOnlyFault_8 rfl hl (by decide) rfl (fun ls hl => ?_)
  have lp9 : ∀ (j i : Nat), i + j = 3 → ∀  (ls : Array Slot) , lv_has ls 4 [(0, .ref h0), (1, .int (nI x)), (2, .int (sI (qm_ex (su 0) (lo x) i))), (3, .int (nI (i + 1)))] → (∀ k, 0 < k → k < i + 1 → qf_m (su 0) (qf_p (lo x) k) = su k) → W p l e (headSpec wsX3_isOnlyFault ({ frames := 1, cells := 0, slots := 0, locals := 24 } : Room)).room s m ([.ref h0, .int (nI x)] : List Value).toArray below meth c s.heap [] 0 0 Q (F0 m 9 ls []) := by
    intro j
    induction j with
    | zero =>
      intro i hi  ls hl hk
      have e9 : 3 = i := by omega
      subst e9
      refine lv_iload_n hx hb dX3_isOnlyFault_9 rfl (lv_at hl 3 rfl) ?_
      refine lv_iconst (v := nI 4) hx hb dX3_isOnlyFault_10 (by decide) ?_
      refine qr_ge (tgt := 43) hx hb dX3_isOnlyFault_11 rfl (by omega) (by omega) (fun b11 => ?_) (fun h => absurd h (by omega))
      refine lv_iconst (v := zI true) hx hb dX3_isOnlyFault_43 (by decide) ?_
      subst hQ
      exact W.zret hx hb hr (qr_narZ _) (fun t ht hW => ⟨_, rfl, ⟨true, rfl, ⟨fun _ => hk, fun _ => rfl⟩⟩, ht⟩) (fun _ h => absurd h List.not_mem_nil) dX3_isOnlyFault_44
    | succ j ih =>
      intro i hi  ls hl hk
      have li : i < 3 := by omega
      refine lv_iload_n hx hb dX3_isOnlyFault_9 rfl (lv_at hl 3 rfl) ?_
      refine lv_iconst (v := nI 4) hx hb dX3_isOnlyFault_10 (by decide) ?_
      refine qr_ge (tgt := 43) hx hb dX3_isOnlyFault_11 rfl (by omega) (by omega) (fun h => absurd h (by omega)) (fun b11 => ?_)
      refine lv_iload_n hx hb dX3_isOnlyFault_14 rfl (lv_at hl 2 rfl) ?_
      refine lv_aload_n hx hb dX3_isOnlyFault_15 rfl (lv_at hl 0 rfl) ?_
      refine va_get (D := (dC, dI)) (ci := 2) (v := .ref a3) (C := RX3) (T := TX3) (N := 8) hx hb hts i_X3 hown hK hP 0 rfl rfl 3 (by decide) k_23 (fun _ h9 => h9) rfl dX3_isOnlyFault_16 ?_
      refine lv_iload_n hx hb dX3_isOnlyFault_19 rfl (lv_at hl 1 rfl) ?_
      refine qr_ildS hx hb hK hP 3 0 rfl rfl (by omega) (by omega) dX3_isOnlyFault_20 ?_
      refine vp_callSi (va_Run.run (va_runS (As := [.int (sI (qm_ex (su 0) (lo x) i)), .int (sI (lo x))]) (rest := []) ⟨hx, hb, hml, hown, hts⟩ (qc_times l (qm_ex (su 0) (lo x) i) (lo x) ) (va_cwS 2 hts gX3_isOnlyFault_X1_times rfl rfl rfl (by decide +kernel) ⟨Nat.le_of_ble_eq_true rfl, Nat.le_of_ble_eq_true rfl⟩) ⟨fun a U g mk q => q, fun U hU hW => ⟨rfl, trivial⟩⟩ rfl rfl hl.1 rfl (lv_room (Nat.le_of_ble_eq_true rfl)) dX3_isOnlyFault_21 ⟨Nat.le_of_ble_eq_true rfl, Nat.le_of_ble_eq_true rfl⟩)) (fun r21 hr21 => ?_)
      have hr21 : r21 = sI (qf_m (qm_ex (su 0) (lo x) i) (lo x)) := hr21
      subst hr21
      refine lv_istore_n (lv' := [(2, .int (sI (qf_m (qm_ex (su 0) (lo x) i) (lo x)))), (0, .ref h0), (1, .int (nI x)), (3, .int (nI (i + 1)))]) hx hb dX3_isOnlyFault_24 rfl hl (by decide) rfl (fun ls hl => ?_)
      refine lv_iload_n hx hb dX3_isOnlyFault_25 rfl (lv_at hl 0 rfl) ?_
      refine lv_aload_n hx hb dX3_isOnlyFault_26 rfl (lv_at hl 1 rfl) ?_
      refine va_get (D := (dC, dI)) (ci := 2) (v := .ref a4) (C := RX3) (T := TX3) (N := 8) hx hb hts i_X3 hown hK hP 0 rfl rfl 4 (by decide) k_26 (fun _ h9 => h9) rfl dX3_isOnlyFault_27 ?_
      refine lv_iload_n hx hb dX3_isOnlyFault_30 rfl (lv_at hl 3 rfl) ?_
      refine qr_ildS hx hb hK hP 4 0 rfl rfl (by omega) (by omega) dX3_isOnlyFault_31 ?_
      refine qr_eqS (tgt := 37) hx hb dX3_isOnlyFault_32 rfl  (fun b32 => ?_) (fun b32 => ?_)
      · refine lv_iinc (k := 3) (v := nI ((i + 1) + 1)) (lv' := [(3, .int (nI ((i + 1) + 1))), (2, .int (sI (qf_m (qm_ex (su 0) (lo x) i) (lo x)))), (0, .ref h0), (1, .int (nI x))]) hx hb dX3_isOnlyFault_37 hl rfl (qr_inc _) (by decide) rfl (fun ls hl => ?_)
        refine lv_goto (tgt := 9) hx hb dX3_isOnlyFault_40 rfl ?_
        have hl := lv_sub (l' := [(0, .ref h0), (1, .int (nI x)), (2, .int (sI (qf_m (qm_ex (su 0) (lo x) i) (lo x)))), (3, .int (nI ((i + 1) + 1)))]) hl [2, 3, 1, 0] rfl
        have e1 : qm_ex (su 0) (lo x) (i + 1) = qf_m (qm_ex (su 0) (lo x) i) (lo x) := by first | rfl | (simp only [cond_true, cond_false])
        exact ih (i + 1) (by omega)  ls (by rw [e1]; exact hl) (fun k h1 h2 => if e9 : k = i + 1 then (by rw [e9, ← qm_ex_p]; exact b32) else hk k h1 (by omega))
      · refine lv_iconst (v := zI false) hx hb dX3_isOnlyFault_35 (by decide) ?_
        subst hQ
        exact W.zret hx hb hr (qr_narZ _) (fun t ht hW => ⟨_, rfl, ⟨false, rfl, ⟨fun h => Bool.noConfusion h, fun h => absurd ((qm_ex_p _ _ _).trans (h (i + 1) (by omega) (by omega))) b32⟩⟩, ht⟩) (fun _ h => absurd h List.not_mem_nil) dX3_isOnlyFault_36
  have hl := lv_sub (l' := [(0, .ref h0), (1, .int (nI x)), (2, .int (sI (su 0))), (3, .int (nI 1))]) hl [2, 3, 1, 0] rfl
  exact lp9 3 0 (by omega)  ls hl (fun k h1 h2 => absurd h1 (by omega))
set_option maxHeartbeats 4000000 in
set_option maxRecDepth 100000 in
/-- Word.countDoubted -/
theorem qc_count (l : Launch) (dC : Nat → ClassId) (dI : Nat → Nat → Nat) (cI cZ : ClassId) (h0 a1 a2 a3 a4 a5 a6 a7 n : Nat) (w : Nat → BitVec 8) (z : Nat → Bool) (lo su : Nat → BitVec 8) (da : Nat → Nat) (ch we : Nat → BitVec 8) (hn : n ≤ 16) : Met l yX3_countDoubted wsX3_countDoubted ({ frames := 0, cells := 0, slots := 0, locals := 0 } : Room) (va_Pc [.ref h0] (fun U => va_P (dC, dI) vwCl [(h0, .inr (2, [.int (nI n), .ref a1, .ref a2, .ref a3, .ref a4, .ref a5, .ref a6, .ref a7])), (a1, .inl (cI, n, .inl (qS w))), (a2, .inl (cZ, n, .inl (qZ z))), (a3, .inl (cI, n, .inl (qS lo))), (a4, .inl (cI, 4, .inl (qS su))), (a5, .inl (cI, 4, .inl (qN da))), (a6, .inl (cI, 4, .inl (qS ch))), (a7, .inl (cI, 4, .inl (qS we)))] U.heap ∧ va_K (dC, dI) vwCl [(cI, .int), (cZ, .boolean)] U)) (vp_Si (fun r => r = nI (qd_c z n))) 0 0 (fun _ => False) := by
  refine Met.ofW (cc := cX3_countDoubted) (maxL := 3) (ret := (some .int)) (by decide) rfl ?_
  intro p e s m args below meth c s₁ B hml hv
  obtain ⟨rfl, hP, hK⟩ := hv
  have hx := B.exec
  have hb := B.bytes
  have hr := B.returns
  have hts := atoms_spec (ws := wsX3_countDoubted) B.pre
  have hown : s.vm.findClass RX3 = some m.cls := findClass_of_methodNamed B.named
  have hlocks := B.notSynchronized
  have hP : va_P (dC, dI) vwCl [(h0, .inr (2, [.int (nI n), .ref a1, .ref a2, .ref a3, .ref a4, .ref a5, .ref a6, .ref a7])), (a1, .inl (cI, n, .inl (qS w))), (a2, .inl (cZ, n, .inl (qZ z))), (a3, .inl (cI, n, .inl (qS lo))), (a4, .inl (cI, 4, .inl (qS su))), (a5, .inl (cI, 4, .inl (qN da))), (a6, .inl (cI, 4, .inl (qS ch))), (a7, .inl (cI, 4, .inl (qS we)))] s.heap := hP
  have hl := lv_entry ([.ref h0]) (n := 3) (Nat.le_of_ble_eq_true rfl)
  rw [lg_entry_eq]
  generalize (lg_sl ([.ref h0]) ++ List.replicate (3 - (lg_sl ([.ref h0])).length) Slot.unset).toArray = ls at hl ⊢
  have hl : lv_has ls 3 [(0, .ref h0)] := hl
  have k_9 := hts (.fieldLink RX3 9 "DiscCoder$Word" "size" "I") (by decide +kernel)
  have k_19 := hts (.fieldLink RX3 19 "DiscCoder$Word" "doubted" "[Z") (by decide +kernel)
  have i_X3 : ∀ w ∈ u_ws RX3 TX3 8, w ∈ wsX3_countDoubted := by decide +kernel
  refine qr_nm (fun Q hQ => ?_)
  refine lv_iconst (v := nI 0) hx hb dX3_countDoubted_0 (by decide) ?_
  refine lv_istore_n (lv' := [(1, .int (nI 0)), (0, .ref h0)]) hx hb dX3_countDoubted_1 rfl hl (by decide) rfl (fun ls hl => ?_)
  refine lv_iconst (v := nI 0) hx hb dX3_countDoubted_2 (by decide) ?_
  refine lv_istore_n (lv' := [(2, .int (nI 0)), (1, .int (nI 0)), (0, .ref h0)]) hx hb dX3_countDoubted_3 rfl hl (by decide) rfl (fun ls hl => ?_)
  have lp4 : ∀ (j i : Nat), i + j = n → ∀  (ls : Array Slot) , lv_has ls 3 [(0, .ref h0), (1, .int (nI (qd_c z i))), (2, .int (nI i))] → W p l e (headSpec wsX3_countDoubted ({ frames := 0, cells := 0, slots := 0, locals := 0 } : Room)).room s m ([.ref h0] : List Value).toArray below meth c s.heap [] 0 0 Q (F0 m 4 ls []) := by
    intro j
    induction j with
    | zero =>
      intro i hi  ls hl
      have e9 : n = i := by omega
      subst e9
      have hq9 := qd_c_le z n
      refine lv_iload_n hx hb dX3_countDoubted_4 rfl (lv_at hl 2 rfl) ?_
      refine lv_aload_n hx hb dX3_countDoubted_5 rfl (lv_at hl 0 rfl) ?_
      refine va_get (D := (dC, dI)) (ci := 2) (v := .int (nI n)) (C := RX3) (T := TX3) (N := 8) hx hb hts i_X3 hown hK hP 0 rfl rfl 0 (by decide) k_9 (fun _ h9 => h9) rfl dX3_countDoubted_6 ?_
      refine qr_ge (tgt := 30) hx hb dX3_countDoubted_9 rfl (by omega) (by omega) (fun b9 => ?_) (fun h => absurd h (by omega))
      refine lv_iload_n hx hb dX3_countDoubted_30 rfl (lv_at hl 1 rfl) ?_
      subst hQ
      exact W.iret hx hb hr (fun t ht hW => ⟨_, rfl, rfl, ht⟩) (fun _ h => absurd h List.not_mem_nil) dX3_countDoubted_31
    | succ j ih =>
      intro i hi  ls hl
      have li : i < n := by omega
      have hq9 := qd_c_le z i
      refine lv_iload_n hx hb dX3_countDoubted_4 rfl (lv_at hl 2 rfl) ?_
      refine lv_aload_n hx hb dX3_countDoubted_5 rfl (lv_at hl 0 rfl) ?_
      refine va_get (D := (dC, dI)) (ci := 2) (v := .int (nI n)) (C := RX3) (T := TX3) (N := 8) hx hb hts i_X3 hown hK hP 0 rfl rfl 0 (by decide) k_9 (fun _ h9 => h9) rfl dX3_countDoubted_6 ?_
      refine qr_ge (tgt := 30) hx hb dX3_countDoubted_9 rfl (by omega) (by omega) (fun h => absurd h (by omega)) (fun b9 => ?_)
      refine lv_aload_n hx hb dX3_countDoubted_12 rfl (lv_at hl 0 rfl) ?_
      refine va_get (D := (dC, dI)) (ci := 2) (v := .ref a2) (C := RX3) (T := TX3) (N := 8) hx hb hts i_X3 hown hK hP 0 rfl rfl 2 (by decide) k_19 (fun _ h9 => h9) rfl dX3_countDoubted_13 ?_
      refine lv_iload_n hx hb dX3_countDoubted_16 rfl (lv_at hl 2 rfl) ?_
      refine qr_zld hx hb hK hP 2 1 rfl rfl (by omega) (by omega) dX3_countDoubted_17 ?_
      refine qr_ifeqZ (tgt := 24) hx hb dX3_countDoubted_18 rfl  (fun b18 => ?_) (fun b18 => ?_)
      · refine lv_iinc (k := 2) (v := nI (i + 1)) (lv' := [(2, .int (nI (i + 1))), (0, .ref h0), (1, .int (nI (qd_c z i)))]) hx hb dX3_countDoubted_24 hl rfl (qr_inc _) (by decide) rfl (fun ls hl => ?_)
        refine lv_goto (tgt := 4) hx hb dX3_countDoubted_27 rfl ?_
        have hl := lv_sub (l' := [(0, .ref h0), (1, .int (nI (qd_c z i))), (2, .int (nI (i + 1)))]) hl [1, 2, 0] rfl
        have e1 : qd_c z (i + 1) = qd_c z i := by simp only [qd_c, b18, cond_true, cond_false]
        exact ih (i + 1) (by omega)  ls (by rw [e1]; exact hl) 
      · refine lv_iinc (k := 1) (v := nI ((qd_c z i) + 1)) (lv' := [(1, .int (nI ((qd_c z i) + 1))), (0, .ref h0), (2, .int (nI i))]) hx hb dX3_countDoubted_21 hl rfl (qr_inc _) (by decide) rfl (fun ls hl => ?_)
        refine lv_iinc (k := 2) (v := nI (i + 1)) (lv' := [(2, .int (nI (i + 1))), (1, .int (nI ((qd_c z i) + 1))), (0, .ref h0)]) hx hb dX3_countDoubted_24 hl rfl (qr_inc _) (by decide) rfl (fun ls hl => ?_)
        refine lv_goto (tgt := 4) hx hb dX3_countDoubted_27 rfl ?_
        have hl := lv_sub (l' := [(0, .ref h0), (1, .int (nI ((qd_c z i) + 1))), (2, .int (nI (i + 1)))]) hl [2, 1, 0] rfl
        have e2 : qd_c z (i + 1) = (qd_c z i) + 1 := by simp only [qd_c, b18, cond_true, cond_false]
        exact ih (i + 1) (by omega)  ls (by rw [e2]; exact hl) 
  have hl := lv_sub (l' := [(0, .ref h0), (1, .int (nI 0)), (2, .int (nI 0))]) hl [2, 1, 0] rfl
  exact lp4 n 0 (by omega)  ls hl 
set_option maxHeartbeats 4000000 in
set_option maxRecDepth 100000 in
/-- Word.listDoubted -/
theorem qc_list (l : Launch) (dC : Nat → ClassId) (dI : Nat → Nat → Nat) (cI cZ : ClassId) (h0 a1 a2 a3 a4 a5 a6 a7 n : Nat) (w : Nat → BitVec 8) (z : Nat → Bool) (lo su : Nat → BitVec 8) (da : Nat → Nat) (ch we : Nat → BitVec 8) (sz : Nat) (hn : n ≤ 16) (hm : qd_c z n ≤ 4) : Met l yX3_listDoubted wsX3_listDoubted ({ frames := 0, cells := 0, slots := 0, locals := 0 } : Room) (va_Pc [.ref h0] (fun U => U.heap.size = sz ∧ va_P (dC, dI) vwCl [(h0, .inr (2, [.int (nI n), .ref a1, .ref a2, .ref a3, .ref a4, .ref a5, .ref a6, .ref a7])), (a1, .inl (cI, n, .inl (qS w))), (a2, .inl (cZ, n, .inl (qZ z))), (a3, .inl (cI, n, .inl (qS lo))), (a4, .inl (cI, 4, .inl (qS su))), (a5, .inl (cI, 4, .inl (qN da))), (a6, .inl (cI, 4, .inl (qS ch))), (a7, .inl (cI, 4, .inl (qS we)))] U.heap ∧ va_K (dC, dI) vwCl [(cI, .int), (cZ, .boolean)] U ∧ va_D (fun _ => True) [(h0, .inr (2, [.int (nI n), .ref a1, .ref a2, .ref a3, .ref a4, .ref a5, .ref a6, .ref a7])), (a1, .inl (cI, n, .inl (qS w))), (a2, .inl (cZ, n, .inl (qZ z))), (a3, .inl (cI, n, .inl (qS lo))), (a4, .inl (cI, 4, .inl (qS su))), (a5, .inl (cI, 4, .inl (qN da))), (a6, .inl (cI, 4, .inl (qS ch))), (a7, .inl (cI, 4, .inl (qS we)))])) (va_Qv (fun (_ : Unit) => True) (fun _ t => va_P (dC, dI) vwCl [(h0, .inr (2, [.int (nI n), .ref a1, .ref a2, .ref a3, .ref a4, .ref a5, .ref a6, .ref a7])), (a1, .inl (cI, n, .inl (qS w))), (a2, .inl (cZ, n, .inl (qZ z))), (a3, .inl (cI, n, .inl (qS lo))), (a4, .inl (cI, 4, .inl (qS su))), (a5, .inl (cI, 4, .inl (qN (qd_d z da n)))), (a6, .inl (cI, 4, .inl (qS ch))), (a7, .inl (cI, 4, .inl (qS we)))] t.heap ∧ va_K (dC, dI) vwCl [(cI, .int), (cZ, .boolean)] t ∧ va_D (va_A [(h0, .inr (2, [.int (nI n), .ref a1, .ref a2, .ref a3, .ref a4, .ref a5, .ref a6, .ref a7])), (a1, .inl (cI, n, .inl (qS w))), (a2, .inl (cZ, n, .inl (qZ z))), (a3, .inl (cI, n, .inl (qS lo))), (a4, .inl (cI, 4, .inl (qS su))), (a5, .inl (cI, 4, .inl (qN da))), (a6, .inl (cI, 4, .inl (qS ch))), (a7, .inl (cI, 4, .inl (qS we)))] sz) [(h0, .inr (2, [.int (nI n), .ref a1, .ref a2, .ref a3, .ref a4, .ref a5, .ref a6, .ref a7])), (a1, .inl (cI, n, .inl (qS w))), (a2, .inl (cZ, n, .inl (qZ z))), (a3, .inl (cI, n, .inl (qS lo))), (a4, .inl (cI, 4, .inl (qS su))), (a5, .inl (cI, 4, .inl (qN (qd_d z da n)))), (a6, .inl (cI, 4, .inl (qS ch))), (a7, .inl (cI, 4, .inl (qS we)))]) (va_A [(h0, .inr (2, [.int (nI n), .ref a1, .ref a2, .ref a3, .ref a4, .ref a5, .ref a6, .ref a7])), (a1, .inl (cI, n, .inl (qS w))), (a2, .inl (cZ, n, .inl (qZ z))), (a3, .inl (cI, n, .inl (qS lo))), (a4, .inl (cI, 4, .inl (qS su))), (a5, .inl (cI, 4, .inl (qN da))), (a6, .inl (cI, 4, .inl (qS ch))), (a7, .inl (cI, 4, .inl (qS we)))] sz)) 0 0 (va_A [(h0, .inr (2, [.int (nI n), .ref a1, .ref a2, .ref a3, .ref a4, .ref a5, .ref a6, .ref a7])), (a1, .inl (cI, n, .inl (qS w))), (a2, .inl (cZ, n, .inl (qZ z))), (a3, .inl (cI, n, .inl (qS lo))), (a4, .inl (cI, 4, .inl (qS su))), (a5, .inl (cI, 4, .inl (qN da))), (a6, .inl (cI, 4, .inl (qS ch))), (a7, .inl (cI, 4, .inl (qS we)))] sz) := by
  refine Met.ofW (cc := cX3_listDoubted) (maxL := 3) (ret := none) (by decide) rfl ?_
  intro p e s m args below meth c s₁ B hml hv
  obtain ⟨rfl, hsz, hP, hK, hD0⟩ := hv
  have hx := B.exec
  have hb := B.bytes
  have hr := B.returns
  have hts := atoms_spec (ws := wsX3_listDoubted) B.pre
  have hown : s.vm.findClass RX3 = some m.cls := findClass_of_methodNamed B.named
  have hlocks := B.notSynchronized
  subst hsz
  have hD := hD0.self (sz := s.heap.size)
  generalize hAe : va_A [(h0, .inr (2, [.int (nI n), .ref a1, .ref a2, .ref a3, .ref a4, .ref a5, .ref a6, .ref a7])), (a1, .inl (cI, n, .inl (qS w))), (a2, .inl (cZ, n, .inl (qZ z))), (a3, .inl (cI, n, .inl (qS lo))), (a4, .inl (cI, 4, .inl (qS su))), (a5, .inl (cI, 4, .inl (qN da))), (a6, .inl (cI, 4, .inl (qS ch))), (a7, .inl (cI, 4, .inl (qS we)))] s.heap.size = A at hD ⊢
  have hA : ∀ q : Nat, s.heap.size ≤ q → A q := fun q h => by rw [← hAe]; exact Or.inr h
  have hS : va_S A s.heap s.heap [] := va_S.rf
  have hP : va_P (dC, dI) vwCl [(h0, .inr (2, [.int (nI n), .ref a1, .ref a2, .ref a3, .ref a4, .ref a5, .ref a6, .ref a7])), (a1, .inl (cI, n, .inl (qS w))), (a2, .inl (cZ, n, .inl (qZ z))), (a3, .inl (cI, n, .inl (qS lo))), (a4, .inl (cI, 4, .inl (qS su))), (a5, .inl (cI, 4, .inl (qN da))), (a6, .inl (cI, 4, .inl (qS ch))), (a7, .inl (cI, 4, .inl (qS we)))] s.heap := hP
  have hl := lv_entry ([.ref h0]) (n := 3) (Nat.le_of_ble_eq_true rfl)
  rw [lg_entry_eq]
  generalize (lg_sl ([.ref h0]) ++ List.replicate (3 - (lg_sl ([.ref h0])).length) Slot.unset).toArray = ls at hl ⊢
  have hl : lv_has ls 3 [(0, .ref h0)] := hl
  have k_9 := hts (.fieldLink RX3 9 "DiscCoder$Word" "size" "I") (by decide +kernel)
  have k_19 := hts (.fieldLink RX3 19 "DiscCoder$Word" "doubted" "[Z") (by decide +kernel)
  have k_29 := hts (.fieldLink RX3 29 "DiscCoder$Word" "doubtedAt" "[I") (by decide +kernel)
  have i_X3 : ∀ w ∈ u_ws RX3 TX3 8, w ∈ wsX3_listDoubted := by decide +kernel
  refine qr_nm (fun Q hQ => ?_)
  refine lv_iconst (v := nI 0) hx hb dX3_listDoubted_0 (by decide) ?_
  refine lv_istore_n (lv' := [(1, .int (nI 0)), (0, .ref h0)]) hx hb dX3_listDoubted_1 rfl hl (by decide) rfl (fun ls hl => ?_)
  refine lv_iconst (v := nI 0) hx hb dX3_listDoubted_2 (by decide) ?_
  refine lv_istore_n (lv' := [(2, .int (nI 0)), (1, .int (nI 0)), (0, .ref h0)]) hx hb dX3_listDoubted_3 rfl hl (by decide) rfl (fun ls hl => ?_)
  have lp4 : ∀ (j i : Nat), i + j = n → ∀  (ls : Array Slot) (H : Heap) (locs : List Loc), lv_has ls 3 [(0, .ref h0), (1, .int (nI (qd_c z i))), (2, .int (nI i))] → va_P (dC, dI) vwCl [(h0, .inr (2, [.int (nI n), .ref a1, .ref a2, .ref a3, .ref a4, .ref a5, .ref a6, .ref a7])), (a1, .inl (cI, n, .inl (qS w))), (a2, .inl (cZ, n, .inl (qZ z))), (a3, .inl (cI, n, .inl (qS lo))), (a4, .inl (cI, 4, .inl (qS su))), (a5, .inl (cI, 4, .inl (qN (qd_d z da i)))), (a6, .inl (cI, 4, .inl (qS ch))), (a7, .inl (cI, 4, .inl (qS we)))] H → va_D A [(h0, .inr (2, [.int (nI n), .ref a1, .ref a2, .ref a3, .ref a4, .ref a5, .ref a6, .ref a7])), (a1, .inl (cI, n, .inl (qS w))), (a2, .inl (cZ, n, .inl (qZ z))), (a3, .inl (cI, n, .inl (qS lo))), (a4, .inl (cI, 4, .inl (qS su))), (a5, .inl (cI, 4, .inl (qN (qd_d z da i)))), (a6, .inl (cI, 4, .inl (qS ch))), (a7, .inl (cI, 4, .inl (qS we)))] → va_S A s.heap H locs → W p l e (headSpec wsX3_listDoubted ({ frames := 0, cells := 0, slots := 0, locals := 0 } : Room)).room s m ([.ref h0] : List Value).toArray below meth c H locs 0 0 Q (F0 m 4 ls []) := by
    intro j
    induction j with
    | zero =>
      intro i hi  ls H locs hl hP hD hS
      have e9 : n = i := by omega
      subst e9
      have hq9 := qd_c_le z n
      refine lv_iload_n hx hb dX3_listDoubted_4 rfl (lv_at hl 2 rfl) ?_
      refine lv_aload_n hx hb dX3_listDoubted_5 rfl (lv_at hl 0 rfl) ?_
      refine va_get (D := (dC, dI)) (ci := 2) (v := .int (nI n)) (C := RX3) (T := TX3) (N := 8) hx hb hts i_X3 hown hK hP 0 rfl rfl 0 (by decide) k_9 (fun _ h9 => h9) rfl dX3_listDoubted_6 ?_
      refine qr_ge (tgt := 42) hx hb dX3_listDoubted_9 rfl (by omega) (by omega) (fun b9 => ?_) (fun h => absurd h (by omega))
      subst hQ
      exact W.vret hx hb hr (fun t ht hW => ⟨⟨(), rfl, trivial, by rw [ht]; exact hP, va_K.moved hW.alike hK, hD⟩, hS.F ht⟩) hS.2.2 dX3_listDoubted_42
    | succ j ih =>
      intro i hi  ls H locs hl hP hD hS
      have li : i < n := by omega
      have hq9 := qd_c_le z i
      refine lv_iload_n hx hb dX3_listDoubted_4 rfl (lv_at hl 2 rfl) ?_
      refine lv_aload_n hx hb dX3_listDoubted_5 rfl (lv_at hl 0 rfl) ?_
      refine va_get (D := (dC, dI)) (ci := 2) (v := .int (nI n)) (C := RX3) (T := TX3) (N := 8) hx hb hts i_X3 hown hK hP 0 rfl rfl 0 (by decide) k_9 (fun _ h9 => h9) rfl dX3_listDoubted_6 ?_
      refine qr_ge (tgt := 42) hx hb dX3_listDoubted_9 rfl (by omega) (by omega) (fun h => absurd h (by omega)) (fun b9 => ?_)
      refine lv_aload_n hx hb dX3_listDoubted_12 rfl (lv_at hl 0 rfl) ?_
      refine va_get (D := (dC, dI)) (ci := 2) (v := .ref a2) (C := RX3) (T := TX3) (N := 8) hx hb hts i_X3 hown hK hP 0 rfl rfl 2 (by decide) k_19 (fun _ h9 => h9) rfl dX3_listDoubted_13 ?_
      refine lv_iload_n hx hb dX3_listDoubted_16 rfl (lv_at hl 2 rfl) ?_
      refine qr_zld hx hb hK hP 2 1 rfl rfl (by omega) (by omega) dX3_listDoubted_17 ?_
      refine qr_ifeqZ (tgt := 36) hx hb dX3_listDoubted_18 rfl  (fun b18 => ?_) (fun b18 => ?_)
      · refine lv_iinc (k := 2) (v := nI (i + 1)) (lv' := [(2, .int (nI (i + 1))), (0, .ref h0), (1, .int (nI (qd_c z i)))]) hx hb dX3_listDoubted_36 hl rfl (qr_inc _) (by decide) rfl (fun ls hl => ?_)
        refine lv_goto (tgt := 4) hx hb dX3_listDoubted_39 rfl ?_
        have hl := lv_sub (l' := [(0, .ref h0), (1, .int (nI (qd_c z i))), (2, .int (nI (i + 1)))]) hl [1, 2, 0] rfl
        have e1 : qd_c z (i + 1) = qd_c z i := by simp only [qd_c, b18, cond_true, cond_false]
        have e2 : qd_d z da (i + 1) = qd_d z da i := by simp only [qd_d, b18, cond_true, cond_false]
        exact ih (i + 1) (by omega)  ls H _ (by rw [e1]; exact hl) (by rw [e2]; exact hP) (by rw [e2]; exact hD) hS 
      · refine lv_iload_n hx hb dX3_listDoubted_21 rfl (lv_at hl 1 rfl) ?_
        refine lv_iconst (v := nI 4) hx hb dX3_listDoubted_22 (by decide) ?_
        refine qr_ge (tgt := 36) hx hb dX3_listDoubted_23 rfl (by omega) (by omega) (fun h => absurd h (by have := qd_c_lt z li b18; omega)) (fun b23 => ?_)
        refine lv_aload_n hx hb dX3_listDoubted_26 rfl (lv_at hl 0 rfl) ?_
        refine va_get (D := (dC, dI)) (ci := 2) (v := .ref a5) (C := RX3) (T := TX3) (N := 8) hx hb hts i_X3 hown hK hP 0 rfl rfl 5 (by decide) k_29 (fun _ h9 => h9) rfl dX3_listDoubted_27 ?_
        refine lv_iload_n hx hb dX3_listDoubted_30 rfl (lv_at hl 1 rfl) ?_
        refine lv_iload_n hx hb dX3_listDoubted_31 rfl (lv_at hl 2 rfl) ?_
        refine qr_istN (x := i) hx hb hK hP hD hS 5 0 rfl rfl (by have := qd_c_lt z li b18; omega) (by omega) dX3_listDoubted_32 (fun H locs hP hD hS => ?_)
        have hP : va_P (dC, dI) vwCl [(h0, .inr (2, [.int (nI n), .ref a1, .ref a2, .ref a3, .ref a4, .ref a5, .ref a6, .ref a7])), (a1, .inl (cI, n, .inl (qS w))), (a2, .inl (cZ, n, .inl (qZ z))), (a3, .inl (cI, n, .inl (qS lo))), (a4, .inl (cI, 4, .inl (qS su))), (a5, .inl (cI, 4, .inl (qN (va_up (qd_d z da i) (qd_c z i) i)))), (a6, .inl (cI, 4, .inl (qS ch))), (a7, .inl (cI, 4, .inl (qS we)))] H := hP
        have hD : va_D A [(h0, .inr (2, [.int (nI n), .ref a1, .ref a2, .ref a3, .ref a4, .ref a5, .ref a6, .ref a7])), (a1, .inl (cI, n, .inl (qS w))), (a2, .inl (cZ, n, .inl (qZ z))), (a3, .inl (cI, n, .inl (qS lo))), (a4, .inl (cI, 4, .inl (qS su))), (a5, .inl (cI, 4, .inl (qN (va_up (qd_d z da i) (qd_c z i) i)))), (a6, .inl (cI, 4, .inl (qS ch))), (a7, .inl (cI, 4, .inl (qS we)))] := hD
        refine lv_iinc (k := 1) (v := nI ((qd_c z i) + 1)) (lv' := [(1, .int (nI ((qd_c z i) + 1))), (0, .ref h0), (2, .int (nI i))]) hx hb dX3_listDoubted_33 hl rfl (qr_inc _) (by decide) rfl (fun ls hl => ?_)
        refine lv_iinc (k := 2) (v := nI (i + 1)) (lv' := [(2, .int (nI (i + 1))), (1, .int (nI ((qd_c z i) + 1))), (0, .ref h0)]) hx hb dX3_listDoubted_36 hl rfl (qr_inc _) (by decide) rfl (fun ls hl => ?_)
        refine lv_goto (tgt := 4) hx hb dX3_listDoubted_39 rfl ?_
        have hl := lv_sub (l' := [(0, .ref h0), (1, .int (nI ((qd_c z i) + 1))), (2, .int (nI (i + 1)))]) hl [2, 1, 0] rfl
        have e3 : qd_c z (i + 1) = (qd_c z i) + 1 := by simp only [qd_c, b18, cond_true, cond_false]
        have e4 : qd_d z da (i + 1) = va_up (qd_d z da i) (qd_c z i) i := by simp only [qd_d, b18, cond_true, cond_false]
        exact ih (i + 1) (by omega)  ls H _ (by rw [e3]; exact hl) (by rw [e4]; exact hP) (by rw [e4]; exact hD) hS 
  have hl := lv_sub (l' := [(0, .ref h0), (1, .int (nI 0)), (2, .int (nI 0))]) hl [2, 1, 0] rfl
  exact lp4 n 0 (by omega)  ls s.heap _ hl hP hD hS 
set_option maxHeartbeats 4000000 in
set_option maxRecDepth 100000 in
/-- Word.addChanges -/
theorem qc_add (l : Launch) (dC : Nat → ClassId) (dI : Nat → Nat → Nat) (cI cZ : ClassId) (h0 a1 a2 a3 a4 a5 a6 a7 n : Nat) (w : Nat → BitVec 8) (z : Nat → Bool) (lo su : Nat → BitVec 8) (da : Nat → Nat) (ch we : Nat → BitVec 8) (mm : Nat) (sz : Nat) (hn : n ≤ 16) (hm : mm ≤ 4) (hd : ∀ c, c < mm → da c < n) : Met l yX3_addChanges wsX3_addChanges ({ frames := 0, cells := 0, slots := 0, locals := 0 } : Room) (va_Pc [.ref h0, .int (nI mm)] (fun U => U.heap.size = sz ∧ va_P (dC, dI) vwCl [(h0, .inr (2, [.int (nI n), .ref a1, .ref a2, .ref a3, .ref a4, .ref a5, .ref a6, .ref a7])), (a1, .inl (cI, n, .inl (qS w))), (a2, .inl (cZ, n, .inl (qZ z))), (a3, .inl (cI, n, .inl (qS lo))), (a4, .inl (cI, 4, .inl (qS su))), (a5, .inl (cI, 4, .inl (qN da))), (a6, .inl (cI, 4, .inl (qS ch))), (a7, .inl (cI, 4, .inl (qS we)))] U.heap ∧ va_K (dC, dI) vwCl [(cI, .int), (cZ, .boolean)] U ∧ va_D (fun _ => True) [(h0, .inr (2, [.int (nI n), .ref a1, .ref a2, .ref a3, .ref a4, .ref a5, .ref a6, .ref a7])), (a1, .inl (cI, n, .inl (qS w))), (a2, .inl (cZ, n, .inl (qZ z))), (a3, .inl (cI, n, .inl (qS lo))), (a4, .inl (cI, 4, .inl (qS su))), (a5, .inl (cI, 4, .inl (qN da))), (a6, .inl (cI, 4, .inl (qS ch))), (a7, .inl (cI, 4, .inl (qS we)))])) (va_Qv (fun (_ : Unit) => True) (fun _ t => va_P (dC, dI) vwCl [(h0, .inr (2, [.int (nI n), .ref a1, .ref a2, .ref a3, .ref a4, .ref a5, .ref a6, .ref a7])), (a1, .inl (cI, n, .inl (qS (qw_a w da ch mm)))), (a2, .inl (cZ, n, .inl (qZ z))), (a3, .inl (cI, n, .inl (qS lo))), (a4, .inl (cI, 4, .inl (qS su))), (a5, .inl (cI, 4, .inl (qN da))), (a6, .inl (cI, 4, .inl (qS ch))), (a7, .inl (cI, 4, .inl (qS we)))] t.heap ∧ va_K (dC, dI) vwCl [(cI, .int), (cZ, .boolean)] t ∧ va_D (va_A [(h0, .inr (2, [.int (nI n), .ref a1, .ref a2, .ref a3, .ref a4, .ref a5, .ref a6, .ref a7])), (a1, .inl (cI, n, .inl (qS w))), (a2, .inl (cZ, n, .inl (qZ z))), (a3, .inl (cI, n, .inl (qS lo))), (a4, .inl (cI, 4, .inl (qS su))), (a5, .inl (cI, 4, .inl (qN da))), (a6, .inl (cI, 4, .inl (qS ch))), (a7, .inl (cI, 4, .inl (qS we)))] sz) [(h0, .inr (2, [.int (nI n), .ref a1, .ref a2, .ref a3, .ref a4, .ref a5, .ref a6, .ref a7])), (a1, .inl (cI, n, .inl (qS (qw_a w da ch mm)))), (a2, .inl (cZ, n, .inl (qZ z))), (a3, .inl (cI, n, .inl (qS lo))), (a4, .inl (cI, 4, .inl (qS su))), (a5, .inl (cI, 4, .inl (qN da))), (a6, .inl (cI, 4, .inl (qS ch))), (a7, .inl (cI, 4, .inl (qS we)))]) (va_A [(h0, .inr (2, [.int (nI n), .ref a1, .ref a2, .ref a3, .ref a4, .ref a5, .ref a6, .ref a7])), (a1, .inl (cI, n, .inl (qS w))), (a2, .inl (cZ, n, .inl (qZ z))), (a3, .inl (cI, n, .inl (qS lo))), (a4, .inl (cI, 4, .inl (qS su))), (a5, .inl (cI, 4, .inl (qN da))), (a6, .inl (cI, 4, .inl (qS ch))), (a7, .inl (cI, 4, .inl (qS we)))] sz)) 0 0 (va_A [(h0, .inr (2, [.int (nI n), .ref a1, .ref a2, .ref a3, .ref a4, .ref a5, .ref a6, .ref a7])), (a1, .inl (cI, n, .inl (qS w))), (a2, .inl (cZ, n, .inl (qZ z))), (a3, .inl (cI, n, .inl (qS lo))), (a4, .inl (cI, 4, .inl (qS su))), (a5, .inl (cI, 4, .inl (qN da))), (a6, .inl (cI, 4, .inl (qS ch))), (a7, .inl (cI, 4, .inl (qS we)))] sz) := by
  refine Met.ofW (cc := cX3_addChanges) (maxL := 3) (ret := none) (by decide) rfl ?_
  intro p e s m args below meth c s₁ B hml hv
  obtain ⟨rfl, hsz, hP, hK, hD0⟩ := hv
  have hx := B.exec
  have hb := B.bytes
  have hr := B.returns
  have hts := atoms_spec (ws := wsX3_addChanges) B.pre
  have hown : s.vm.findClass RX3 = some m.cls := findClass_of_methodNamed B.named
  have hlocks := B.notSynchronized
  subst hsz
  have hD := hD0.self (sz := s.heap.size)
  generalize hAe : va_A [(h0, .inr (2, [.int (nI n), .ref a1, .ref a2, .ref a3, .ref a4, .ref a5, .ref a6, .ref a7])), (a1, .inl (cI, n, .inl (qS w))), (a2, .inl (cZ, n, .inl (qZ z))), (a3, .inl (cI, n, .inl (qS lo))), (a4, .inl (cI, 4, .inl (qS su))), (a5, .inl (cI, 4, .inl (qN da))), (a6, .inl (cI, 4, .inl (qS ch))), (a7, .inl (cI, 4, .inl (qS we)))] s.heap.size = A at hD ⊢
  have hA : ∀ q : Nat, s.heap.size ≤ q → A q := fun q h => by rw [← hAe]; exact Or.inr h
  have hS : va_S A s.heap s.heap [] := va_S.rf
  have hP : va_P (dC, dI) vwCl [(h0, .inr (2, [.int (nI n), .ref a1, .ref a2, .ref a3, .ref a4, .ref a5, .ref a6, .ref a7])), (a1, .inl (cI, n, .inl (qS w))), (a2, .inl (cZ, n, .inl (qZ z))), (a3, .inl (cI, n, .inl (qS lo))), (a4, .inl (cI, 4, .inl (qS su))), (a5, .inl (cI, 4, .inl (qN da))), (a6, .inl (cI, 4, .inl (qS ch))), (a7, .inl (cI, 4, .inl (qS we)))] s.heap := hP
  have hl := lv_entry ([.ref h0, .int (nI mm)]) (n := 3) (Nat.le_of_ble_eq_true rfl)
  rw [lg_entry_eq]
  generalize (lg_sl ([.ref h0, .int (nI mm)]) ++ List.replicate (3 - (lg_sl ([.ref h0, .int (nI mm)])).length) Slot.unset).toArray = ls at hl ⊢
  have hl : lv_has ls 3 [(0, .ref h0), (1, .int (nI mm))] := hl
  have k_15 := hts (.fieldLink RX3 15 "DiscCoder$Word" "symbols" "[I") (by decide +kernel)
  have k_29 := hts (.fieldLink RX3 29 "DiscCoder$Word" "doubtedAt" "[I") (by decide +kernel)
  have k_32 := hts (.fieldLink RX3 32 "DiscCoder$Word" "changes" "[I") (by decide +kernel)
  have i_X3 : ∀ w ∈ u_ws RX3 TX3 8, w ∈ wsX3_addChanges := by decide +kernel
  refine qr_nm (fun Q hQ => ?_)
  refine lv_iconst (v := nI 0) hx hb dX3_addChanges_0 (by decide) ?_
  refine lv_istore_n (lv' := [(2, .int (nI 0)), (0, .ref h0), (1, .int (nI mm))]) hx hb dX3_addChanges_1 rfl hl (by decide) rfl (fun ls hl => ?_)
  have lp2 : ∀ (j k : Nat), k + j = mm → ∀  (ls : Array Slot) (H : Heap) (locs : List Loc), lv_has ls 3 [(0, .ref h0), (1, .int (nI mm)), (2, .int (nI k))] → va_P (dC, dI) vwCl [(h0, .inr (2, [.int (nI n), .ref a1, .ref a2, .ref a3, .ref a4, .ref a5, .ref a6, .ref a7])), (a1, .inl (cI, n, .inl (qS (qw_a w da ch k)))), (a2, .inl (cZ, n, .inl (qZ z))), (a3, .inl (cI, n, .inl (qS lo))), (a4, .inl (cI, 4, .inl (qS su))), (a5, .inl (cI, 4, .inl (qN da))), (a6, .inl (cI, 4, .inl (qS ch))), (a7, .inl (cI, 4, .inl (qS we)))] H → va_D A [(h0, .inr (2, [.int (nI n), .ref a1, .ref a2, .ref a3, .ref a4, .ref a5, .ref a6, .ref a7])), (a1, .inl (cI, n, .inl (qS (qw_a w da ch k)))), (a2, .inl (cZ, n, .inl (qZ z))), (a3, .inl (cI, n, .inl (qS lo))), (a4, .inl (cI, 4, .inl (qS su))), (a5, .inl (cI, 4, .inl (qN da))), (a6, .inl (cI, 4, .inl (qS ch))), (a7, .inl (cI, 4, .inl (qS we)))] → va_S A s.heap H locs → W p l e (headSpec wsX3_addChanges ({ frames := 0, cells := 0, slots := 0, locals := 0 } : Room)).room s m ([.ref h0, .int (nI mm)] : List Value).toArray below meth c H locs 0 0 Q (F0 m 2 ls []) := by
    intro j
    induction j with
    | zero =>
      intro k hk  ls H locs hl hP hD hS
      have e9 : mm = k := by omega
      subst e9
      refine lv_iload_n hx hb dX3_addChanges_2 rfl (lv_at hl 2 rfl) ?_
      refine lv_iload_n hx hb dX3_addChanges_3 rfl (lv_at hl 1 rfl) ?_
      refine qr_ge (tgt := 33) hx hb dX3_addChanges_4 rfl (by omega) (by omega) (fun b4 => ?_) (fun h => absurd h (by omega))
      subst hQ
      exact W.vret hx hb hr (fun t ht hW => ⟨⟨(), rfl, trivial, by rw [ht]; exact hP, va_K.moved hW.alike hK, hD⟩, hS.F ht⟩) hS.2.2 dX3_addChanges_33
    | succ j ih =>
      intro k hk  ls H locs hl hP hD hS
      have lk : k < mm := by omega
      refine lv_iload_n hx hb dX3_addChanges_2 rfl (lv_at hl 2 rfl) ?_
      refine lv_iload_n hx hb dX3_addChanges_3 rfl (lv_at hl 1 rfl) ?_
      refine qr_ge (tgt := 33) hx hb dX3_addChanges_4 rfl (by omega) (by omega) (fun h => absurd h (by omega)) (fun b4 => ?_)
      refine lv_aload_n hx hb dX3_addChanges_7 rfl (lv_at hl 0 rfl) ?_
      refine va_get (D := (dC, dI)) (ci := 2) (v := .ref a1) (C := RX3) (T := TX3) (N := 8) hx hb hts i_X3 hown hK hP 0 rfl rfl 1 (by decide) k_15 (fun _ h9 => h9) rfl dX3_addChanges_8 ?_
      refine lv_aload_n hx hb dX3_addChanges_11 rfl (lv_at hl 0 rfl) ?_
      refine va_get (D := (dC, dI)) (ci := 2) (v := .ref a5) (C := RX3) (T := TX3) (N := 8) hx hb hts i_X3 hown hK hP 0 rfl rfl 5 (by decide) k_29 (fun _ h9 => h9) rfl dX3_addChanges_12 ?_
      refine lv_iload_n hx hb dX3_addChanges_15 rfl (lv_at hl 2 rfl) ?_
      refine qr_ildN hx hb hK hP 5 0 rfl rfl (by omega) (by omega) dX3_addChanges_16 ?_
      refine lv_dup2_11 hx hb dX3_addChanges_17 rfl rfl ?_
      refine qr_ildS hx hb hK hP 1 0 rfl rfl (hd k lk) (by omega) dX3_addChanges_18 ?_
      refine lv_aload_n hx hb dX3_addChanges_19 rfl (lv_at hl 0 rfl) ?_
      refine va_get (D := (dC, dI)) (ci := 2) (v := .ref a6) (C := RX3) (T := TX3) (N := 8) hx hb hts i_X3 hown hK hP 0 rfl rfl 6 (by decide) k_32 (fun _ h9 => h9) rfl dX3_addChanges_20 ?_
      refine lv_iload_n hx hb dX3_addChanges_23 rfl (lv_at hl 2 rfl) ?_
      refine qr_ildS hx hb hK hP 6 0 rfl rfl (by omega) (by omega) dX3_addChanges_24 ?_
      refine qr_ixor (z := sI (((qw_a w da ch k) (da k)) ^^^ (ch k))) hx hb dX3_addChanges_25 (sI_xor _ _) ?_
      refine qr_istS (x := ((qw_a w da ch k) (da k)) ^^^ (ch k)) hx hb hK hP hD hS 1 0 rfl rfl (hd k lk) (by omega) dX3_addChanges_26 (fun H locs hP hD hS => ?_)
      have hP : va_P (dC, dI) vwCl [(h0, .inr (2, [.int (nI n), .ref a1, .ref a2, .ref a3, .ref a4, .ref a5, .ref a6, .ref a7])), (a1, .inl (cI, n, .inl (qS (va_up (qw_a w da ch k) (da k) (((qw_a w da ch k) (da k)) ^^^ (ch k)))))), (a2, .inl (cZ, n, .inl (qZ z))), (a3, .inl (cI, n, .inl (qS lo))), (a4, .inl (cI, 4, .inl (qS su))), (a5, .inl (cI, 4, .inl (qN da))), (a6, .inl (cI, 4, .inl (qS ch))), (a7, .inl (cI, 4, .inl (qS we)))] H := hP
      have hD : va_D A [(h0, .inr (2, [.int (nI n), .ref a1, .ref a2, .ref a3, .ref a4, .ref a5, .ref a6, .ref a7])), (a1, .inl (cI, n, .inl (qS (va_up (qw_a w da ch k) (da k) (((qw_a w da ch k) (da k)) ^^^ (ch k)))))), (a2, .inl (cZ, n, .inl (qZ z))), (a3, .inl (cI, n, .inl (qS lo))), (a4, .inl (cI, 4, .inl (qS su))), (a5, .inl (cI, 4, .inl (qN da))), (a6, .inl (cI, 4, .inl (qS ch))), (a7, .inl (cI, 4, .inl (qS we)))] := hD
      refine lv_iinc (k := 2) (v := nI (k + 1)) (lv' := [(2, .int (nI (k + 1))), (0, .ref h0), (1, .int (nI mm))]) hx hb dX3_addChanges_27 hl rfl (qr_inc _) (by decide) rfl (fun ls hl => ?_)
      refine lv_goto (tgt := 2) hx hb dX3_addChanges_30 rfl ?_
      have hl := lv_sub (l' := [(0, .ref h0), (1, .int (nI mm)), (2, .int (nI (k + 1)))]) hl [1, 2, 0] rfl
      have e1 : qw_a w da ch (k + 1) = va_up (qw_a w da ch k) (da k) (((qw_a w da ch k) (da k)) ^^^ (ch k)) := by first | rfl | (simp only [cond_true, cond_false])
      exact ih (k + 1) (by omega)  ls H _ (by exact hl) (by rw [e1]; exact hP) (by rw [e1]; exact hD) hS 
  have hl := lv_sub (l' := [(0, .ref h0), (1, .int (nI mm)), (2, .int (nI 0))]) hl [1, 2, 0] rfl
  exact lp2 mm 0 (by omega)  ls s.heap _ hl hP hD hS 
set_option maxHeartbeats 4000000 in
set_option maxRecDepth 100000 in
/-- Word.startWeights -/
theorem qc_start (l : Launch) (dC : Nat → ClassId) (dI : Nat → Nat → Nat) (cI cZ : ClassId) (h0 a1 a2 a3 a4 a5 a6 a7 n : Nat) (w : Nat → BitVec 8) (z : Nat → Bool) (lo su : Nat → BitVec 8) (da : Nat → Nat) (ch we : Nat → BitVec 8) (sz : Nat) (hn : n ≤ 16) : Met l yX3_startWeights wsX3_startWeights ({ frames := 0, cells := 0, slots := 0, locals := 0 } : Room) (va_Pc [.ref h0] (fun U => U.heap.size = sz ∧ va_P (dC, dI) vwCl [(h0, .inr (2, [.int (nI n), .ref a1, .ref a2, .ref a3, .ref a4, .ref a5, .ref a6, .ref a7])), (a1, .inl (cI, n, .inl (qS w))), (a2, .inl (cZ, n, .inl (qZ z))), (a3, .inl (cI, n, .inl (qS lo))), (a4, .inl (cI, 4, .inl (qS su))), (a5, .inl (cI, 4, .inl (qN da))), (a6, .inl (cI, 4, .inl (qS ch))), (a7, .inl (cI, 4, .inl (qS we)))] U.heap ∧ va_K (dC, dI) vwCl [(cI, .int), (cZ, .boolean)] U ∧ va_D (fun _ => True) [(h0, .inr (2, [.int (nI n), .ref a1, .ref a2, .ref a3, .ref a4, .ref a5, .ref a6, .ref a7])), (a1, .inl (cI, n, .inl (qS w))), (a2, .inl (cZ, n, .inl (qZ z))), (a3, .inl (cI, n, .inl (qS lo))), (a4, .inl (cI, 4, .inl (qS su))), (a5, .inl (cI, 4, .inl (qN da))), (a6, .inl (cI, 4, .inl (qS ch))), (a7, .inl (cI, 4, .inl (qS we)))])) (va_Qv (fun (_ : Unit) => True) (fun _ t => va_P (dC, dI) vwCl [(h0, .inr (2, [.int (nI n), .ref a1, .ref a2, .ref a3, .ref a4, .ref a5, .ref a6, .ref a7])), (a1, .inl (cI, n, .inl (qS w))), (a2, .inl (cZ, n, .inl (qZ z))), (a3, .inl (cI, n, .inl (qS lo))), (a4, .inl (cI, 4, .inl (qS su))), (a5, .inl (cI, 4, .inl (qN da))), (a6, .inl (cI, 4, .inl (qS ch))), (a7, .inl (cI, 4, .inl (qS (qm_st we 3))))] t.heap ∧ va_K (dC, dI) vwCl [(cI, .int), (cZ, .boolean)] t ∧ va_D (va_A [(h0, .inr (2, [.int (nI n), .ref a1, .ref a2, .ref a3, .ref a4, .ref a5, .ref a6, .ref a7])), (a1, .inl (cI, n, .inl (qS w))), (a2, .inl (cZ, n, .inl (qZ z))), (a3, .inl (cI, n, .inl (qS lo))), (a4, .inl (cI, 4, .inl (qS su))), (a5, .inl (cI, 4, .inl (qN da))), (a6, .inl (cI, 4, .inl (qS ch))), (a7, .inl (cI, 4, .inl (qS we)))] sz) [(h0, .inr (2, [.int (nI n), .ref a1, .ref a2, .ref a3, .ref a4, .ref a5, .ref a6, .ref a7])), (a1, .inl (cI, n, .inl (qS w))), (a2, .inl (cZ, n, .inl (qZ z))), (a3, .inl (cI, n, .inl (qS lo))), (a4, .inl (cI, 4, .inl (qS su))), (a5, .inl (cI, 4, .inl (qN da))), (a6, .inl (cI, 4, .inl (qS ch))), (a7, .inl (cI, 4, .inl (qS (qm_st we 3))))]) (va_A [(h0, .inr (2, [.int (nI n), .ref a1, .ref a2, .ref a3, .ref a4, .ref a5, .ref a6, .ref a7])), (a1, .inl (cI, n, .inl (qS w))), (a2, .inl (cZ, n, .inl (qZ z))), (a3, .inl (cI, n, .inl (qS lo))), (a4, .inl (cI, 4, .inl (qS su))), (a5, .inl (cI, 4, .inl (qN da))), (a6, .inl (cI, 4, .inl (qS ch))), (a7, .inl (cI, 4, .inl (qS we)))] sz)) 0 0 (va_A [(h0, .inr (2, [.int (nI n), .ref a1, .ref a2, .ref a3, .ref a4, .ref a5, .ref a6, .ref a7])), (a1, .inl (cI, n, .inl (qS w))), (a2, .inl (cZ, n, .inl (qZ z))), (a3, .inl (cI, n, .inl (qS lo))), (a4, .inl (cI, 4, .inl (qS su))), (a5, .inl (cI, 4, .inl (qN da))), (a6, .inl (cI, 4, .inl (qS ch))), (a7, .inl (cI, 4, .inl (qS we)))] sz) := by
  refine Met.ofW (cc := cX3_startWeights) (maxL := 2) (ret := none) (by decide) rfl ?_
  intro p e s m args below meth c s₁ B hml hv
  obtain ⟨rfl, hsz, hP, hK, hD0⟩ := hv
  have hx := B.exec
  have hb := B.bytes
  have hr := B.returns
  have hts := atoms_spec (ws := wsX3_startWeights) B.pre
  have hown : s.vm.findClass RX3 = some m.cls := findClass_of_methodNamed B.named
  have hlocks := B.notSynchronized
  subst hsz
  have hD := hD0.self (sz := s.heap.size)
  generalize hAe : va_A [(h0, .inr (2, [.int (nI n), .ref a1, .ref a2, .ref a3, .ref a4, .ref a5, .ref a6, .ref a7])), (a1, .inl (cI, n, .inl (qS w))), (a2, .inl (cZ, n, .inl (qZ z))), (a3, .inl (cI, n, .inl (qS lo))), (a4, .inl (cI, 4, .inl (qS su))), (a5, .inl (cI, 4, .inl (qN da))), (a6, .inl (cI, 4, .inl (qS ch))), (a7, .inl (cI, 4, .inl (qS we)))] s.heap.size = A at hD ⊢
  have hA : ∀ q : Nat, s.heap.size ≤ q → A q := fun q h => by rw [← hAe]; exact Or.inr h
  have hS : va_S A s.heap s.heap [] := va_S.rf
  have hP : va_P (dC, dI) vwCl [(h0, .inr (2, [.int (nI n), .ref a1, .ref a2, .ref a3, .ref a4, .ref a5, .ref a6, .ref a7])), (a1, .inl (cI, n, .inl (qS w))), (a2, .inl (cZ, n, .inl (qZ z))), (a3, .inl (cI, n, .inl (qS lo))), (a4, .inl (cI, 4, .inl (qS su))), (a5, .inl (cI, 4, .inl (qN da))), (a6, .inl (cI, 4, .inl (qS ch))), (a7, .inl (cI, 4, .inl (qS we)))] s.heap := hP
  have hl := lv_entry ([.ref h0]) (n := 2) (Nat.le_of_ble_eq_true rfl)
  rw [lg_entry_eq]
  generalize (lg_sl ([.ref h0]) ++ List.replicate (2 - (lg_sl ([.ref h0])).length) Slot.unset).toArray = ls at hl ⊢
  have hl : lv_has ls 2 [(0, .ref h0)] := hl
  have k_35 := hts (.fieldLink RX3 35 "DiscCoder$Word" "weights" "[I") (by decide +kernel)
  have i_X3 : ∀ w ∈ u_ws RX3 TX3 8, w ∈ wsX3_startWeights := by decide +kernel
  refine qr_nm (fun Q hQ => ?_)
  refine lv_aload_n hx hb dX3_startWeights_0 rfl (lv_at hl 0 rfl) ?_
  refine va_get (D := (dC, dI)) (ci := 2) (v := .ref a7) (C := RX3) (T := TX3) (N := 8) hx hb hts i_X3 hown hK hP 0 rfl rfl 7 (by decide) k_35 (fun _ h9 => h9) rfl dX3_startWeights_1 ?_
  refine lv_iconst (v := nI 0) hx hb dX3_startWeights_4 (by decide) ?_
  refine lv_iconst (v := sI 1#8) hx hb dX3_startWeights_5 (by decide) ?_
  refine qr_istS (x := 1#8) hx hb hK hP hD hS 7 0 rfl rfl (by omega) (by omega) dX3_startWeights_6 (fun H locs hP hD hS => ?_)
  have hP : va_P (dC, dI) vwCl [(h0, .inr (2, [.int (nI n), .ref a1, .ref a2, .ref a3, .ref a4, .ref a5, .ref a6, .ref a7])), (a1, .inl (cI, n, .inl (qS w))), (a2, .inl (cZ, n, .inl (qZ z))), (a3, .inl (cI, n, .inl (qS lo))), (a4, .inl (cI, 4, .inl (qS su))), (a5, .inl (cI, 4, .inl (qN da))), (a6, .inl (cI, 4, .inl (qS ch))), (a7, .inl (cI, 4, .inl (qS (va_up we 0 1#8))))] H := hP
  have hD : va_D A [(h0, .inr (2, [.int (nI n), .ref a1, .ref a2, .ref a3, .ref a4, .ref a5, .ref a6, .ref a7])), (a1, .inl (cI, n, .inl (qS w))), (a2, .inl (cZ, n, .inl (qZ z))), (a3, .inl (cI, n, .inl (qS lo))), (a4, .inl (cI, 4, .inl (qS su))), (a5, .inl (cI, 4, .inl (qN da))), (a6, .inl (cI, 4, .inl (qS ch))), (a7, .inl (cI, 4, .inl (qS (va_up we 0 1#8))))] := hD
  refine lv_iconst (v := nI 1) hx hb dX3_startWeights_7 (by decide) ?_
  refine lv_istore_n (lv' := [(1, .int (nI 1)), (0, .ref h0)]) hx hb dX3_startWeights_8 rfl hl (by decide) rfl (fun ls hl => ?_)
  have lp9 : ∀ (j i : Nat), i + j = 3 → ∀  (ls : Array Slot) (H : Heap) (locs : List Loc), lv_has ls 2 [(0, .ref h0), (1, .int (nI (i + 1)))] → va_P (dC, dI) vwCl [(h0, .inr (2, [.int (nI n), .ref a1, .ref a2, .ref a3, .ref a4, .ref a5, .ref a6, .ref a7])), (a1, .inl (cI, n, .inl (qS w))), (a2, .inl (cZ, n, .inl (qZ z))), (a3, .inl (cI, n, .inl (qS lo))), (a4, .inl (cI, 4, .inl (qS su))), (a5, .inl (cI, 4, .inl (qN da))), (a6, .inl (cI, 4, .inl (qS ch))), (a7, .inl (cI, 4, .inl (qS (qm_st we i))))] H → va_D A [(h0, .inr (2, [.int (nI n), .ref a1, .ref a2, .ref a3, .ref a4, .ref a5, .ref a6, .ref a7])), (a1, .inl (cI, n, .inl (qS w))), (a2, .inl (cZ, n, .inl (qZ z))), (a3, .inl (cI, n, .inl (qS lo))), (a4, .inl (cI, 4, .inl (qS su))), (a5, .inl (cI, 4, .inl (qN da))), (a6, .inl (cI, 4, .inl (qS ch))), (a7, .inl (cI, 4, .inl (qS (qm_st we i))))] → va_S A s.heap H locs → W p l e (headSpec wsX3_startWeights ({ frames := 0, cells := 0, slots := 0, locals := 0 } : Room)).room s m ([.ref h0] : List Value).toArray below meth c H locs 0 0 Q (F0 m 9 ls []) := by
    intro j
    induction j with
    | zero =>
      intro i hi  ls H locs hl hP hD hS
      have e9 : 3 = i := by omega
      subst e9
      refine lv_iload_n hx hb dX3_startWeights_9 rfl (lv_at hl 1 rfl) ?_
      refine lv_iconst (v := nI 4) hx hb dX3_startWeights_10 (by decide) ?_
      refine qr_ge (tgt := 27) hx hb dX3_startWeights_11 rfl (by omega) (by omega) (fun b11 => ?_) (fun h => absurd h (by omega))
      subst hQ
      exact W.vret hx hb hr (fun t ht hW => ⟨⟨(), rfl, trivial, by rw [ht]; exact hP, va_K.moved hW.alike hK, hD⟩, hS.F ht⟩) hS.2.2 dX3_startWeights_27
    | succ j ih =>
      intro i hi  ls H locs hl hP hD hS
      have li : i < 3 := by omega
      refine lv_iload_n hx hb dX3_startWeights_9 rfl (lv_at hl 1 rfl) ?_
      refine lv_iconst (v := nI 4) hx hb dX3_startWeights_10 (by decide) ?_
      refine qr_ge (tgt := 27) hx hb dX3_startWeights_11 rfl (by omega) (by omega) (fun h => absurd h (by omega)) (fun b11 => ?_)
      refine lv_aload_n hx hb dX3_startWeights_14 rfl (lv_at hl 0 rfl) ?_
      refine va_get (D := (dC, dI)) (ci := 2) (v := .ref a7) (C := RX3) (T := TX3) (N := 8) hx hb hts i_X3 hown hK hP 0 rfl rfl 7 (by decide) k_35 (fun _ h9 => h9) rfl dX3_startWeights_15 ?_
      refine lv_iload_n hx hb dX3_startWeights_18 rfl (lv_at hl 1 rfl) ?_
      refine lv_iconst (v := sI 0#8) hx hb dX3_startWeights_19 (by decide) ?_
      refine qr_istS (x := 0#8) hx hb hK hP hD hS 7 0 rfl rfl (by omega) (by omega) dX3_startWeights_20 (fun H locs hP hD hS => ?_)
      have hP : va_P (dC, dI) vwCl [(h0, .inr (2, [.int (nI n), .ref a1, .ref a2, .ref a3, .ref a4, .ref a5, .ref a6, .ref a7])), (a1, .inl (cI, n, .inl (qS w))), (a2, .inl (cZ, n, .inl (qZ z))), (a3, .inl (cI, n, .inl (qS lo))), (a4, .inl (cI, 4, .inl (qS su))), (a5, .inl (cI, 4, .inl (qN da))), (a6, .inl (cI, 4, .inl (qS ch))), (a7, .inl (cI, 4, .inl (qS (va_up (qm_st we i) (i + 1) 0#8))))] H := hP
      have hD : va_D A [(h0, .inr (2, [.int (nI n), .ref a1, .ref a2, .ref a3, .ref a4, .ref a5, .ref a6, .ref a7])), (a1, .inl (cI, n, .inl (qS w))), (a2, .inl (cZ, n, .inl (qZ z))), (a3, .inl (cI, n, .inl (qS lo))), (a4, .inl (cI, 4, .inl (qS su))), (a5, .inl (cI, 4, .inl (qN da))), (a6, .inl (cI, 4, .inl (qS ch))), (a7, .inl (cI, 4, .inl (qS (va_up (qm_st we i) (i + 1) 0#8))))] := hD
      refine lv_iinc (k := 1) (v := nI ((i + 1) + 1)) (lv' := [(1, .int (nI ((i + 1) + 1))), (0, .ref h0)]) hx hb dX3_startWeights_21 hl rfl (qr_inc _) (by decide) rfl (fun ls hl => ?_)
      refine lv_goto (tgt := 9) hx hb dX3_startWeights_24 rfl ?_
      have hl := lv_sub (l' := [(0, .ref h0), (1, .int (nI ((i + 1) + 1)))]) hl [1, 0] rfl
      have e1 : qm_st we (i + 1) = va_up (qm_st we i) (i + 1) 0#8 := by first | rfl | (simp only [cond_true, cond_false])
      exact ih (i + 1) (by omega)  ls H _ (by exact hl) (by rw [e1]; exact hP) (by rw [e1]; exact hD) hS 
  have hl := lv_sub (l' := [(0, .ref h0), (1, .int (nI 1))]) hl [1, 0] rfl
  exact lp9 3 0 (by omega)  ls H _ hl hP hD hS 
set_option maxHeartbeats 4000000 in
set_option maxRecDepth 100000 in
/-- Word.addRoot -/
theorem qc_root (l : Launch) (dC : Nat → ClassId) (dI : Nat → Nat → Nat) (cI cZ : ClassId) (h0 a1 a2 a3 a4 a5 a6 a7 n : Nat) (w : Nat → BitVec 8) (z : Nat → Bool) (lo su : Nat → BitVec 8) (da : Nat → Nat) (ch we : Nat → BitVec 8) (r : BitVec 8) (sz : Nat) (hn : n ≤ 16) : Met l yX3_addRoot wsX3_addRoot ({ frames := 1, cells := 0, slots := 0, locals := 24 } : Room) (va_Pc [.ref h0, .int (sI r)] (fun U => U.heap.size = sz ∧ va_P (dC, dI) vwCl [(h0, .inr (2, [.int (nI n), .ref a1, .ref a2, .ref a3, .ref a4, .ref a5, .ref a6, .ref a7])), (a1, .inl (cI, n, .inl (qS w))), (a2, .inl (cZ, n, .inl (qZ z))), (a3, .inl (cI, n, .inl (qS lo))), (a4, .inl (cI, 4, .inl (qS su))), (a5, .inl (cI, 4, .inl (qN da))), (a6, .inl (cI, 4, .inl (qS ch))), (a7, .inl (cI, 4, .inl (qS we)))] U.heap ∧ va_K (dC, dI) vwCl [(cI, .int), (cZ, .boolean)] U ∧ va_D (fun _ => True) [(h0, .inr (2, [.int (nI n), .ref a1, .ref a2, .ref a3, .ref a4, .ref a5, .ref a6, .ref a7])), (a1, .inl (cI, n, .inl (qS w))), (a2, .inl (cZ, n, .inl (qZ z))), (a3, .inl (cI, n, .inl (qS lo))), (a4, .inl (cI, 4, .inl (qS su))), (a5, .inl (cI, 4, .inl (qN da))), (a6, .inl (cI, 4, .inl (qS ch))), (a7, .inl (cI, 4, .inl (qS we)))])) (va_Qv (fun (_ : Unit) => True) (fun _ t => va_P (dC, dI) vwCl [(h0, .inr (2, [.int (nI n), .ref a1, .ref a2, .ref a3, .ref a4, .ref a5, .ref a6, .ref a7])), (a1, .inl (cI, n, .inl (qS w))), (a2, .inl (cZ, n, .inl (qZ z))), (a3, .inl (cI, n, .inl (qS lo))), (a4, .inl (cI, 4, .inl (qS su))), (a5, .inl (cI, 4, .inl (qN da))), (a6, .inl (cI, 4, .inl (qS ch))), (a7, .inl (cI, 4, .inl (qS (qw_r we r))))] t.heap ∧ va_K (dC, dI) vwCl [(cI, .int), (cZ, .boolean)] t ∧ va_D (va_A [(h0, .inr (2, [.int (nI n), .ref a1, .ref a2, .ref a3, .ref a4, .ref a5, .ref a6, .ref a7])), (a1, .inl (cI, n, .inl (qS w))), (a2, .inl (cZ, n, .inl (qZ z))), (a3, .inl (cI, n, .inl (qS lo))), (a4, .inl (cI, 4, .inl (qS su))), (a5, .inl (cI, 4, .inl (qN da))), (a6, .inl (cI, 4, .inl (qS ch))), (a7, .inl (cI, 4, .inl (qS we)))] sz) [(h0, .inr (2, [.int (nI n), .ref a1, .ref a2, .ref a3, .ref a4, .ref a5, .ref a6, .ref a7])), (a1, .inl (cI, n, .inl (qS w))), (a2, .inl (cZ, n, .inl (qZ z))), (a3, .inl (cI, n, .inl (qS lo))), (a4, .inl (cI, 4, .inl (qS su))), (a5, .inl (cI, 4, .inl (qN da))), (a6, .inl (cI, 4, .inl (qS ch))), (a7, .inl (cI, 4, .inl (qS (qw_r we r))))]) (va_A [(h0, .inr (2, [.int (nI n), .ref a1, .ref a2, .ref a3, .ref a4, .ref a5, .ref a6, .ref a7])), (a1, .inl (cI, n, .inl (qS w))), (a2, .inl (cZ, n, .inl (qZ z))), (a3, .inl (cI, n, .inl (qS lo))), (a4, .inl (cI, 4, .inl (qS su))), (a5, .inl (cI, 4, .inl (qN da))), (a6, .inl (cI, 4, .inl (qS ch))), (a7, .inl (cI, 4, .inl (qS we)))] sz)) 0 0 (va_A [(h0, .inr (2, [.int (nI n), .ref a1, .ref a2, .ref a3, .ref a4, .ref a5, .ref a6, .ref a7])), (a1, .inl (cI, n, .inl (qS w))), (a2, .inl (cZ, n, .inl (qZ z))), (a3, .inl (cI, n, .inl (qS lo))), (a4, .inl (cI, 4, .inl (qS su))), (a5, .inl (cI, 4, .inl (qN da))), (a6, .inl (cI, 4, .inl (qS ch))), (a7, .inl (cI, 4, .inl (qS we)))] sz) := by
  refine Met.ofW (cc := cX3_addRoot) (maxL := 3) (ret := none) (by decide) rfl ?_
  intro p e s m args below meth c s₁ B hml hv
  obtain ⟨rfl, hsz, hP, hK, hD0⟩ := hv
  have hx := B.exec
  have hb := B.bytes
  have hr := B.returns
  have hts := atoms_spec (ws := wsX3_addRoot) B.pre
  have hown : s.vm.findClass RX3 = some m.cls := findClass_of_methodNamed B.named
  have hlocks := B.notSynchronized
  subst hsz
  have hD := hD0.self (sz := s.heap.size)
  generalize hAe : va_A [(h0, .inr (2, [.int (nI n), .ref a1, .ref a2, .ref a3, .ref a4, .ref a5, .ref a6, .ref a7])), (a1, .inl (cI, n, .inl (qS w))), (a2, .inl (cZ, n, .inl (qZ z))), (a3, .inl (cI, n, .inl (qS lo))), (a4, .inl (cI, 4, .inl (qS su))), (a5, .inl (cI, 4, .inl (qN da))), (a6, .inl (cI, 4, .inl (qS ch))), (a7, .inl (cI, 4, .inl (qS we)))] s.heap.size = A at hD ⊢
  have hA : ∀ q : Nat, s.heap.size ≤ q → A q := fun q h => by rw [← hAe]; exact Or.inr h
  have hS : va_S A s.heap s.heap [] := va_S.rf
  have hP : va_P (dC, dI) vwCl [(h0, .inr (2, [.int (nI n), .ref a1, .ref a2, .ref a3, .ref a4, .ref a5, .ref a6, .ref a7])), (a1, .inl (cI, n, .inl (qS w))), (a2, .inl (cZ, n, .inl (qZ z))), (a3, .inl (cI, n, .inl (qS lo))), (a4, .inl (cI, 4, .inl (qS su))), (a5, .inl (cI, 4, .inl (qN da))), (a6, .inl (cI, 4, .inl (qS ch))), (a7, .inl (cI, 4, .inl (qS we)))] s.heap := hP
  have hl := lv_entry ([.ref h0, .int (sI r)]) (n := 3) (Nat.le_of_ble_eq_true rfl)
  rw [lg_entry_eq]
  generalize (lg_sl ([.ref h0, .int (sI r)]) ++ List.replicate (3 - (lg_sl ([.ref h0, .int (sI r)])).length) Slot.unset).toArray = ls at hl ⊢
  have hl : lv_has ls 3 [(0, .ref h0), (1, .int (sI r))] := hl
  have k_35 := hts (.fieldLink RX3 35 "DiscCoder$Word" "weights" "[I") (by decide +kernel)
  have i_X3 : ∀ w ∈ u_ws RX3 TX3 8, w ∈ wsX3_addRoot := by decide +kernel
  refine qr_nm (fun Q hQ => ?_)
  refine lv_iconst (v := nI 3) hx hb dX3_addRoot_0 (by decide) ?_
  refine lv_istore_n (lv' := [(2, .int (nI 3)), (0, .ref h0), (1, .int (sI r))]) hx hb dX3_addRoot_1 rfl hl (by decide) rfl (fun ls hl => ?_)
  have lp2 : ∀ (kc i : Nat), i = kc → ∀  (ls : Array Slot) (H : Heap) (locs : List Loc), lv_has ls 3 [(0, .ref h0), (1, .int (sI r)), (2, .int (nI i))] → va_P (dC, dI) vwCl [(h0, .inr (2, [.int (nI n), .ref a1, .ref a2, .ref a3, .ref a4, .ref a5, .ref a6, .ref a7])), (a1, .inl (cI, n, .inl (qS w))), (a2, .inl (cZ, n, .inl (qZ z))), (a3, .inl (cI, n, .inl (qS lo))), (a4, .inl (cI, 4, .inl (qS su))), (a5, .inl (cI, 4, .inl (qN da))), (a6, .inl (cI, 4, .inl (qS ch))), (a7, .inl (cI, 4, .inl (qS (qm_ar we r i))))] H → va_D A [(h0, .inr (2, [.int (nI n), .ref a1, .ref a2, .ref a3, .ref a4, .ref a5, .ref a6, .ref a7])), (a1, .inl (cI, n, .inl (qS w))), (a2, .inl (cZ, n, .inl (qZ z))), (a3, .inl (cI, n, .inl (qS lo))), (a4, .inl (cI, 4, .inl (qS su))), (a5, .inl (cI, 4, .inl (qN da))), (a6, .inl (cI, 4, .inl (qS ch))), (a7, .inl (cI, 4, .inl (qS (qm_ar we r i))))] → va_S A s.heap H locs → i < 4 → W p l e (headSpec wsX3_addRoot ({ frames := 1, cells := 0, slots := 0, locals := 24 } : Room)).room s m ([.ref h0, .int (sI r)] : List Value).toArray below meth c H locs 0 0 Q (F0 m 2 ls []) := by
    intro kc
    induction kc with
    | zero =>
      intro i hi  ls H locs hl hP hD hS hc
      subst hi
      refine lv_iload_n hx hb dX3_addRoot_2 rfl (lv_at hl 2 rfl) ?_
      refine lv_if_le (tgt := 37) hx hb dX3_addRoot_3 rfl  (fun b3 => ?_) (fun h => absurd (show nI 0 ≤ 0 by decide) h)
      refine lv_aload_n hx hb dX3_addRoot_37 rfl (lv_at hl 0 rfl) ?_
      refine va_get (D := (dC, dI)) (ci := 2) (v := .ref a7) (C := RX3) (T := TX3) (N := 8) hx hb hts i_X3 hown hK hP 0 rfl rfl 7 (by decide) k_35 (fun _ h9 => h9) rfl dX3_addRoot_38 ?_
      refine lv_iconst (v := nI 0) hx hb dX3_addRoot_41 (by decide) ?_
      refine lv_aload_n hx hb dX3_addRoot_42 rfl (lv_at hl 0 rfl) ?_
      refine va_get (D := (dC, dI)) (ci := 2) (v := .ref a7) (C := RX3) (T := TX3) (N := 8) hx hb hts i_X3 hown hK hP 0 rfl rfl 7 (by decide) k_35 (fun _ h9 => h9) rfl dX3_addRoot_43 ?_
      refine lv_iconst (v := nI 0) hx hb dX3_addRoot_46 (by decide) ?_
      refine qr_ildS hx hb hK hP 7 0 rfl rfl (by omega) (by omega) dX3_addRoot_47 ?_
      refine lv_iload_n hx hb dX3_addRoot_48 rfl (lv_at hl 1 rfl) ?_
      refine vp_callSi (va_Run.run (va_runS (As := [.int (sI ((qm_ar we r 0) 0)), .int (sI r)]) (rest := [.int (nI 0), .ref a7]) ⟨hx, hb, hml, hown, hts⟩ (qc_times l ((qm_ar we r 0) 0) r ) (va_cwS 2 hts gX3_addRoot_X1_times rfl rfl rfl (by decide +kernel) ⟨Nat.le_of_ble_eq_true rfl, Nat.le_of_ble_eq_true rfl⟩) ⟨fun a U g mk q => q, fun U hU hW => ⟨rfl, trivial⟩⟩ rfl rfl hl.1 rfl (lv_room (Nat.le_of_ble_eq_true rfl)) dX3_addRoot_49 ⟨Nat.le_of_ble_eq_true rfl, Nat.le_of_ble_eq_true rfl⟩)) (fun r49 hr49 => ?_)
      have hr49 : r49 = sI (qf_m ((qm_ar we r 0) 0) r) := hr49
      subst hr49
      refine qr_istS (x := qf_m ((qm_ar we r 0) 0) r) hx hb hK hP hD hS 7 0 rfl rfl (by omega) (by omega) dX3_addRoot_52 (fun H locs hP hD hS => ?_)
      have hP : va_P (dC, dI) vwCl [(h0, .inr (2, [.int (nI n), .ref a1, .ref a2, .ref a3, .ref a4, .ref a5, .ref a6, .ref a7])), (a1, .inl (cI, n, .inl (qS w))), (a2, .inl (cZ, n, .inl (qZ z))), (a3, .inl (cI, n, .inl (qS lo))), (a4, .inl (cI, 4, .inl (qS su))), (a5, .inl (cI, 4, .inl (qN da))), (a6, .inl (cI, 4, .inl (qS ch))), (a7, .inl (cI, 4, .inl (qS (va_up (qm_ar we r 0) 0 (qf_m ((qm_ar we r 0) 0) r)))))] H := hP
      have hD : va_D A [(h0, .inr (2, [.int (nI n), .ref a1, .ref a2, .ref a3, .ref a4, .ref a5, .ref a6, .ref a7])), (a1, .inl (cI, n, .inl (qS w))), (a2, .inl (cZ, n, .inl (qZ z))), (a3, .inl (cI, n, .inl (qS lo))), (a4, .inl (cI, 4, .inl (qS su))), (a5, .inl (cI, 4, .inl (qN da))), (a6, .inl (cI, 4, .inl (qS ch))), (a7, .inl (cI, 4, .inl (qS (va_up (qm_ar we r 0) 0 (qf_m ((qm_ar we r 0) 0) r)))))] := hD
      subst hQ
      rw [qm_ar_r] at hP hD
      exact W.vret hx hb hr (fun t ht hW => ⟨⟨(), rfl, trivial, by rw [ht]; exact hP, va_K.moved hW.alike hK, hD⟩, hS.F ht⟩) hS.2.2 dX3_addRoot_53
    | succ kc ih =>
      intro i hi  ls H locs hl hP hD hS hc
      subst hi
      refine lv_iload_n hx hb dX3_addRoot_2 rfl (lv_at hl 2 rfl) ?_
      refine lv_if_le (tgt := 37) hx hb dX3_addRoot_3 rfl  (fun h => absurd h (nI_nle (by omega) (by omega))) (fun b3 => ?_)
      refine lv_aload_n hx hb dX3_addRoot_6 rfl (lv_at hl 0 rfl) ?_
      refine va_get (D := (dC, dI)) (ci := 2) (v := .ref a7) (C := RX3) (T := TX3) (N := 8) hx hb hts i_X3 hown hK hP 0 rfl rfl 7 (by decide) k_35 (fun _ h9 => h9) rfl dX3_addRoot_7 ?_
      refine lv_iload_n hx hb dX3_addRoot_10 rfl (lv_at hl 2 rfl) ?_
      refine lv_aload_n hx hb dX3_addRoot_11 rfl (lv_at hl 0 rfl) ?_
      refine va_get (D := (dC, dI)) (ci := 2) (v := .ref a7) (C := RX3) (T := TX3) (N := 8) hx hb hts i_X3 hown hK hP 0 rfl rfl 7 (by decide) k_35 (fun _ h9 => h9) rfl dX3_addRoot_12 ?_
      refine lv_iload_n hx hb dX3_addRoot_15 rfl (lv_at hl 2 rfl) ?_
      refine qr_ildS hx hb hK hP 7 0 rfl rfl (by omega) (by omega) dX3_addRoot_16 ?_
      refine lv_iload_n hx hb dX3_addRoot_17 rfl (lv_at hl 1 rfl) ?_
      refine vp_callSi (va_Run.run (va_runS (As := [.int (sI ((qm_ar we r (kc + 1)) (kc + 1))), .int (sI r)]) (rest := [.int (nI (kc + 1)), .ref a7]) ⟨hx, hb, hml, hown, hts⟩ (qc_times l ((qm_ar we r (kc + 1)) (kc + 1)) r ) (va_cwS 2 hts gX3_addRoot_X1_times rfl rfl rfl (by decide +kernel) ⟨Nat.le_of_ble_eq_true rfl, Nat.le_of_ble_eq_true rfl⟩) ⟨fun a U g mk q => q, fun U hU hW => ⟨rfl, trivial⟩⟩ rfl rfl hl.1 rfl (lv_room (Nat.le_of_ble_eq_true rfl)) dX3_addRoot_18 ⟨Nat.le_of_ble_eq_true rfl, Nat.le_of_ble_eq_true rfl⟩)) (fun r18 hr18 => ?_)
      have hr18 : r18 = sI (qf_m ((qm_ar we r (kc + 1)) (kc + 1)) r) := hr18
      subst hr18
      refine lv_aload_n hx hb dX3_addRoot_21 rfl (lv_at hl 0 rfl) ?_
      refine va_get (D := (dC, dI)) (ci := 2) (v := .ref a7) (C := RX3) (T := TX3) (N := 8) hx hb hts i_X3 hown hK hP 0 rfl rfl 7 (by decide) k_35 (fun _ h9 => h9) rfl dX3_addRoot_22 ?_
      refine lv_iload_n hx hb dX3_addRoot_25 rfl (lv_at hl 2 rfl) ?_
      refine lv_iconst (v := nI 1) hx hb dX3_addRoot_26 (by decide) ?_
      refine qr_isub (z := nI ((kc + 1) - 1)) hx hb dX3_addRoot_27 (pk_sub (by omega)) ?_
      refine qr_ildS hx hb hK hP 7 0 rfl rfl (by omega) (by omega) dX3_addRoot_28 ?_
      refine qr_ixor (z := sI ((qf_m ((qm_ar we r (kc + 1)) (kc + 1)) r) ^^^ ((qm_ar we r (kc + 1)) ((kc + 1) - 1)))) hx hb dX3_addRoot_29 (sI_xor _ _) ?_
      refine qr_istS (x := (qf_m ((qm_ar we r (kc + 1)) (kc + 1)) r) ^^^ ((qm_ar we r (kc + 1)) ((kc + 1) - 1))) hx hb hK hP hD hS 7 0 rfl rfl (by omega) (by omega) dX3_addRoot_30 (fun H locs hP hD hS => ?_)
      have hP : va_P (dC, dI) vwCl [(h0, .inr (2, [.int (nI n), .ref a1, .ref a2, .ref a3, .ref a4, .ref a5, .ref a6, .ref a7])), (a1, .inl (cI, n, .inl (qS w))), (a2, .inl (cZ, n, .inl (qZ z))), (a3, .inl (cI, n, .inl (qS lo))), (a4, .inl (cI, 4, .inl (qS su))), (a5, .inl (cI, 4, .inl (qN da))), (a6, .inl (cI, 4, .inl (qS ch))), (a7, .inl (cI, 4, .inl (qS (va_up (qm_ar we r (kc + 1)) (kc + 1) ((qf_m ((qm_ar we r (kc + 1)) (kc + 1)) r) ^^^ ((qm_ar we r (kc + 1)) ((kc + 1) - 1)))))))] H := hP
      have hD : va_D A [(h0, .inr (2, [.int (nI n), .ref a1, .ref a2, .ref a3, .ref a4, .ref a5, .ref a6, .ref a7])), (a1, .inl (cI, n, .inl (qS w))), (a2, .inl (cZ, n, .inl (qZ z))), (a3, .inl (cI, n, .inl (qS lo))), (a4, .inl (cI, 4, .inl (qS su))), (a5, .inl (cI, 4, .inl (qN da))), (a6, .inl (cI, 4, .inl (qS ch))), (a7, .inl (cI, 4, .inl (qS (va_up (qm_ar we r (kc + 1)) (kc + 1) ((qf_m ((qm_ar we r (kc + 1)) (kc + 1)) r) ^^^ ((qm_ar we r (kc + 1)) ((kc + 1) - 1)))))))] := hD
      refine lv_iinc (k := 2) (v := nI kc) (lv' := [(2, .int (nI kc)), (0, .ref h0), (1, .int (sI r))]) hx hb dX3_addRoot_31 hl rfl (qr_dec _) (by decide) rfl (fun ls hl => ?_)
      refine lv_goto (tgt := 2) hx hb dX3_addRoot_34 rfl ?_
      have hl := lv_sub (l' := [(0, .ref h0), (1, .int (sI r)), (2, .int (nI kc))]) hl [1, 2, 0] rfl
      have e1 : qm_ar we r kc = va_up (qm_ar we r (kc + 1)) (kc + 1) ((qf_m ((qm_ar we r (kc + 1)) (kc + 1)) r) ^^^ ((qm_ar we r (kc + 1)) ((kc + 1) - 1))) := qm_ar_s we r (by omega)
      exact ih kc rfl  ls H _ (by exact hl) (by rw [e1]; exact hP) (by rw [e1]; exact hD) hS (by omega)
  rw [← qm_ar_3 we r] at hP hD
  have hl := lv_sub (l' := [(0, .ref h0), (1, .int (sI r)), (2, .int (nI 3))]) hl [1, 2, 0] rfl
  exact lp2 3 3 rfl  ls s.heap _ hl hP hD hS (by omega)
set_option maxHeartbeats 4000000 in
set_option maxRecDepth 100000 in
/-- Word.weightedSums -/
theorem qc_wsums (l : Launch) (dC : Nat → ClassId) (dI : Nat → Nat → Nat) (cI cZ : ClassId) (h0 a1 a2 a3 a4 a5 a6 a7 n : Nat) (w : Nat → BitVec 8) (z : Nat → Bool) (lo su : Nat → BitVec 8) (da : Nat → Nat) (ch we : Nat → BitVec 8) (hn : n ≤ 16) : Met l yX3_weightedSums wsX3_weightedSums ({ frames := 1, cells := 0, slots := 0, locals := 24 } : Room) (va_Pc [.ref h0] (fun U => va_P (dC, dI) vwCl [(h0, .inr (2, [.int (nI n), .ref a1, .ref a2, .ref a3, .ref a4, .ref a5, .ref a6, .ref a7])), (a1, .inl (cI, n, .inl (qS w))), (a2, .inl (cZ, n, .inl (qZ z))), (a3, .inl (cI, n, .inl (qS lo))), (a4, .inl (cI, 4, .inl (qS su))), (a5, .inl (cI, 4, .inl (qN da))), (a6, .inl (cI, 4, .inl (qS ch))), (a7, .inl (cI, 4, .inl (qS we)))] U.heap ∧ va_K (dC, dI) vwCl [(cI, .int), (cZ, .boolean)] U)) (vp_Si (fun r => r = sI (qw_s (fun k => qf_m (we k) (su k)) 4))) 0 0 (fun _ => False) := by
  refine Met.ofW (cc := cX3_weightedSums) (maxL := 3) (ret := (some .int)) (by decide) rfl ?_
  intro p e s m args below meth c s₁ B hml hv
  obtain ⟨rfl, hP, hK⟩ := hv
  have hx := B.exec
  have hb := B.bytes
  have hr := B.returns
  have hts := atoms_spec (ws := wsX3_weightedSums) B.pre
  have hown : s.vm.findClass RX3 = some m.cls := findClass_of_methodNamed B.named
  have hlocks := B.notSynchronized
  have hP : va_P (dC, dI) vwCl [(h0, .inr (2, [.int (nI n), .ref a1, .ref a2, .ref a3, .ref a4, .ref a5, .ref a6, .ref a7])), (a1, .inl (cI, n, .inl (qS w))), (a2, .inl (cZ, n, .inl (qZ z))), (a3, .inl (cI, n, .inl (qS lo))), (a4, .inl (cI, 4, .inl (qS su))), (a5, .inl (cI, 4, .inl (qN da))), (a6, .inl (cI, 4, .inl (qS ch))), (a7, .inl (cI, 4, .inl (qS we)))] s.heap := hP
  have hl := lv_entry ([.ref h0]) (n := 3) (Nat.le_of_ble_eq_true rfl)
  rw [lg_entry_eq]
  generalize (lg_sl ([.ref h0]) ++ List.replicate (3 - (lg_sl ([.ref h0])).length) Slot.unset).toArray = ls at hl ⊢
  have hl : lv_has ls 3 [(0, .ref h0)] := hl
  have k_35 := hts (.fieldLink RX3 35 "DiscCoder$Word" "weights" "[I") (by decide +kernel)
  have k_26 := hts (.fieldLink RX3 26 "DiscCoder$Word" "sums" "[I") (by decide +kernel)
  have i_X3 : ∀ w ∈ u_ws RX3 TX3 8, w ∈ wsX3_weightedSums := by decide +kernel
  refine qr_nm (fun Q hQ => ?_)
  refine lv_iconst (v := sI 0#8) hx hb dX3_weightedSums_0 (by decide) ?_
  refine lv_istore_n (lv' := [(1, .int (sI 0#8)), (0, .ref h0)]) hx hb dX3_weightedSums_1 rfl hl (by decide) rfl (fun ls hl => ?_)
  refine lv_iconst (v := nI 0) hx hb dX3_weightedSums_2 (by decide) ?_
  refine lv_istore_n (lv' := [(2, .int (nI 0)), (1, .int (sI 0#8)), (0, .ref h0)]) hx hb dX3_weightedSums_3 rfl hl (by decide) rfl (fun ls hl => ?_)
  have lp4 : ∀ (j i : Nat), i + j = 4 → ∀  (ls : Array Slot) , lv_has ls 3 [(0, .ref h0), (1, .int (sI (qw_s (fun k => qf_m (we k) (su k)) i))), (2, .int (nI i))] → W p l e (headSpec wsX3_weightedSums ({ frames := 1, cells := 0, slots := 0, locals := 24 } : Room)).room s m ([.ref h0] : List Value).toArray below meth c s.heap [] 0 0 Q (F0 m 4 ls []) := by
    intro j
    induction j with
    | zero =>
      intro i hi  ls hl
      have e9 : 4 = i := by omega
      subst e9
      refine lv_iload_n hx hb dX3_weightedSums_4 rfl (lv_at hl 2 rfl) ?_
      refine lv_iconst (v := nI 4) hx hb dX3_weightedSums_5 (by decide) ?_
      refine qr_ge (tgt := 33) hx hb dX3_weightedSums_6 rfl (by omega) (by omega) (fun b6 => ?_) (fun h => absurd h (by omega))
      refine lv_iload_n hx hb dX3_weightedSums_33 rfl (lv_at hl 1 rfl) ?_
      subst hQ
      exact W.iret hx hb hr (fun t ht hW => ⟨_, rfl, rfl, ht⟩) (fun _ h => absurd h List.not_mem_nil) dX3_weightedSums_34
    | succ j ih =>
      intro i hi  ls hl
      have li : i < 4 := by omega
      refine lv_iload_n hx hb dX3_weightedSums_4 rfl (lv_at hl 2 rfl) ?_
      refine lv_iconst (v := nI 4) hx hb dX3_weightedSums_5 (by decide) ?_
      refine qr_ge (tgt := 33) hx hb dX3_weightedSums_6 rfl (by omega) (by omega) (fun h => absurd h (by omega)) (fun b6 => ?_)
      refine lv_iload_n hx hb dX3_weightedSums_9 rfl (lv_at hl 1 rfl) ?_
      refine lv_aload_n hx hb dX3_weightedSums_10 rfl (lv_at hl 0 rfl) ?_
      refine va_get (D := (dC, dI)) (ci := 2) (v := .ref a7) (C := RX3) (T := TX3) (N := 8) hx hb hts i_X3 hown hK hP 0 rfl rfl 7 (by decide) k_35 (fun _ h9 => h9) rfl dX3_weightedSums_11 ?_
      refine lv_iload_n hx hb dX3_weightedSums_14 rfl (lv_at hl 2 rfl) ?_
      refine qr_ildS hx hb hK hP 7 0 rfl rfl (by omega) (by omega) dX3_weightedSums_15 ?_
      refine lv_aload_n hx hb dX3_weightedSums_16 rfl (lv_at hl 0 rfl) ?_
      refine va_get (D := (dC, dI)) (ci := 2) (v := .ref a4) (C := RX3) (T := TX3) (N := 8) hx hb hts i_X3 hown hK hP 0 rfl rfl 4 (by decide) k_26 (fun _ h9 => h9) rfl dX3_weightedSums_17 ?_
      refine lv_iload_n hx hb dX3_weightedSums_20 rfl (lv_at hl 2 rfl) ?_
      refine qr_ildS hx hb hK hP 4 0 rfl rfl (by omega) (by omega) dX3_weightedSums_21 ?_
      refine vp_callSi (va_Run.run (va_runS (As := [.int (sI (we i)), .int (sI (su i))]) (rest := [.int (sI (qw_s (fun k => qf_m (we k) (su k)) i))]) ⟨hx, hb, hml, hown, hts⟩ (qc_times l (we i) (su i) ) (va_cwS 2 hts gX3_weightedSums_X1_times rfl rfl rfl (by decide +kernel) ⟨Nat.le_of_ble_eq_true rfl, Nat.le_of_ble_eq_true rfl⟩) ⟨fun a U g mk q => q, fun U hU hW => ⟨rfl, trivial⟩⟩ rfl rfl hl.1 rfl (lv_room (Nat.le_of_ble_eq_true rfl)) dX3_weightedSums_22 ⟨Nat.le_of_ble_eq_true rfl, Nat.le_of_ble_eq_true rfl⟩)) (fun r22 hr22 => ?_)
      have hr22 : r22 = sI (qf_m (we i) (su i)) := hr22
      subst hr22
      refine qr_ixor (z := sI ((qw_s (fun k => qf_m (we k) (su k)) i) ^^^ (qf_m (we i) (su i)))) hx hb dX3_weightedSums_25 (sI_xor _ _) ?_
      refine lv_istore_n (lv' := [(1, .int (sI ((qw_s (fun k => qf_m (we k) (su k)) i) ^^^ (qf_m (we i) (su i))))), (0, .ref h0), (2, .int (nI i))]) hx hb dX3_weightedSums_26 rfl hl (by decide) rfl (fun ls hl => ?_)
      refine lv_iinc (k := 2) (v := nI (i + 1)) (lv' := [(2, .int (nI (i + 1))), (1, .int (sI ((qw_s (fun k => qf_m (we k) (su k)) i) ^^^ (qf_m (we i) (su i))))), (0, .ref h0)]) hx hb dX3_weightedSums_27 hl rfl (qr_inc _) (by decide) rfl (fun ls hl => ?_)
      refine lv_goto (tgt := 4) hx hb dX3_weightedSums_30 rfl ?_
      have hl := lv_sub (l' := [(0, .ref h0), (1, .int (sI ((qw_s (fun k => qf_m (we k) (su k)) i) ^^^ (qf_m (we i) (su i))))), (2, .int (nI (i + 1)))]) hl [2, 1, 0] rfl
      have e1 : qw_s (fun k => qf_m (we k) (su k)) (i + 1) = (qw_s (fun k => qf_m (we k) (su k)) i) ^^^ (qf_m (we i) (su i)) := by first | rfl | (simp only [cond_true, cond_false])
      exact ih (i + 1) (by omega)  ls (by rw [e1]; exact hl) 
  have hl := lv_sub (l' := [(0, .ref h0), (1, .int (sI 0#8)), (2, .int (nI 0))]) hl [2, 1, 0] rfl
  exact lp4 4 0 (by omega)  ls hl 
set_option maxHeartbeats 4000000 in
set_option maxRecDepth 100000 in
/-- Word.beginWith -/
theorem qc_begin (l : Launch) (dC : Nat → ClassId) (dI : Nat → Nat → Nat) (cI cZ : ClassId) (h0 a1 a2 a3 a4 a5 a6 a7 n : Nat) (w : Nat → BitVec 8) (z : Nat → Bool) (lo su : Nat → BitVec 8) (da : Nat → Nat) (ch we : Nat → BitVec 8) (x : Int64) (sz : Nat) (hn : n ≤ 16) (h8 : 8 ≤ n) : Met l yX3_beginWith wsX3_beginWith ({ frames := 0, cells := 0, slots := 0, locals := 0 } : Room) (va_Pc [.ref h0, .long x] (fun U => U.heap.size = sz ∧ va_P (dC, dI) vwCl [(h0, .inr (2, [.int (nI n), .ref a1, .ref a2, .ref a3, .ref a4, .ref a5, .ref a6, .ref a7])), (a1, .inl (cI, n, .inl (qS w))), (a2, .inl (cZ, n, .inl (qZ z))), (a3, .inl (cI, n, .inl (qS lo))), (a4, .inl (cI, 4, .inl (qS su))), (a5, .inl (cI, 4, .inl (qN da))), (a6, .inl (cI, 4, .inl (qS ch))), (a7, .inl (cI, 4, .inl (qS we)))] U.heap ∧ va_K (dC, dI) vwCl [(cI, .int), (cZ, .boolean)] U ∧ va_D (fun _ => True) [(h0, .inr (2, [.int (nI n), .ref a1, .ref a2, .ref a3, .ref a4, .ref a5, .ref a6, .ref a7])), (a1, .inl (cI, n, .inl (qS w))), (a2, .inl (cZ, n, .inl (qZ z))), (a3, .inl (cI, n, .inl (qS lo))), (a4, .inl (cI, 4, .inl (qS su))), (a5, .inl (cI, 4, .inl (qN da))), (a6, .inl (cI, 4, .inl (qS ch))), (a7, .inl (cI, 4, .inl (qS we)))])) (va_Qv (fun (_ : Unit) => True) (fun _ t => va_P (dC, dI) vwCl [(h0, .inr (2, [.int (nI n), .ref a1, .ref a2, .ref a3, .ref a4, .ref a5, .ref a6, .ref a7])), (a1, .inl (cI, n, .inl (qS (qm_bw x w 8)))), (a2, .inl (cZ, n, .inl (qZ z))), (a3, .inl (cI, n, .inl (qS lo))), (a4, .inl (cI, 4, .inl (qS su))), (a5, .inl (cI, 4, .inl (qN da))), (a6, .inl (cI, 4, .inl (qS ch))), (a7, .inl (cI, 4, .inl (qS we)))] t.heap ∧ va_K (dC, dI) vwCl [(cI, .int), (cZ, .boolean)] t ∧ va_D (va_A [(h0, .inr (2, [.int (nI n), .ref a1, .ref a2, .ref a3, .ref a4, .ref a5, .ref a6, .ref a7])), (a1, .inl (cI, n, .inl (qS w))), (a2, .inl (cZ, n, .inl (qZ z))), (a3, .inl (cI, n, .inl (qS lo))), (a4, .inl (cI, 4, .inl (qS su))), (a5, .inl (cI, 4, .inl (qN da))), (a6, .inl (cI, 4, .inl (qS ch))), (a7, .inl (cI, 4, .inl (qS we)))] sz) [(h0, .inr (2, [.int (nI n), .ref a1, .ref a2, .ref a3, .ref a4, .ref a5, .ref a6, .ref a7])), (a1, .inl (cI, n, .inl (qS (qm_bw x w 8)))), (a2, .inl (cZ, n, .inl (qZ z))), (a3, .inl (cI, n, .inl (qS lo))), (a4, .inl (cI, 4, .inl (qS su))), (a5, .inl (cI, 4, .inl (qN da))), (a6, .inl (cI, 4, .inl (qS ch))), (a7, .inl (cI, 4, .inl (qS we)))]) (va_A [(h0, .inr (2, [.int (nI n), .ref a1, .ref a2, .ref a3, .ref a4, .ref a5, .ref a6, .ref a7])), (a1, .inl (cI, n, .inl (qS w))), (a2, .inl (cZ, n, .inl (qZ z))), (a3, .inl (cI, n, .inl (qS lo))), (a4, .inl (cI, 4, .inl (qS su))), (a5, .inl (cI, 4, .inl (qN da))), (a6, .inl (cI, 4, .inl (qS ch))), (a7, .inl (cI, 4, .inl (qS we)))] sz)) 0 0 (va_A [(h0, .inr (2, [.int (nI n), .ref a1, .ref a2, .ref a3, .ref a4, .ref a5, .ref a6, .ref a7])), (a1, .inl (cI, n, .inl (qS w))), (a2, .inl (cZ, n, .inl (qZ z))), (a3, .inl (cI, n, .inl (qS lo))), (a4, .inl (cI, 4, .inl (qS su))), (a5, .inl (cI, 4, .inl (qN da))), (a6, .inl (cI, 4, .inl (qS ch))), (a7, .inl (cI, 4, .inl (qS we)))] sz) := by
  refine Met.ofW (cc := cX3_beginWith) (maxL := 4) (ret := none) (by decide) rfl ?_
  intro p e s m args below meth c s₁ B hml hv
  obtain ⟨rfl, hsz, hP, hK, hD0⟩ := hv
  have hx := B.exec
  have hb := B.bytes
  have hr := B.returns
  have hts := atoms_spec (ws := wsX3_beginWith) B.pre
  have hown : s.vm.findClass RX3 = some m.cls := findClass_of_methodNamed B.named
  have hlocks := B.notSynchronized
  subst hsz
  have hD := hD0.self (sz := s.heap.size)
  generalize hAe : va_A [(h0, .inr (2, [.int (nI n), .ref a1, .ref a2, .ref a3, .ref a4, .ref a5, .ref a6, .ref a7])), (a1, .inl (cI, n, .inl (qS w))), (a2, .inl (cZ, n, .inl (qZ z))), (a3, .inl (cI, n, .inl (qS lo))), (a4, .inl (cI, 4, .inl (qS su))), (a5, .inl (cI, 4, .inl (qN da))), (a6, .inl (cI, 4, .inl (qS ch))), (a7, .inl (cI, 4, .inl (qS we)))] s.heap.size = A at hD ⊢
  have hA : ∀ q : Nat, s.heap.size ≤ q → A q := fun q h => by rw [← hAe]; exact Or.inr h
  have hS : va_S A s.heap s.heap [] := va_S.rf
  have hP : va_P (dC, dI) vwCl [(h0, .inr (2, [.int (nI n), .ref a1, .ref a2, .ref a3, .ref a4, .ref a5, .ref a6, .ref a7])), (a1, .inl (cI, n, .inl (qS w))), (a2, .inl (cZ, n, .inl (qZ z))), (a3, .inl (cI, n, .inl (qS lo))), (a4, .inl (cI, 4, .inl (qS su))), (a5, .inl (cI, 4, .inl (qN da))), (a6, .inl (cI, 4, .inl (qS ch))), (a7, .inl (cI, 4, .inl (qS we)))] s.heap := hP
  have hl := lv_entry ([.ref h0, .long x]) (n := 4) (Nat.le_of_ble_eq_true rfl)
  rw [lg_entry_eq]
  generalize (lg_sl ([.ref h0, .long x]) ++ List.replicate (4 - (lg_sl ([.ref h0, .long x])).length) Slot.unset).toArray = ls at hl ⊢
  have hl : lv_has ls 4 [(0, .ref h0), (1, .long x)] := hl
  have k_15 := hts (.fieldLink RX3 15 "DiscCoder$Word" "symbols" "[I") (by decide +kernel)
  have i_X3 : ∀ w ∈ u_ws RX3 TX3 8, w ∈ wsX3_beginWith := by decide +kernel
  refine qr_nm (fun Q hQ => ?_)
  refine lv_iconst (v := nI 0) hx hb dX3_beginWith_0 (by decide) ?_
  refine lv_istore_n (lv' := [(3, .int (nI 0)), (0, .ref h0), (1, .long x)]) hx hb dX3_beginWith_1 rfl hl (by decide) rfl (fun ls hl => ?_)
  have lp2 : ∀ (j i : Nat), i + j = 8 → ∀  (ls : Array Slot) (H : Heap) (locs : List Loc), lv_has ls 4 [(0, .ref h0), (1, .long x), (3, .int (nI i))] → va_P (dC, dI) vwCl [(h0, .inr (2, [.int (nI n), .ref a1, .ref a2, .ref a3, .ref a4, .ref a5, .ref a6, .ref a7])), (a1, .inl (cI, n, .inl (qS (qm_bw x w i)))), (a2, .inl (cZ, n, .inl (qZ z))), (a3, .inl (cI, n, .inl (qS lo))), (a4, .inl (cI, 4, .inl (qS su))), (a5, .inl (cI, 4, .inl (qN da))), (a6, .inl (cI, 4, .inl (qS ch))), (a7, .inl (cI, 4, .inl (qS we)))] H → va_D A [(h0, .inr (2, [.int (nI n), .ref a1, .ref a2, .ref a3, .ref a4, .ref a5, .ref a6, .ref a7])), (a1, .inl (cI, n, .inl (qS (qm_bw x w i)))), (a2, .inl (cZ, n, .inl (qZ z))), (a3, .inl (cI, n, .inl (qS lo))), (a4, .inl (cI, 4, .inl (qS su))), (a5, .inl (cI, 4, .inl (qN da))), (a6, .inl (cI, 4, .inl (qS ch))), (a7, .inl (cI, 4, .inl (qS we)))] → va_S A s.heap H locs → W p l e (headSpec wsX3_beginWith ({ frames := 0, cells := 0, slots := 0, locals := 0 } : Room)).room s m ([.ref h0, .long x] : List Value).toArray below meth c H locs 0 0 Q (F0 m 2 ls []) := by
    intro j
    induction j with
    | zero =>
      intro i hi  ls H locs hl hP hD hS
      have e9 : 8 = i := by omega
      subst e9
      refine lv_iload_n hx hb dX3_beginWith_2 rfl (lv_at hl 2 rfl) ?_
      refine lv_bipush (v := nI 8) hx hb dX3_beginWith_3 (by decide) ?_
      refine qr_ge (tgt := 31) hx hb dX3_beginWith_5 rfl (by omega) (by omega) (fun b5 => ?_) (fun h => absurd h (by omega))
      subst hQ
      exact W.vret hx hb hr (fun t ht hW => ⟨⟨(), rfl, trivial, by rw [ht]; exact hP, va_K.moved hW.alike hK, hD⟩, hS.F ht⟩) hS.2.2 dX3_beginWith_31
    | succ j ih =>
      intro i hi  ls H locs hl hP hD hS
      have li : i < 8 := by omega
      refine lv_iload_n hx hb dX3_beginWith_2 rfl (lv_at hl 2 rfl) ?_
      refine lv_bipush (v := nI 8) hx hb dX3_beginWith_3 (by decide) ?_
      refine qr_ge (tgt := 31) hx hb dX3_beginWith_5 rfl (by omega) (by omega) (fun h => absurd h (by omega)) (fun b5 => ?_)
      refine lv_aload_n hx hb dX3_beginWith_8 rfl (lv_at hl 0 rfl) ?_
      refine va_get (D := (dC, dI)) (ci := 2) (v := .ref a1) (C := RX3) (T := TX3) (N := 8) hx hb hts i_X3 hown hK hP 0 rfl rfl 1 (by decide) k_15 (fun _ h9 => h9) rfl dX3_beginWith_9 ?_
      refine lv_iload_n hx hb dX3_beginWith_12 rfl (lv_at hl 2 rfl) ?_
      refine lv_lload_n hx hb dX3_beginWith_13 rfl (lv_at hl 1 rfl) ?_
      refine lv_bipush (v := nI 8) hx hb dX3_beginWith_14 (by decide) ?_
      refine lv_iload_n hx hb dX3_beginWith_16 rfl (lv_at hl 2 rfl) ?_
      refine qr_imul (z := nI (8 * i)) hx hb dX3_beginWith_17 (pk_mul _ _) ?_
      refine lv_lushr (v := qm_sx x i) hx hb dX3_beginWith_18 rfl ?_
      refine lv_l2i (v := (qm_sx x i).toInt32) hx hb dX3_beginWith_19 rfl ?_
      refine lv_sipush (v := nI 255) hx hb dX3_beginWith_20 (by decide) ?_
      refine qr_iand (z := sI (qm_by x i)) hx hb dX3_beginWith_23 (qm_byte x (by omega)) ?_
      refine qr_istS (x := qm_by x i) hx hb hK hP hD hS 1 0 rfl rfl (by omega) (by omega) dX3_beginWith_24 (fun H locs hP hD hS => ?_)
      have hP : va_P (dC, dI) vwCl [(h0, .inr (2, [.int (nI n), .ref a1, .ref a2, .ref a3, .ref a4, .ref a5, .ref a6, .ref a7])), (a1, .inl (cI, n, .inl (qS (va_up (qm_bw x w i) i (qm_by x i))))), (a2, .inl (cZ, n, .inl (qZ z))), (a3, .inl (cI, n, .inl (qS lo))), (a4, .inl (cI, 4, .inl (qS su))), (a5, .inl (cI, 4, .inl (qN da))), (a6, .inl (cI, 4, .inl (qS ch))), (a7, .inl (cI, 4, .inl (qS we)))] H := hP
      have hD : va_D A [(h0, .inr (2, [.int (nI n), .ref a1, .ref a2, .ref a3, .ref a4, .ref a5, .ref a6, .ref a7])), (a1, .inl (cI, n, .inl (qS (va_up (qm_bw x w i) i (qm_by x i))))), (a2, .inl (cZ, n, .inl (qZ z))), (a3, .inl (cI, n, .inl (qS lo))), (a4, .inl (cI, 4, .inl (qS su))), (a5, .inl (cI, 4, .inl (qN da))), (a6, .inl (cI, 4, .inl (qS ch))), (a7, .inl (cI, 4, .inl (qS we)))] := hD
      refine lv_iinc (k := 2) (v := nI (i + 1)) (lv' := [(3, .int (nI (i + 1))), (0, .ref h0), (1, .long x)]) hx hb dX3_beginWith_25 hl rfl (qr_inc _) (by decide) rfl (fun ls hl => ?_)
      refine lv_goto (tgt := 2) hx hb dX3_beginWith_28 rfl ?_
      have hl := lv_sub (l' := [(0, .ref h0), (1, .long x), (3, .int (nI (i + 1)))]) hl [1, 2, 0] rfl
      have e1 : qm_bw x w (i + 1) = va_up (qm_bw x w i) i (qm_by x i) := by first | rfl | (simp only [cond_true, cond_false])
      exact ih (i + 1) (by omega)  ls H _ (by exact hl) (by rw [e1]; exact hP) (by rw [e1]; exact hD) hS 
  have hl := lv_sub (l' := [(0, .ref h0), (1, .long x), (3, .int (nI 0))]) hl [1, 2, 0] rfl
  exact lp2 8 0 (by omega)  ls s.heap _ hl hP hD hS 
set_option maxHeartbeats 4000000 in
set_option maxRecDepth 100000 in
/-- Word.changeAt -/
theorem qc_change (l : Launch) (dC : Nat → ClassId) (dI : Nat → Nat → Nat) (cI cZ : ClassId) (h0 a1 a2 a3 a4 a5 a6 a7 n : Nat) (w : Nat → BitVec 8) (z : Nat → Bool) (lo su : Nat → BitVec 8) (da : Nat → Nat) (ch we : Nat → BitVec 8) (x mm : Nat) (sz : Nat) (hn : n ≤ 16) (hm : mm ≤ 4) (hx0 : x < mm) (hd : ∀ c, c < mm → da c < n) : Met l yX3_changeAt wsX3_changeAt ({ frames := 2, cells := 0, slots := 0, locals := 47 } : Room) (va_Pc [.ref h0, .int (nI x), .int (nI mm)] (fun U => U.heap.size = sz ∧ va_P (dC, dI) vwCl [(h0, .inr (2, [.int (nI n), .ref a1, .ref a2, .ref a3, .ref a4, .ref a5, .ref a6, .ref a7])), (a1, .inl (cI, n, .inl (qS w))), (a2, .inl (cZ, n, .inl (qZ z))), (a3, .inl (cI, n, .inl (qS lo))), (a4, .inl (cI, 4, .inl (qS su))), (a5, .inl (cI, 4, .inl (qN da))), (a6, .inl (cI, 4, .inl (qS ch))), (a7, .inl (cI, 4, .inl (qS we)))] U.heap ∧ va_K (dC, dI) vwCl [(cI, .int), (cZ, .boolean)] U ∧ va_D (fun _ => True) [(h0, .inr (2, [.int (nI n), .ref a1, .ref a2, .ref a3, .ref a4, .ref a5, .ref a6, .ref a7])), (a1, .inl (cI, n, .inl (qS w))), (a2, .inl (cZ, n, .inl (qZ z))), (a3, .inl (cI, n, .inl (qS lo))), (a4, .inl (cI, 4, .inl (qS su))), (a5, .inl (cI, 4, .inl (qN da))), (a6, .inl (cI, 4, .inl (qS ch))), (a7, .inl (cI, 4, .inl (qS we)))])) (va_Qi (fun (r : Int32) (_ : Unit) => r = sI (qf_m (qw_s (fun k => qf_m (qw_V (fun c => lo (da c)) x (qm_st we 3) mm k) (su k)) 4) (qf_i (qw_e (fun c => lo (da c)) x (lo (da x)) mm)))) (fun _ t => va_P (dC, dI) vwCl [(h0, .inr (2, [.int (nI n), .ref a1, .ref a2, .ref a3, .ref a4, .ref a5, .ref a6, .ref a7])), (a1, .inl (cI, n, .inl (qS w))), (a2, .inl (cZ, n, .inl (qZ z))), (a3, .inl (cI, n, .inl (qS lo))), (a4, .inl (cI, 4, .inl (qS su))), (a5, .inl (cI, 4, .inl (qN da))), (a6, .inl (cI, 4, .inl (qS ch))), (a7, .inl (cI, 4, .inl (qS (qw_V (fun c => lo (da c)) x (qm_st we 3) mm))))] t.heap ∧ va_K (dC, dI) vwCl [(cI, .int), (cZ, .boolean)] t ∧ va_D (va_A [(h0, .inr (2, [.int (nI n), .ref a1, .ref a2, .ref a3, .ref a4, .ref a5, .ref a6, .ref a7])), (a1, .inl (cI, n, .inl (qS w))), (a2, .inl (cZ, n, .inl (qZ z))), (a3, .inl (cI, n, .inl (qS lo))), (a4, .inl (cI, 4, .inl (qS su))), (a5, .inl (cI, 4, .inl (qN da))), (a6, .inl (cI, 4, .inl (qS ch))), (a7, .inl (cI, 4, .inl (qS we)))] sz) [(h0, .inr (2, [.int (nI n), .ref a1, .ref a2, .ref a3, .ref a4, .ref a5, .ref a6, .ref a7])), (a1, .inl (cI, n, .inl (qS w))), (a2, .inl (cZ, n, .inl (qZ z))), (a3, .inl (cI, n, .inl (qS lo))), (a4, .inl (cI, 4, .inl (qS su))), (a5, .inl (cI, 4, .inl (qN da))), (a6, .inl (cI, 4, .inl (qS ch))), (a7, .inl (cI, 4, .inl (qS (qw_V (fun c => lo (da c)) x (qm_st we 3) mm))))]) (va_A [(h0, .inr (2, [.int (nI n), .ref a1, .ref a2, .ref a3, .ref a4, .ref a5, .ref a6, .ref a7])), (a1, .inl (cI, n, .inl (qS w))), (a2, .inl (cZ, n, .inl (qZ z))), (a3, .inl (cI, n, .inl (qS lo))), (a4, .inl (cI, 4, .inl (qS su))), (a5, .inl (cI, 4, .inl (qN da))), (a6, .inl (cI, 4, .inl (qS ch))), (a7, .inl (cI, 4, .inl (qS we)))] sz)) 0 0 (va_A [(h0, .inr (2, [.int (nI n), .ref a1, .ref a2, .ref a3, .ref a4, .ref a5, .ref a6, .ref a7])), (a1, .inl (cI, n, .inl (qS w))), (a2, .inl (cZ, n, .inl (qZ z))), (a3, .inl (cI, n, .inl (qS lo))), (a4, .inl (cI, 4, .inl (qS su))), (a5, .inl (cI, 4, .inl (qN da))), (a6, .inl (cI, 4, .inl (qS ch))), (a7, .inl (cI, 4, .inl (qS we)))] sz) := by
  refine Met.ofW (cc := cX3_changeAt) (maxL := 7) (ret := (some .int)) (by decide) rfl ?_
  intro p e s m args below meth c s₁ B hml hv
  obtain ⟨rfl, hsz, hP, hK, hD0⟩ := hv
  have hx := B.exec
  have hb := B.bytes
  have hr := B.returns
  have hts := atoms_spec (ws := wsX3_changeAt) B.pre
  have hown : s.vm.findClass RX3 = some m.cls := findClass_of_methodNamed B.named
  have hlocks := B.notSynchronized
  subst hsz
  have hD := hD0.self (sz := s.heap.size)
  generalize hAe : va_A [(h0, .inr (2, [.int (nI n), .ref a1, .ref a2, .ref a3, .ref a4, .ref a5, .ref a6, .ref a7])), (a1, .inl (cI, n, .inl (qS w))), (a2, .inl (cZ, n, .inl (qZ z))), (a3, .inl (cI, n, .inl (qS lo))), (a4, .inl (cI, 4, .inl (qS su))), (a5, .inl (cI, 4, .inl (qN da))), (a6, .inl (cI, 4, .inl (qS ch))), (a7, .inl (cI, 4, .inl (qS we)))] s.heap.size = A at hD ⊢
  have hA : ∀ q : Nat, s.heap.size ≤ q → A q := fun q h => by rw [← hAe]; exact Or.inr h
  have hS : va_S A s.heap s.heap [] := va_S.rf
  have hP : va_P (dC, dI) vwCl [(h0, .inr (2, [.int (nI n), .ref a1, .ref a2, .ref a3, .ref a4, .ref a5, .ref a6, .ref a7])), (a1, .inl (cI, n, .inl (qS w))), (a2, .inl (cZ, n, .inl (qZ z))), (a3, .inl (cI, n, .inl (qS lo))), (a4, .inl (cI, 4, .inl (qS su))), (a5, .inl (cI, 4, .inl (qN da))), (a6, .inl (cI, 4, .inl (qS ch))), (a7, .inl (cI, 4, .inl (qS we)))] s.heap := hP
  have hl := lv_entry ([.ref h0, .int (nI x), .int (nI mm)]) (n := 7) (Nat.le_of_ble_eq_true rfl)
  rw [lg_entry_eq]
  generalize (lg_sl ([.ref h0, .int (nI x), .int (nI mm)]) ++ List.replicate (7 - (lg_sl ([.ref h0, .int (nI x), .int (nI mm)])).length) Slot.unset).toArray = ls at hl ⊢
  have hl : lv_has ls 7 [(0, .ref h0), (1, .int (nI x)), (2, .int (nI mm))] := hl
  have k_23 := hts (.fieldLink RX3 23 "DiscCoder$Word" "locators" "[I") (by decide +kernel)
  have k_29 := hts (.fieldLink RX3 29 "DiscCoder$Word" "doubtedAt" "[I") (by decide +kernel)
  have i_X3 : ∀ w ∈ u_ws RX3 TX3 8, w ∈ wsX3_changeAt := by decide +kernel
  refine qr_nm (fun Q hQ => ?_)
  refine lv_aload_n hx hb dX3_changeAt_0 rfl (lv_at hl 0 rfl) ?_
  refine va_get (D := (dC, dI)) (ci := 2) (v := .ref a3) (C := RX3) (T := TX3) (N := 8) hx hb hts i_X3 hown hK hP 0 rfl rfl 3 (by decide) k_23 (fun _ h9 => h9) rfl dX3_changeAt_1 ?_
  refine lv_aload_n hx hb dX3_changeAt_4 rfl (lv_at hl 0 rfl) ?_
  refine va_get (D := (dC, dI)) (ci := 2) (v := .ref a5) (C := RX3) (T := TX3) (N := 8) hx hb hts i_X3 hown hK hP 0 rfl rfl 5 (by decide) k_29 (fun _ h9 => h9) rfl dX3_changeAt_5 ?_
  refine lv_iload_n hx hb dX3_changeAt_8 rfl (lv_at hl 1 rfl) ?_
  refine qr_ildN hx hb hK hP 5 0 rfl rfl (by omega) (by omega) dX3_changeAt_9 ?_
  refine qr_ildS hx hb hK hP 3 0 rfl rfl (hd x hx0) (by omega) dX3_changeAt_10 ?_
  refine lv_istore_n (lv' := [(3, .int (sI (lo (da x)))), (0, .ref h0), (1, .int (nI x)), (2, .int (nI mm))]) hx hb dX3_changeAt_11 rfl hl (by decide) rfl (fun ls hl => ?_)
  refine lv_iconst (v := sI 1#8) hx hb dX3_changeAt_12 (by decide) ?_
  refine lv_istore (lv' := [(4, .int (sI 1#8)), (3, .int (sI (lo (da x)))), (0, .ref h0), (1, .int (nI x)), (2, .int (nI mm))]) hx hb dX3_changeAt_13 hl (by decide) rfl (fun ls hl => ?_)
  refine lv_aload_n hx hb dX3_changeAt_15 rfl (lv_at hl 2 rfl) ?_
  have hPc := hP.sub (ws' := [(h0, .inr (2, [.int (nI n), .ref a1, .ref a2, .ref a3, .ref a4, .ref a5, .ref a6, .ref a7])), (a1, .inl (cI, n, .inl (qS w))), (a2, .inl (cZ, n, .inl (qZ z))), (a3, .inl (cI, n, .inl (qS lo))), (a4, .inl (cI, 4, .inl (qS su))), (a5, .inl (cI, 4, .inl (qN da))), (a6, .inl (cI, 4, .inl (qS ch))), (a7, .inl (cI, 4, .inl (qS we)))]) [0, 1, 2, 3, 4, 5, 6, 7] rfl
  have hDc := hD.sub (ws' := [(h0, .inr (2, [.int (nI n), .ref a1, .ref a2, .ref a3, .ref a4, .ref a5, .ref a6, .ref a7])), (a1, .inl (cI, n, .inl (qS w))), (a2, .inl (cZ, n, .inl (qZ z))), (a3, .inl (cI, n, .inl (qS lo))), (a4, .inl (cI, 4, .inl (qS su))), (a5, .inl (cI, 4, .inl (qN da))), (a6, .inl (cI, 4, .inl (qS ch))), (a7, .inl (cI, 4, .inl (qS we)))]) [0, 1, 2, 3, 4, 5, 6, 7] (by decide) rfl
  have hKc := hK.sub (tys' := [(cI, .int), (cZ, .boolean)]) [0, 1] rfl
  have hFc := va_free (wc := [(h0, .inr (2, [.int (nI n), .ref a1, .ref a2, .ref a3, .ref a4, .ref a5, .ref a6, .ref a7])), (a1, .inl (cI, n, .inl (qS w))), (a2, .inl (cZ, n, .inl (qZ z))), (a3, .inl (cI, n, .inl (qS lo))), (a4, .inl (cI, 4, .inl (qS su))), (a5, .inl (cI, 4, .inl (qN da))), (a6, .inl (cI, 4, .inl (qS ch))), (a7, .inl (cI, 4, .inl (qS we)))]) hD hS hA [0, 1, 2, 3, 4, 5, 6, 7] rfl
  refine va_callv (va_runV (As := []) (rest := []) ⟨hx, hb, hml, hown, hts⟩ (qc_start l dC dI cI cZ h0 a1 a2 a3 a4 a5 a6 a7 n w z lo su da ch we s.heap.size hn) (cwV 0 hts gX3_changeAt_X3_startWeights rfl rfl rfl (by decide +kernel) ⟨Nat.le_of_ble_eq_true rfl, Nat.le_of_ble_eq_true rfl⟩) ⟨fun a U g mk q => by obtain ⟨q0, q1, qP, qK, qD⟩ := q; exact ⟨q0, q1, qP, va_K.moved (u := U) (U := U.calling g mk a) (Vm.Alike.refl U.vm) qK, qD⟩, (va_recv (q0 := 0) (ci := 2) hK hP rfl rfl), fun U hU hW => ⟨rfl, by rw [hU], by rw [hU]; exact hPc, va_K.moved hW.alike hKc, hDc.weaken (fun _ _ _ _ => trivial)⟩⟩ rfl rfl hl.1 rfl (lv_room (Nat.le_of_ble_eq_true rfl)) dX3_changeAt_16 ⟨Nat.le_of_ble_eq_true rfl, Nat.le_of_ble_eq_true rfl⟩) hS (fun q _ h => hFc q h) hFc (fun u t H1 locs ht hvm hr16 hB hz1 hk1 hS => ?_)
  obtain ⟨hP1, hK1, hD1⟩ := hB
  rw [ht] at hP1
  have hP1 : va_P (dC, dI) vwCl [(h0, .inr (2, [.int (nI n), .ref a1, .ref a2, .ref a3, .ref a4, .ref a5, .ref a6, .ref a7])), (a1, .inl (cI, n, .inl (qS w))), (a2, .inl (cZ, n, .inl (qZ z))), (a3, .inl (cI, n, .inl (qS lo))), (a4, .inl (cI, 4, .inl (qS su))), (a5, .inl (cI, 4, .inl (qN da))), (a6, .inl (cI, 4, .inl (qS ch))), (a7, .inl (cI, 4, .inl (qS (qm_st we 3))))] H1 := hP1
  obtain ⟨hP, hD⟩ := qj_join (wc := [(h0, .inr (2, [.int (nI n), .ref a1, .ref a2, .ref a3, .ref a4, .ref a5, .ref a6, .ref a7])), (a1, .inl (cI, n, .inl (qS w))), (a2, .inl (cZ, n, .inl (qZ z))), (a3, .inl (cI, n, .inl (qS lo))), (a4, .inl (cI, 4, .inl (qS su))), (a5, .inl (cI, 4, .inl (qN da))), (a6, .inl (cI, 4, .inl (qS ch))), (a7, .inl (cI, 4, .inl (qS we)))]) (w1 := [(h0, .inr (2, [.int (nI n), .ref a1, .ref a2, .ref a3, .ref a4, .ref a5, .ref a6, .ref a7])), (a1, .inl (cI, n, .inl (qS w))), (a2, .inl (cZ, n, .inl (qZ z))), (a3, .inl (cI, n, .inl (qS lo))), (a4, .inl (cI, 4, .inl (qS su))), (a5, .inl (cI, 4, .inl (qN da))), (a6, .inl (cI, 4, .inl (qS ch))), (a7, .inl (cI, 4, .inl (qS (qm_st we 3))))]) hP hD [0, 1, 2, 3, 4, 5, 6, 7] rfl rfl hk1 hP1
  generalize H1 = H at hP hS ⊢
  have hP : va_P (dC, dI) vwCl [(h0, .inr (2, [.int (nI n), .ref a1, .ref a2, .ref a3, .ref a4, .ref a5, .ref a6, .ref a7])), (a1, .inl (cI, n, .inl (qS w))), (a2, .inl (cZ, n, .inl (qZ z))), (a3, .inl (cI, n, .inl (qS lo))), (a4, .inl (cI, 4, .inl (qS su))), (a5, .inl (cI, 4, .inl (qN da))), (a6, .inl (cI, 4, .inl (qS ch))), (a7, .inl (cI, 4, .inl (qS (qm_st we 3))))] H := hP
  have hD : va_D A [(h0, .inr (2, [.int (nI n), .ref a1, .ref a2, .ref a3, .ref a4, .ref a5, .ref a6, .ref a7])), (a1, .inl (cI, n, .inl (qS w))), (a2, .inl (cZ, n, .inl (qZ z))), (a3, .inl (cI, n, .inl (qS lo))), (a4, .inl (cI, 4, .inl (qS su))), (a5, .inl (cI, 4, .inl (qN da))), (a6, .inl (cI, 4, .inl (qS ch))), (a7, .inl (cI, 4, .inl (qS (qm_st we 3))))] := hD
  refine lv_iconst (v := nI 0) hx hb dX3_changeAt_19 (by decide) ?_
  refine lv_istore (lv' := [(5, .int (nI 0)), (4, .int (sI 1#8)), (3, .int (sI (lo (da x)))), (0, .ref h0), (1, .int (nI x)), (2, .int (nI mm))]) hx hb dX3_changeAt_20 hl (by decide) rfl (fun ls hl => ?_)
  have lp22 : ∀ (j ot : Nat), ot + j = mm → ∀  (ls : Array Slot) (H : Heap) (locs : List Loc), lv_has ls 7 [(0, .ref h0), (1, .int (nI x)), (2, .int (nI mm)), (3, .int (sI (lo (da x)))), (4, .int (sI (qw_e (fun c => lo (da c)) x (lo (da x)) ot))), (5, .int (nI ot))] → va_P (dC, dI) vwCl [(h0, .inr (2, [.int (nI n), .ref a1, .ref a2, .ref a3, .ref a4, .ref a5, .ref a6, .ref a7])), (a1, .inl (cI, n, .inl (qS w))), (a2, .inl (cZ, n, .inl (qZ z))), (a3, .inl (cI, n, .inl (qS lo))), (a4, .inl (cI, 4, .inl (qS su))), (a5, .inl (cI, 4, .inl (qN da))), (a6, .inl (cI, 4, .inl (qS ch))), (a7, .inl (cI, 4, .inl (qS (qw_V (fun c => lo (da c)) x (qm_st we 3) ot))))] H → va_D A [(h0, .inr (2, [.int (nI n), .ref a1, .ref a2, .ref a3, .ref a4, .ref a5, .ref a6, .ref a7])), (a1, .inl (cI, n, .inl (qS w))), (a2, .inl (cZ, n, .inl (qZ z))), (a3, .inl (cI, n, .inl (qS lo))), (a4, .inl (cI, 4, .inl (qS su))), (a5, .inl (cI, 4, .inl (qN da))), (a6, .inl (cI, 4, .inl (qS ch))), (a7, .inl (cI, 4, .inl (qS (qw_V (fun c => lo (da c)) x (qm_st we 3) ot))))] → va_S A s.heap H locs → W p l e (headSpec wsX3_changeAt ({ frames := 2, cells := 0, slots := 0, locals := 47 } : Room)).room s m ([.ref h0, .int (nI x), .int (nI mm)] : List Value).toArray below meth c H locs 0 0 Q (F0 m 22 ls []) := by
    intro j
    induction j with
    | zero =>
      intro ot hot  ls H locs hl hP hD hS
      have e9 : mm = ot := by omega
      subst e9
      refine lv_iload hx hb dX3_changeAt_22 (lv_at hl 5 rfl) ?_
      refine lv_iload_n hx hb dX3_changeAt_24 rfl (lv_at hl 2 rfl) ?_
      refine qr_ge (tgt := 71) hx hb dX3_changeAt_25 rfl (by omega) (by omega) (fun b25 => ?_) (fun h => absurd h (by omega))
      refine lv_aload_n hx hb dX3_changeAt_71 rfl (lv_at hl 0 rfl) ?_
      have hPc := hP.sub (ws' := [(h0, .inr (2, [.int (nI n), .ref a1, .ref a2, .ref a3, .ref a4, .ref a5, .ref a6, .ref a7])), (a1, .inl (cI, n, .inl (qS w))), (a2, .inl (cZ, n, .inl (qZ z))), (a3, .inl (cI, n, .inl (qS lo))), (a4, .inl (cI, 4, .inl (qS su))), (a5, .inl (cI, 4, .inl (qN da))), (a6, .inl (cI, 4, .inl (qS ch))), (a7, .inl (cI, 4, .inl (qS (qw_V (fun c => lo (da c)) x (qm_st we 3) mm))))]) [0, 1, 2, 3, 4, 5, 6, 7] rfl
      have hKc := hK.sub (tys' := [(cI, .int), (cZ, .boolean)]) [0, 1] rfl
      refine vp_callSi (va_Run.run (va_runV (As := []) (rest := []) ⟨hx, hb, hml, hown, hts⟩ (qc_wsums l dC dI cI cZ h0 a1 a2 a3 a4 a5 a6 a7 n w z lo su da ch (qw_V (fun c => lo (da c)) x (qm_st we 3) mm) hn) (cwV 0 hts gX3_changeAt_X3_weightedSums rfl rfl rfl (by decide +kernel) ⟨Nat.le_of_ble_eq_true rfl, Nat.le_of_ble_eq_true rfl⟩) ⟨fun a U g mk q => by obtain ⟨q0, qP, qK⟩ := q; exact ⟨q0, qP, va_K.moved (u := U) (U := U.calling g mk a) (Vm.Alike.refl U.vm) qK⟩, (va_recv (q0 := 0) (ci := 2) hK hP rfl rfl), fun U hU hW => ⟨rfl, by rw [hU]; exact hPc, va_K.moved hW.alike hKc⟩⟩ rfl rfl hl.1 rfl (lv_room (Nat.le_of_ble_eq_true rfl)) dX3_changeAt_72 ⟨Nat.le_of_ble_eq_true rfl, Nat.le_of_ble_eq_true rfl⟩)) (fun r72 hr72 => ?_)
      have hr72 : r72 = sI (qw_s (fun k => qf_m ((qw_V (fun c => lo (da c)) x (qm_st we 3) mm) k) (su k)) 4) := hr72
      subst hr72
      refine lv_iload hx hb dX3_changeAt_75 (lv_at hl 4 rfl) ?_
      refine vp_callSi (va_Run.run (va_runS (As := [.int (sI (qw_e (fun c => lo (da c)) x (lo (da x)) mm))]) (rest := [.int (sI (qw_s (fun k => qf_m ((qw_V (fun c => lo (da c)) x (qm_st we 3) mm) k) (su k)) 4))]) ⟨hx, hb, hml, hown, hts⟩ (qc_inverse l (qw_e (fun c => lo (da c)) x (lo (da x)) mm) ) (va_cwS 1 hts gX3_changeAt_X1_inverse rfl rfl rfl (by decide +kernel) ⟨Nat.le_of_ble_eq_true rfl, Nat.le_of_ble_eq_true rfl⟩) ⟨fun a U g mk q => q, fun U hU hW => ⟨rfl, trivial⟩⟩ rfl rfl hl.1 rfl (lv_room (Nat.le_of_ble_eq_true rfl)) dX3_changeAt_77 ⟨Nat.le_of_ble_eq_true rfl, Nat.le_of_ble_eq_true rfl⟩)) (fun r77 hr77 => ?_)
      have hr77 : r77 = sI (qf_i (qw_e (fun c => lo (da c)) x (lo (da x)) mm)) := hr77
      subst hr77
      refine vp_callSi (va_Run.run (va_runS (As := [.int (sI (qw_s (fun k => qf_m ((qw_V (fun c => lo (da c)) x (qm_st we 3) mm) k) (su k)) 4)), .int (sI (qf_i (qw_e (fun c => lo (da c)) x (lo (da x)) mm)))]) (rest := []) ⟨hx, hb, hml, hown, hts⟩ (qc_times l (qw_s (fun k => qf_m ((qw_V (fun c => lo (da c)) x (qm_st we 3) mm) k) (su k)) 4) (qf_i (qw_e (fun c => lo (da c)) x (lo (da x)) mm)) ) (va_cwS 2 hts gX3_changeAt_X1_times rfl rfl rfl (by decide +kernel) ⟨Nat.le_of_ble_eq_true rfl, Nat.le_of_ble_eq_true rfl⟩) ⟨fun a U g mk q => q, fun U hU hW => ⟨rfl, trivial⟩⟩ rfl rfl hl.1 rfl (lv_room (Nat.le_of_ble_eq_true rfl)) dX3_changeAt_80 ⟨Nat.le_of_ble_eq_true rfl, Nat.le_of_ble_eq_true rfl⟩)) (fun r80 hr80 => ?_)
      have hr80 : r80 = sI (qf_m (qw_s (fun k => qf_m ((qw_V (fun c => lo (da c)) x (qm_st we 3) mm) k) (su k)) 4) (qf_i (qw_e (fun c => lo (da c)) x (lo (da x)) mm))) := hr80
      subst hr80
      subst hQ
      exact W.iret hx hb hr (fun t ht hW => ⟨⟨_, (), rfl, rfl, by rw [ht]; exact hP, va_K.moved hW.alike hK, hD⟩, hS.F ht⟩) hS.2.2 dX3_changeAt_83
    | succ j ih =>
      intro ot hot  ls H locs hl hP hD hS
      have lot : ot < mm := by omega
      have lo0 : ot < mm := by omega
      refine lv_iload hx hb dX3_changeAt_22 (lv_at hl 5 rfl) ?_
      refine lv_iload_n hx hb dX3_changeAt_24 rfl (lv_at hl 2 rfl) ?_
      refine qr_ge (tgt := 71) hx hb dX3_changeAt_25 rfl (by omega) (by omega) (fun h => absurd h (by omega)) (fun b25 => ?_)
      refine lv_iload hx hb dX3_changeAt_28 (lv_at hl 5 rfl) ?_
      refine lv_iload_n hx hb dX3_changeAt_30 rfl (lv_at hl 1 rfl) ?_
      refine qr_eqN (tgt := 65) hx hb dX3_changeAt_31 rfl (by omega) (by omega) (fun b31 => ?_) (fun b31 => ?_)
      · refine lv_iinc (k := 5) (v := nI (ot + 1)) (lv' := [(5, .int (nI (ot + 1))), (0, .ref h0), (1, .int (nI x)), (2, .int (nI mm)), (3, .int (sI (lo (da x)))), (4, .int (sI (qw_e (fun c => lo (da c)) x (lo (da x)) ot)))]) hx hb dX3_changeAt_65 hl rfl (qr_inc _) (by decide) rfl (fun ls hl => ?_)
        refine lv_goto (tgt := 22) hx hb dX3_changeAt_68 rfl ?_
        have hl := lv_sub (l' := [(0, .ref h0), (1, .int (nI x)), (2, .int (nI mm)), (3, .int (sI (lo (da x)))), (4, .int (sI (qw_e (fun c => lo (da c)) x (lo (da x)) ot))), (5, .int (nI (ot + 1)))]) hl [1, 2, 3, 4, 5, 0] rfl
        have e1 : qw_e (fun c => lo (da c)) x (lo (da x)) (ot + 1) = qw_e (fun c => lo (da c)) x (lo (da x)) ot := by rw [qw_e, if_pos b31]
        have e2 : qw_V (fun c => lo (da c)) x (qm_st we 3) (ot + 1) = qw_V (fun c => lo (da c)) x (qm_st we 3) ot := by rw [qw_V, if_pos b31]
        exact ih (ot + 1) (by omega)  ls H _ (by rw [e1]; exact hl) (by rw [e2]; exact hP) (by rw [e2]; exact hD) hS 
      · refine lv_aload_n hx hb dX3_changeAt_34 rfl (lv_at hl 0 rfl) ?_
        refine va_get (D := (dC, dI)) (ci := 2) (v := .ref a3) (C := RX3) (T := TX3) (N := 8) hx hb hts i_X3 hown hK hP 0 rfl rfl 3 (by decide) k_23 (fun _ h9 => h9) rfl dX3_changeAt_35 ?_
        refine lv_aload_n hx hb dX3_changeAt_38 rfl (lv_at hl 0 rfl) ?_
        refine va_get (D := (dC, dI)) (ci := 2) (v := .ref a5) (C := RX3) (T := TX3) (N := 8) hx hb hts i_X3 hown hK hP 0 rfl rfl 5 (by decide) k_29 (fun _ h9 => h9) rfl dX3_changeAt_39 ?_
        refine lv_iload hx hb dX3_changeAt_42 (lv_at hl 5 rfl) ?_
        refine qr_ildN hx hb hK hP 5 0 rfl rfl (by omega) (by omega) dX3_changeAt_44 ?_
        refine qr_ildS hx hb hK hP 3 0 rfl rfl (hd ot lo0) (by omega) dX3_changeAt_45 ?_
        refine lv_istore (lv' := [(6, .int (sI (lo (da ot)))), (0, .ref h0), (1, .int (nI x)), (2, .int (nI mm)), (3, .int (sI (lo (da x)))), (4, .int (sI (qw_e (fun c => lo (da c)) x (lo (da x)) ot))), (5, .int (nI ot))]) hx hb dX3_changeAt_46 hl (by decide) rfl (fun ls hl => ?_)
        refine lv_aload_n hx hb dX3_changeAt_48 rfl (lv_at hl 1 rfl) ?_
        refine lv_iload hx hb dX3_changeAt_49 (lv_at hl 0 rfl) ?_
        have hPc := hP.sub (ws' := [(h0, .inr (2, [.int (nI n), .ref a1, .ref a2, .ref a3, .ref a4, .ref a5, .ref a6, .ref a7])), (a1, .inl (cI, n, .inl (qS w))), (a2, .inl (cZ, n, .inl (qZ z))), (a3, .inl (cI, n, .inl (qS lo))), (a4, .inl (cI, 4, .inl (qS su))), (a5, .inl (cI, 4, .inl (qN da))), (a6, .inl (cI, 4, .inl (qS ch))), (a7, .inl (cI, 4, .inl (qS (qw_V (fun c => lo (da c)) x (qm_st we 3) ot))))]) [0, 1, 2, 3, 4, 5, 6, 7] rfl
        have hDc := hD.sub (ws' := [(h0, .inr (2, [.int (nI n), .ref a1, .ref a2, .ref a3, .ref a4, .ref a5, .ref a6, .ref a7])), (a1, .inl (cI, n, .inl (qS w))), (a2, .inl (cZ, n, .inl (qZ z))), (a3, .inl (cI, n, .inl (qS lo))), (a4, .inl (cI, 4, .inl (qS su))), (a5, .inl (cI, 4, .inl (qN da))), (a6, .inl (cI, 4, .inl (qS ch))), (a7, .inl (cI, 4, .inl (qS (qw_V (fun c => lo (da c)) x (qm_st we 3) ot))))]) [0, 1, 2, 3, 4, 5, 6, 7] (by decide) rfl
        have hKc := hK.sub (tys' := [(cI, .int), (cZ, .boolean)]) [0, 1] rfl
        have hFc := va_free (wc := [(h0, .inr (2, [.int (nI n), .ref a1, .ref a2, .ref a3, .ref a4, .ref a5, .ref a6, .ref a7])), (a1, .inl (cI, n, .inl (qS w))), (a2, .inl (cZ, n, .inl (qZ z))), (a3, .inl (cI, n, .inl (qS lo))), (a4, .inl (cI, 4, .inl (qS su))), (a5, .inl (cI, 4, .inl (qN da))), (a6, .inl (cI, 4, .inl (qS ch))), (a7, .inl (cI, 4, .inl (qS (qw_V (fun c => lo (da c)) x (qm_st we 3) ot))))]) hD hS hA [0, 1, 2, 3, 4, 5, 6, 7] rfl
        refine va_callv (va_runV (As := [.int (sI (lo (da ot)))]) (rest := []) ⟨hx, hb, hml, hown, hts⟩ (qc_root l dC dI cI cZ h0 a1 a2 a3 a4 a5 a6 a7 n w z lo su da ch (qw_V (fun c => lo (da c)) x (qm_st we 3) ot) (lo (da ot)) H.size hn) (cwV 1 hts gX3_changeAt_X3_addRoot rfl rfl rfl (by decide +kernel) ⟨Nat.le_of_ble_eq_true rfl, Nat.le_of_ble_eq_true rfl⟩) ⟨fun a U g mk q => by obtain ⟨q0, q1, qP, qK, qD⟩ := q; exact ⟨q0, q1, qP, va_K.moved (u := U) (U := U.calling g mk a) (Vm.Alike.refl U.vm) qK, qD⟩, (va_recv (q0 := 0) (ci := 2) hK hP rfl rfl), fun U hU hW => ⟨rfl, by rw [hU], by rw [hU]; exact hPc, va_K.moved hW.alike hKc, hDc.weaken (fun _ _ _ _ => trivial)⟩⟩ rfl rfl hl.1 rfl (lv_room (Nat.le_of_ble_eq_true rfl)) dX3_changeAt_51 ⟨Nat.le_of_ble_eq_true rfl, Nat.le_of_ble_eq_true rfl⟩) hS (fun q _ h => hFc q h) hFc (fun u t H1 locs ht hvm hr51 hB hz1 hk1 hS => ?_)
        obtain ⟨hP1, hK1, hD1⟩ := hB
        rw [ht] at hP1
        have hP1 : va_P (dC, dI) vwCl [(h0, .inr (2, [.int (nI n), .ref a1, .ref a2, .ref a3, .ref a4, .ref a5, .ref a6, .ref a7])), (a1, .inl (cI, n, .inl (qS w))), (a2, .inl (cZ, n, .inl (qZ z))), (a3, .inl (cI, n, .inl (qS lo))), (a4, .inl (cI, 4, .inl (qS su))), (a5, .inl (cI, 4, .inl (qN da))), (a6, .inl (cI, 4, .inl (qS ch))), (a7, .inl (cI, 4, .inl (qS (qw_r (qw_V (fun c => lo (da c)) x (qm_st we 3) ot) (lo (da ot))))))] H1 := hP1
        obtain ⟨hP, hD⟩ := qj_join (wc := [(h0, .inr (2, [.int (nI n), .ref a1, .ref a2, .ref a3, .ref a4, .ref a5, .ref a6, .ref a7])), (a1, .inl (cI, n, .inl (qS w))), (a2, .inl (cZ, n, .inl (qZ z))), (a3, .inl (cI, n, .inl (qS lo))), (a4, .inl (cI, 4, .inl (qS su))), (a5, .inl (cI, 4, .inl (qN da))), (a6, .inl (cI, 4, .inl (qS ch))), (a7, .inl (cI, 4, .inl (qS (qw_V (fun c => lo (da c)) x (qm_st we 3) ot))))]) (w1 := [(h0, .inr (2, [.int (nI n), .ref a1, .ref a2, .ref a3, .ref a4, .ref a5, .ref a6, .ref a7])), (a1, .inl (cI, n, .inl (qS w))), (a2, .inl (cZ, n, .inl (qZ z))), (a3, .inl (cI, n, .inl (qS lo))), (a4, .inl (cI, 4, .inl (qS su))), (a5, .inl (cI, 4, .inl (qN da))), (a6, .inl (cI, 4, .inl (qS ch))), (a7, .inl (cI, 4, .inl (qS (qw_r (qw_V (fun c => lo (da c)) x (qm_st we 3) ot) (lo (da ot))))))]) hP hD [0, 1, 2, 3, 4, 5, 6, 7] rfl rfl hk1 hP1
        generalize H1 = H at hP hS ⊢
        have hP : va_P (dC, dI) vwCl [(h0, .inr (2, [.int (nI n), .ref a1, .ref a2, .ref a3, .ref a4, .ref a5, .ref a6, .ref a7])), (a1, .inl (cI, n, .inl (qS w))), (a2, .inl (cZ, n, .inl (qZ z))), (a3, .inl (cI, n, .inl (qS lo))), (a4, .inl (cI, 4, .inl (qS su))), (a5, .inl (cI, 4, .inl (qN da))), (a6, .inl (cI, 4, .inl (qS ch))), (a7, .inl (cI, 4, .inl (qS (qw_r (qw_V (fun c => lo (da c)) x (qm_st we 3) ot) (lo (da ot))))))] H := hP
        have hD : va_D A [(h0, .inr (2, [.int (nI n), .ref a1, .ref a2, .ref a3, .ref a4, .ref a5, .ref a6, .ref a7])), (a1, .inl (cI, n, .inl (qS w))), (a2, .inl (cZ, n, .inl (qZ z))), (a3, .inl (cI, n, .inl (qS lo))), (a4, .inl (cI, 4, .inl (qS su))), (a5, .inl (cI, 4, .inl (qN da))), (a6, .inl (cI, 4, .inl (qS ch))), (a7, .inl (cI, 4, .inl (qS (qw_r (qw_V (fun c => lo (da c)) x (qm_st we 3) ot) (lo (da ot))))))] := hD
        refine lv_iload hx hb dX3_changeAt_54 (lv_at hl 5 rfl) ?_
        refine lv_iload_n hx hb dX3_changeAt_56 rfl (lv_at hl 4 rfl) ?_
        refine lv_iload hx hb dX3_changeAt_57 (lv_at hl 0 rfl) ?_
        refine qr_ixor (z := sI ((lo (da x)) ^^^ (lo (da ot)))) hx hb dX3_changeAt_59 (sI_xor _ _) ?_
        refine vp_callSi (va_Run.run (va_runS (As := [.int (sI (qw_e (fun c => lo (da c)) x (lo (da x)) ot)), .int (sI ((lo (da x)) ^^^ (lo (da ot))))]) (rest := []) ⟨hx, hb, hml, hown, hts⟩ (qc_times l (qw_e (fun c => lo (da c)) x (lo (da x)) ot) ((lo (da x)) ^^^ (lo (da ot))) ) (va_cwS 2 hts gX3_changeAt_X1_times rfl rfl rfl (by decide +kernel) ⟨Nat.le_of_ble_eq_true rfl, Nat.le_of_ble_eq_true rfl⟩) ⟨fun a U g mk q => q, fun U hU hW => ⟨rfl, trivial⟩⟩ rfl rfl hl.1 rfl (lv_room (Nat.le_of_ble_eq_true rfl)) dX3_changeAt_60 ⟨Nat.le_of_ble_eq_true rfl, Nat.le_of_ble_eq_true rfl⟩)) (fun r60 hr60 => ?_)
        have hr60 : r60 = sI (qf_m (qw_e (fun c => lo (da c)) x (lo (da x)) ot) ((lo (da x)) ^^^ (lo (da ot)))) := hr60
        subst hr60
        refine lv_istore (lv' := [(4, .int (sI (qf_m (qw_e (fun c => lo (da c)) x (lo (da x)) ot) ((lo (da x)) ^^^ (lo (da ot)))))), (6, .int (sI (lo (da ot)))), (0, .ref h0), (1, .int (nI x)), (2, .int (nI mm)), (3, .int (sI (lo (da x)))), (5, .int (nI ot))]) hx hb dX3_changeAt_63 hl (by decide) rfl (fun ls hl => ?_)
        refine lv_iinc (k := 6) (v := nI (ot + 1)) (lv' := [(5, .int (nI (ot + 1))), (4, .int (sI (qf_m (qw_e (fun c => lo (da c)) x (lo (da x)) ot) ((lo (da x)) ^^^ (lo (da ot)))))), (6, .int (sI (lo (da ot)))), (0, .ref h0), (1, .int (nI x)), (2, .int (nI mm)), (3, .int (sI (lo (da x))))]) hx hb dX3_changeAt_65 hl rfl (qr_inc _) (by decide) rfl (fun ls hl => ?_)
        refine lv_goto (tgt := 22) hx hb dX3_changeAt_68 rfl ?_
        have hl := lv_sub (l' := [(0, .ref h0), (1, .int (nI x)), (2, .int (nI mm)), (3, .int (sI (lo (da x)))), (4, .int (sI (qf_m (qw_e (fun c => lo (da c)) x (lo (da x)) ot) ((lo (da x)) ^^^ (lo (da ot)))))), (5, .int (nI (ot + 1)))]) hl [3, 4, 5, 6, 1, 0] rfl
        have e3 : qw_e (fun c => lo (da c)) x (lo (da x)) (ot + 1) = qf_m (qw_e (fun c => lo (da c)) x (lo (da x)) ot) ((lo (da x)) ^^^ (lo (da ot))) := by rw [qw_e, if_neg b31]
        have e4 : qw_V (fun c => lo (da c)) x (qm_st we 3) (ot + 1) = qw_r (qw_V (fun c => lo (da c)) x (qm_st we 3) ot) (lo (da ot)) := by rw [qw_V, if_neg b31]
        exact ih (ot + 1) (by omega)  ls H _ (by rw [e3]; exact hl) (by rw [e4]; exact hP) (by rw [e4]; exact hD) hS 
  have hl := lv_sub (l' := [(0, .ref h0), (1, .int (nI x)), (2, .int (nI mm)), (3, .int (sI (lo (da x)))), (4, .int (sI 1#8)), (5, .int (nI 0))]) hl [3, 4, 5, 2, 1, 0] rfl
  exact lp22 mm 0 (by omega)  ls H _ hl hP hD hS 
end
section
set_option maxHeartbeats 4000000 in
set_option maxRecDepth 100000 in
/-- Word.fillDoubted -/
theorem qc_fill (l : Launch) (dC : Nat → ClassId) (dI : Nat → Nat → Nat) (cI cZ : ClassId) (h0 a1 a2 a3 a4 a5 a6 a7 n : Nat) (w : Nat → BitVec 8) (z : Nat → Bool) (lo su : Nat → BitVec 8) (da : Nat → Nat) (ch we : Nat → BitVec 8) (sz : Nat) (hn : n ≤ 16) (hlo : ∀ i, i < n → lo i = qw_X n i) : Met l yX3_fillDoubted wsX3_fillDoubted ({ frames := 3, cells := 0, slots := 0, locals := 73 } : Room) (va_Pc [.ref h0] (fun U => U.heap.size = sz ∧ va_P (dC, dI) vwCl [(h0, .inr (2, [.int (nI n), .ref a1, .ref a2, .ref a3, .ref a4, .ref a5, .ref a6, .ref a7])), (a1, .inl (cI, n, .inl (qS w))), (a2, .inl (cZ, n, .inl (qZ z))), (a3, .inl (cI, n, .inl (qS lo))), (a4, .inl (cI, 4, .inl (qS su))), (a5, .inl (cI, 4, .inl (qN da))), (a6, .inl (cI, 4, .inl (qS ch))), (a7, .inl (cI, 4, .inl (qS we)))] U.heap ∧ va_K (dC, dI) vwCl [(cI, .int), (cZ, .boolean)] U ∧ va_D (fun _ => True) [(h0, .inr (2, [.int (nI n), .ref a1, .ref a2, .ref a3, .ref a4, .ref a5, .ref a6, .ref a7])), (a1, .inl (cI, n, .inl (qS w))), (a2, .inl (cZ, n, .inl (qZ z))), (a3, .inl (cI, n, .inl (qS lo))), (a4, .inl (cI, 4, .inl (qS su))), (a5, .inl (cI, 4, .inl (qN da))), (a6, .inl (cI, 4, .inl (qS ch))), (a7, .inl (cI, 4, .inl (qS we)))])) (va_Qi (fun (r : Int32) (u : (Nat → BitVec 8) × (Nat → BitVec 8) × (Nat → Nat) × (Nat → BitVec 8) × (Nat → BitVec 8)) => ∃ b : Bool, r = zI b ∧ (b = true → qd_c z n ≤ 4 ∧ u.1 = qw_a w (qd_d z da n) (qk_ch n z da w) (qd_c z n) ∧ qw_W n u.1) ∧ (b = false → u.1 = w ∧ (qd_c z n ≤ 4 → ¬ qw_W n (qw_a w (qd_d z da n) (qk_ch n z da w) (qd_c z n))))) (fun u t => va_P (dC, dI) vwCl [(h0, .inr (2, [.int (nI n), .ref a1, .ref a2, .ref a3, .ref a4, .ref a5, .ref a6, .ref a7])), (a1, .inl (cI, n, .inl (qS u.1))), (a2, .inl (cZ, n, .inl (qZ z))), (a3, .inl (cI, n, .inl (qS lo))), (a4, .inl (cI, 4, .inl (qS u.2.1))), (a5, .inl (cI, 4, .inl (qN u.2.2.1))), (a6, .inl (cI, 4, .inl (qS u.2.2.2.1))), (a7, .inl (cI, 4, .inl (qS u.2.2.2.2)))] t.heap ∧ va_K (dC, dI) vwCl [(cI, .int), (cZ, .boolean)] t ∧ va_D (va_A [(h0, .inr (2, [.int (nI n), .ref a1, .ref a2, .ref a3, .ref a4, .ref a5, .ref a6, .ref a7])), (a1, .inl (cI, n, .inl (qS w))), (a2, .inl (cZ, n, .inl (qZ z))), (a3, .inl (cI, n, .inl (qS lo))), (a4, .inl (cI, 4, .inl (qS su))), (a5, .inl (cI, 4, .inl (qN da))), (a6, .inl (cI, 4, .inl (qS ch))), (a7, .inl (cI, 4, .inl (qS we)))] sz) [(h0, .inr (2, [.int (nI n), .ref a1, .ref a2, .ref a3, .ref a4, .ref a5, .ref a6, .ref a7])), (a1, .inl (cI, n, .inl (qS u.1))), (a2, .inl (cZ, n, .inl (qZ z))), (a3, .inl (cI, n, .inl (qS lo))), (a4, .inl (cI, 4, .inl (qS u.2.1))), (a5, .inl (cI, 4, .inl (qN u.2.2.1))), (a6, .inl (cI, 4, .inl (qS u.2.2.2.1))), (a7, .inl (cI, 4, .inl (qS u.2.2.2.2)))]) (va_A [(h0, .inr (2, [.int (nI n), .ref a1, .ref a2, .ref a3, .ref a4, .ref a5, .ref a6, .ref a7])), (a1, .inl (cI, n, .inl (qS w))), (a2, .inl (cZ, n, .inl (qZ z))), (a3, .inl (cI, n, .inl (qS lo))), (a4, .inl (cI, 4, .inl (qS su))), (a5, .inl (cI, 4, .inl (qN da))), (a6, .inl (cI, 4, .inl (qS ch))), (a7, .inl (cI, 4, .inl (qS we)))] sz)) 0 0 (va_A [(h0, .inr (2, [.int (nI n), .ref a1, .ref a2, .ref a3, .ref a4, .ref a5, .ref a6, .ref a7])), (a1, .inl (cI, n, .inl (qS w))), (a2, .inl (cZ, n, .inl (qZ z))), (a3, .inl (cI, n, .inl (qS lo))), (a4, .inl (cI, 4, .inl (qS su))), (a5, .inl (cI, 4, .inl (qN da))), (a6, .inl (cI, 4, .inl (qS ch))), (a7, .inl (cI, 4, .inl (qS we)))] sz) := by
  refine Met.ofW (cc := cX3_fillDoubted) (maxL := 3) (ret := (some .boolean)) (by decide) rfl ?_
  intro p e s m args below meth c s₁ B hml hv
  obtain ⟨rfl, hsz, hP, hK, hD0⟩ := hv
  have hx := B.exec
  have hb := B.bytes
  have hr := B.returns
  have hts := atoms_spec (ws := wsX3_fillDoubted) B.pre
  have hown : s.vm.findClass RX3 = some m.cls := findClass_of_methodNamed B.named
  have hlocks := B.notSynchronized
  subst hsz
  have hD := hD0.self (sz := s.heap.size)
  generalize hAe : va_A [(h0, .inr (2, [.int (nI n), .ref a1, .ref a2, .ref a3, .ref a4, .ref a5, .ref a6, .ref a7])), (a1, .inl (cI, n, .inl (qS w))), (a2, .inl (cZ, n, .inl (qZ z))), (a3, .inl (cI, n, .inl (qS lo))), (a4, .inl (cI, 4, .inl (qS su))), (a5, .inl (cI, 4, .inl (qN da))), (a6, .inl (cI, 4, .inl (qS ch))), (a7, .inl (cI, 4, .inl (qS we)))] s.heap.size = A at hD ⊢
  have hA : ∀ q : Nat, s.heap.size ≤ q → A q := fun q h => by rw [← hAe]; exact Or.inr h
  have hS : va_S A s.heap s.heap [] := va_S.rf
  have hP : va_P (dC, dI) vwCl [(h0, .inr (2, [.int (nI n), .ref a1, .ref a2, .ref a3, .ref a4, .ref a5, .ref a6, .ref a7])), (a1, .inl (cI, n, .inl (qS w))), (a2, .inl (cZ, n, .inl (qZ z))), (a3, .inl (cI, n, .inl (qS lo))), (a4, .inl (cI, 4, .inl (qS su))), (a5, .inl (cI, 4, .inl (qN da))), (a6, .inl (cI, 4, .inl (qS ch))), (a7, .inl (cI, 4, .inl (qS we)))] s.heap := hP
  have hl := lv_entry ([.ref h0]) (n := 3) (Nat.le_of_ble_eq_true rfl)
  rw [lg_entry_eq]
  generalize (lg_sl ([.ref h0]) ++ List.replicate (3 - (lg_sl ([.ref h0])).length) Slot.unset).toArray = ls at hl ⊢
  have hl : lv_has ls 3 [(0, .ref h0)] := hl
  have k_32 := hts (.fieldLink RX3 32 "DiscCoder$Word" "changes" "[I") (by decide +kernel)
  have i_X3 : ∀ w ∈ u_ws RX3 TX3 8, w ∈ wsX3_fillDoubted := by decide +kernel
  have hq9 := qd_c_le z n
  refine qr_nm (fun Q hQ => ?_)
  refine lv_aload_n hx hb dX3_fillDoubted_0 rfl (lv_at hl 0 rfl) ?_
  have hPc := hP.sub (ws' := [(h0, .inr (2, [.int (nI n), .ref a1, .ref a2, .ref a3, .ref a4, .ref a5, .ref a6, .ref a7])), (a1, .inl (cI, n, .inl (qS w))), (a2, .inl (cZ, n, .inl (qZ z))), (a3, .inl (cI, n, .inl (qS lo))), (a4, .inl (cI, 4, .inl (qS su))), (a5, .inl (cI, 4, .inl (qN da))), (a6, .inl (cI, 4, .inl (qS ch))), (a7, .inl (cI, 4, .inl (qS we)))]) [0, 1, 2, 3, 4, 5, 6, 7] rfl
  have hKc := hK.sub (tys' := [(cI, .int), (cZ, .boolean)]) [0, 1] rfl
  refine vp_callSi (va_Run.run (va_runV (As := []) (rest := []) ⟨hx, hb, hml, hown, hts⟩ (qc_count l dC dI cI cZ h0 a1 a2 a3 a4 a5 a6 a7 n w z lo su da ch we hn) (cwV 0 hts gX3_fillDoubted_X3_countDoubted rfl rfl rfl (by decide +kernel) ⟨Nat.le_of_ble_eq_true rfl, Nat.le_of_ble_eq_true rfl⟩) ⟨fun a U g mk q => by obtain ⟨q0, qP, qK⟩ := q; exact ⟨q0, qP, va_K.moved (u := U) (U := U.calling g mk a) (Vm.Alike.refl U.vm) qK⟩, (va_recv (q0 := 0) (ci := 2) hK hP rfl rfl), fun U hU hW => ⟨rfl, by rw [hU]; exact hPc, va_K.moved hW.alike hKc⟩⟩ rfl rfl hl.1 rfl (lv_room (Nat.le_of_ble_eq_true rfl)) dX3_fillDoubted_1 ⟨Nat.le_of_ble_eq_true rfl, Nat.le_of_ble_eq_true rfl⟩)) (fun r1 hr1 => ?_)
  have hr1 : r1 = nI (qd_c z n) := hr1
  subst hr1
  refine lv_istore_n (lv' := [(1, .int (nI (qd_c z n))), (0, .ref h0)]) hx hb dX3_fillDoubted_4 rfl hl (by decide) rfl (fun ls hl => ?_)
  refine lv_iload_n hx hb dX3_fillDoubted_5 rfl (lv_at hl 0 rfl) ?_
  refine lv_iconst (v := nI 4) hx hb dX3_fillDoubted_6 (by decide) ?_
  refine qr_le (tgt := 12) hx hb dX3_fillDoubted_7 rfl (by omega) (by omega) (fun b7 => ?_) (fun b7 => ?_)
  · refine lv_aload_n hx hb dX3_fillDoubted_12 rfl (lv_at hl 1 rfl) ?_
    have hPc := hP.sub (ws' := [(h0, .inr (2, [.int (nI n), .ref a1, .ref a2, .ref a3, .ref a4, .ref a5, .ref a6, .ref a7])), (a1, .inl (cI, n, .inl (qS w))), (a2, .inl (cZ, n, .inl (qZ z))), (a3, .inl (cI, n, .inl (qS lo))), (a4, .inl (cI, 4, .inl (qS su))), (a5, .inl (cI, 4, .inl (qN da))), (a6, .inl (cI, 4, .inl (qS ch))), (a7, .inl (cI, 4, .inl (qS we)))]) [0, 1, 2, 3, 4, 5, 6, 7] rfl
    have hDc := hD.sub (ws' := [(h0, .inr (2, [.int (nI n), .ref a1, .ref a2, .ref a3, .ref a4, .ref a5, .ref a6, .ref a7])), (a1, .inl (cI, n, .inl (qS w))), (a2, .inl (cZ, n, .inl (qZ z))), (a3, .inl (cI, n, .inl (qS lo))), (a4, .inl (cI, 4, .inl (qS su))), (a5, .inl (cI, 4, .inl (qN da))), (a6, .inl (cI, 4, .inl (qS ch))), (a7, .inl (cI, 4, .inl (qS we)))]) [0, 1, 2, 3, 4, 5, 6, 7] (by decide) rfl
    have hKc := hK.sub (tys' := [(cI, .int), (cZ, .boolean)]) [0, 1] rfl
    have hFc := va_free (wc := [(h0, .inr (2, [.int (nI n), .ref a1, .ref a2, .ref a3, .ref a4, .ref a5, .ref a6, .ref a7])), (a1, .inl (cI, n, .inl (qS w))), (a2, .inl (cZ, n, .inl (qZ z))), (a3, .inl (cI, n, .inl (qS lo))), (a4, .inl (cI, 4, .inl (qS su))), (a5, .inl (cI, 4, .inl (qN da))), (a6, .inl (cI, 4, .inl (qS ch))), (a7, .inl (cI, 4, .inl (qS we)))]) hD hS hA [0, 1, 2, 3, 4, 5, 6, 7] rfl
    refine va_callv (va_runV (As := []) (rest := []) ⟨hx, hb, hml, hown, hts⟩ (qc_list l dC dI cI cZ h0 a1 a2 a3 a4 a5 a6 a7 n w z lo su da ch we s.heap.size hn b7) (cwV 0 hts gX3_fillDoubted_X3_listDoubted rfl rfl rfl (by decide +kernel) ⟨Nat.le_of_ble_eq_true rfl, Nat.le_of_ble_eq_true rfl⟩) ⟨fun a U g mk q => by obtain ⟨q0, q1, qP, qK, qD⟩ := q; exact ⟨q0, q1, qP, va_K.moved (u := U) (U := U.calling g mk a) (Vm.Alike.refl U.vm) qK, qD⟩, (va_recv (q0 := 0) (ci := 2) hK hP rfl rfl), fun U hU hW => ⟨rfl, by rw [hU], by rw [hU]; exact hPc, va_K.moved hW.alike hKc, hDc.weaken (fun _ _ _ _ => trivial)⟩⟩ rfl rfl hl.1 rfl (lv_room (Nat.le_of_ble_eq_true rfl)) dX3_fillDoubted_13 ⟨Nat.le_of_ble_eq_true rfl, Nat.le_of_ble_eq_true rfl⟩) hS (fun q _ h => hFc q h) hFc (fun u t H1 locs ht hvm hr13 hB hz1 hk1 hS => ?_)
    obtain ⟨hP1, hK1, hD1⟩ := hB
    rw [ht] at hP1
    have hP1 : va_P (dC, dI) vwCl [(h0, .inr (2, [.int (nI n), .ref a1, .ref a2, .ref a3, .ref a4, .ref a5, .ref a6, .ref a7])), (a1, .inl (cI, n, .inl (qS w))), (a2, .inl (cZ, n, .inl (qZ z))), (a3, .inl (cI, n, .inl (qS lo))), (a4, .inl (cI, 4, .inl (qS su))), (a5, .inl (cI, 4, .inl (qN (qd_d z da n)))), (a6, .inl (cI, 4, .inl (qS ch))), (a7, .inl (cI, 4, .inl (qS we)))] H1 := hP1
    obtain ⟨hP, hD⟩ := qj_join (wc := [(h0, .inr (2, [.int (nI n), .ref a1, .ref a2, .ref a3, .ref a4, .ref a5, .ref a6, .ref a7])), (a1, .inl (cI, n, .inl (qS w))), (a2, .inl (cZ, n, .inl (qZ z))), (a3, .inl (cI, n, .inl (qS lo))), (a4, .inl (cI, 4, .inl (qS su))), (a5, .inl (cI, 4, .inl (qN da))), (a6, .inl (cI, 4, .inl (qS ch))), (a7, .inl (cI, 4, .inl (qS we)))]) (w1 := [(h0, .inr (2, [.int (nI n), .ref a1, .ref a2, .ref a3, .ref a4, .ref a5, .ref a6, .ref a7])), (a1, .inl (cI, n, .inl (qS w))), (a2, .inl (cZ, n, .inl (qZ z))), (a3, .inl (cI, n, .inl (qS lo))), (a4, .inl (cI, 4, .inl (qS su))), (a5, .inl (cI, 4, .inl (qN (qd_d z da n)))), (a6, .inl (cI, 4, .inl (qS ch))), (a7, .inl (cI, 4, .inl (qS we)))]) hP hD [0, 1, 2, 3, 4, 5, 6, 7] rfl rfl hk1 hP1
    generalize H1 = H at hP hS ⊢
    have hP : va_P (dC, dI) vwCl [(h0, .inr (2, [.int (nI n), .ref a1, .ref a2, .ref a3, .ref a4, .ref a5, .ref a6, .ref a7])), (a1, .inl (cI, n, .inl (qS w))), (a2, .inl (cZ, n, .inl (qZ z))), (a3, .inl (cI, n, .inl (qS lo))), (a4, .inl (cI, 4, .inl (qS su))), (a5, .inl (cI, 4, .inl (qN (qd_d z da n)))), (a6, .inl (cI, 4, .inl (qS ch))), (a7, .inl (cI, 4, .inl (qS we)))] H := hP
    have hD : va_D A [(h0, .inr (2, [.int (nI n), .ref a1, .ref a2, .ref a3, .ref a4, .ref a5, .ref a6, .ref a7])), (a1, .inl (cI, n, .inl (qS w))), (a2, .inl (cZ, n, .inl (qZ z))), (a3, .inl (cI, n, .inl (qS lo))), (a4, .inl (cI, 4, .inl (qS su))), (a5, .inl (cI, 4, .inl (qN (qd_d z da n)))), (a6, .inl (cI, 4, .inl (qS ch))), (a7, .inl (cI, 4, .inl (qS we)))] := hD
    refine lv_aload_n hx hb dX3_fillDoubted_16 rfl (lv_at hl 1 rfl) ?_
    have hPc := hP.sub (ws' := [(h0, .inr (2, [.int (nI n), .ref a1, .ref a2, .ref a3, .ref a4, .ref a5, .ref a6, .ref a7])), (a1, .inl (cI, n, .inl (qS w))), (a2, .inl (cZ, n, .inl (qZ z))), (a3, .inl (cI, n, .inl (qS lo))), (a4, .inl (cI, 4, .inl (qS su))), (a5, .inl (cI, 4, .inl (qN (qd_d z da n)))), (a6, .inl (cI, 4, .inl (qS ch))), (a7, .inl (cI, 4, .inl (qS we)))]) [0, 1, 2, 3, 4, 5, 6, 7] rfl
    have hDc := hD.sub (ws' := [(h0, .inr (2, [.int (nI n), .ref a1, .ref a2, .ref a3, .ref a4, .ref a5, .ref a6, .ref a7])), (a1, .inl (cI, n, .inl (qS w))), (a2, .inl (cZ, n, .inl (qZ z))), (a3, .inl (cI, n, .inl (qS lo))), (a4, .inl (cI, 4, .inl (qS su))), (a5, .inl (cI, 4, .inl (qN (qd_d z da n)))), (a6, .inl (cI, 4, .inl (qS ch))), (a7, .inl (cI, 4, .inl (qS we)))]) [0, 1, 2, 3, 4, 5, 6, 7] (by decide) rfl
    have hKc := hK.sub (tys' := [(cI, .int), (cZ, .boolean)]) [0, 1] rfl
    have hFc := va_free (wc := [(h0, .inr (2, [.int (nI n), .ref a1, .ref a2, .ref a3, .ref a4, .ref a5, .ref a6, .ref a7])), (a1, .inl (cI, n, .inl (qS w))), (a2, .inl (cZ, n, .inl (qZ z))), (a3, .inl (cI, n, .inl (qS lo))), (a4, .inl (cI, 4, .inl (qS su))), (a5, .inl (cI, 4, .inl (qN (qd_d z da n)))), (a6, .inl (cI, 4, .inl (qS ch))), (a7, .inl (cI, 4, .inl (qS we)))]) hD hS hA [0, 1, 2, 3, 4, 5, 6, 7] rfl
    refine va_callv (va_runV (As := []) (rest := []) ⟨hx, hb, hml, hown, hts⟩ (qc_makeSums l dC dI cI cZ h0 a1 a2 a3 a4 a5 a6 a7 n w z lo su (qd_d z da n) ch we H.size hn) (cwV 0 hts gX3_fillDoubted_X3_makeSums rfl rfl rfl (by decide +kernel) ⟨Nat.le_of_ble_eq_true rfl, Nat.le_of_ble_eq_true rfl⟩) ⟨fun a U g mk q => by obtain ⟨q0, q1, qP, qK, qD⟩ := q; exact ⟨q0, q1, qP, va_K.moved (u := U) (U := U.calling g mk a) (Vm.Alike.refl U.vm) qK, qD⟩, (va_recv (q0 := 0) (ci := 2) hK hP rfl rfl), fun U hU hW => ⟨rfl, by rw [hU], by rw [hU]; exact hPc, va_K.moved hW.alike hKc, hDc.weaken (fun _ _ _ _ => trivial)⟩⟩ rfl rfl hl.1 rfl (lv_room (Nat.le_of_ble_eq_true rfl)) dX3_fillDoubted_17 ⟨Nat.le_of_ble_eq_true rfl, Nat.le_of_ble_eq_true rfl⟩) hS (fun q _ h => hFc q h) hFc (fun u t H1 locs ht hvm hr17 hB hz1 hk1 hS => ?_)
    obtain ⟨hP1, hK1, hD1⟩ := hB
    rw [ht] at hP1
    have hP1 : va_P (dC, dI) vwCl [(h0, .inr (2, [.int (nI n), .ref a1, .ref a2, .ref a3, .ref a4, .ref a5, .ref a6, .ref a7])), (a1, .inl (cI, n, .inl (qS w))), (a2, .inl (cZ, n, .inl (qZ z))), (a3, .inl (cI, n, .inl (qS lo))), (a4, .inl (cI, 4, .inl (qS (qm_su n w su 4)))), (a5, .inl (cI, 4, .inl (qN (qd_d z da n)))), (a6, .inl (cI, 4, .inl (qS ch))), (a7, .inl (cI, 4, .inl (qS we)))] H1 := hP1
    obtain ⟨hP, hD⟩ := qj_join (wc := [(h0, .inr (2, [.int (nI n), .ref a1, .ref a2, .ref a3, .ref a4, .ref a5, .ref a6, .ref a7])), (a1, .inl (cI, n, .inl (qS w))), (a2, .inl (cZ, n, .inl (qZ z))), (a3, .inl (cI, n, .inl (qS lo))), (a4, .inl (cI, 4, .inl (qS su))), (a5, .inl (cI, 4, .inl (qN (qd_d z da n)))), (a6, .inl (cI, 4, .inl (qS ch))), (a7, .inl (cI, 4, .inl (qS we)))]) (w1 := [(h0, .inr (2, [.int (nI n), .ref a1, .ref a2, .ref a3, .ref a4, .ref a5, .ref a6, .ref a7])), (a1, .inl (cI, n, .inl (qS w))), (a2, .inl (cZ, n, .inl (qZ z))), (a3, .inl (cI, n, .inl (qS lo))), (a4, .inl (cI, 4, .inl (qS (qm_su n w su 4)))), (a5, .inl (cI, 4, .inl (qN (qd_d z da n)))), (a6, .inl (cI, 4, .inl (qS ch))), (a7, .inl (cI, 4, .inl (qS we)))]) hP hD [0, 1, 2, 3, 4, 5, 6, 7] rfl rfl hk1 hP1
    generalize H1 = H at hP hS ⊢
    have hP : va_P (dC, dI) vwCl [(h0, .inr (2, [.int (nI n), .ref a1, .ref a2, .ref a3, .ref a4, .ref a5, .ref a6, .ref a7])), (a1, .inl (cI, n, .inl (qS w))), (a2, .inl (cZ, n, .inl (qZ z))), (a3, .inl (cI, n, .inl (qS lo))), (a4, .inl (cI, 4, .inl (qS (qm_su n w su 4)))), (a5, .inl (cI, 4, .inl (qN (qd_d z da n)))), (a6, .inl (cI, 4, .inl (qS ch))), (a7, .inl (cI, 4, .inl (qS we)))] H := hP
    have hD : va_D A [(h0, .inr (2, [.int (nI n), .ref a1, .ref a2, .ref a3, .ref a4, .ref a5, .ref a6, .ref a7])), (a1, .inl (cI, n, .inl (qS w))), (a2, .inl (cZ, n, .inl (qZ z))), (a3, .inl (cI, n, .inl (qS lo))), (a4, .inl (cI, 4, .inl (qS (qm_su n w su 4)))), (a5, .inl (cI, 4, .inl (qN (qd_d z da n)))), (a6, .inl (cI, 4, .inl (qS ch))), (a7, .inl (cI, 4, .inl (qS we)))] := hD
    refine lv_iconst (v := nI 0) hx hb dX3_fillDoubted_20 (by decide) ?_
    refine lv_istore_n (lv' := [(2, .int (nI 0)), (1, .int (nI (qd_c z n))), (0, .ref h0)]) hx hb dX3_fillDoubted_21 rfl hl (by decide) rfl (fun ls hl => ?_)
    have lp22 : ∀ (j i : Nat), i + j = qd_c z n → ∀ (we : Nat → BitVec 8) (ls : Array Slot) (H : Heap) (locs : List Loc), lv_has ls 3 [(0, .ref h0), (1, .int (nI (qd_c z n))), (2, .int (nI i))] → va_P (dC, dI) vwCl [(h0, .inr (2, [.int (nI n), .ref a1, .ref a2, .ref a3, .ref a4, .ref a5, .ref a6, .ref a7])), (a1, .inl (cI, n, .inl (qS w))), (a2, .inl (cZ, n, .inl (qZ z))), (a3, .inl (cI, n, .inl (qS lo))), (a4, .inl (cI, 4, .inl (qS (qm_su n w su 4)))), (a5, .inl (cI, 4, .inl (qN (qd_d z da n)))), (a6, .inl (cI, 4, .inl (qS (qm_cs ch (qk_ch n z da w) i)))), (a7, .inl (cI, 4, .inl (qS we)))] H → va_D A [(h0, .inr (2, [.int (nI n), .ref a1, .ref a2, .ref a3, .ref a4, .ref a5, .ref a6, .ref a7])), (a1, .inl (cI, n, .inl (qS w))), (a2, .inl (cZ, n, .inl (qZ z))), (a3, .inl (cI, n, .inl (qS lo))), (a4, .inl (cI, 4, .inl (qS (qm_su n w su 4)))), (a5, .inl (cI, 4, .inl (qN (qd_d z da n)))), (a6, .inl (cI, 4, .inl (qS (qm_cs ch (qk_ch n z da w) i)))), (a7, .inl (cI, 4, .inl (qS we)))] → va_S A s.heap H locs → W p l e (headSpec wsX3_fillDoubted ({ frames := 3, cells := 0, slots := 0, locals := 73 } : Room)).room s m ([.ref h0] : List Value).toArray below meth c H locs 0 0 Q (F0 m 22 ls []) := by
      intro j
      induction j with
      | zero =>
        intro i hi we ls H locs hl hP hD hS
        have e9 : qd_c z n = i := by omega
        subst e9
        refine lv_iload_n hx hb dX3_fillDoubted_22 rfl (lv_at hl 2 rfl) ?_
        refine lv_iload_n hx hb dX3_fillDoubted_23 rfl (lv_at hl 1 rfl) ?_
        refine qr_ge (tgt := 45) hx hb dX3_fillDoubted_24 rfl (by omega) (by omega) (fun b24 => ?_) (fun h => absurd h (by omega))
        refine lv_aload_n hx hb dX3_fillDoubted_45 rfl (lv_at hl 0 rfl) ?_
        refine lv_iload_n hx hb dX3_fillDoubted_46 rfl (lv_at hl 1 rfl) ?_
        have hPc := hP.sub (ws' := [(h0, .inr (2, [.int (nI n), .ref a1, .ref a2, .ref a3, .ref a4, .ref a5, .ref a6, .ref a7])), (a1, .inl (cI, n, .inl (qS w))), (a2, .inl (cZ, n, .inl (qZ z))), (a3, .inl (cI, n, .inl (qS lo))), (a4, .inl (cI, 4, .inl (qS (qm_su n w su 4)))), (a5, .inl (cI, 4, .inl (qN (qd_d z da n)))), (a6, .inl (cI, 4, .inl (qS (qm_cs ch (qk_ch n z da w) (qd_c z n))))), (a7, .inl (cI, 4, .inl (qS we)))]) [0, 1, 2, 3, 4, 5, 6, 7] rfl
        have hDc := hD.sub (ws' := [(h0, .inr (2, [.int (nI n), .ref a1, .ref a2, .ref a3, .ref a4, .ref a5, .ref a6, .ref a7])), (a1, .inl (cI, n, .inl (qS w))), (a2, .inl (cZ, n, .inl (qZ z))), (a3, .inl (cI, n, .inl (qS lo))), (a4, .inl (cI, 4, .inl (qS (qm_su n w su 4)))), (a5, .inl (cI, 4, .inl (qN (qd_d z da n)))), (a6, .inl (cI, 4, .inl (qS (qm_cs ch (qk_ch n z da w) (qd_c z n))))), (a7, .inl (cI, 4, .inl (qS we)))]) [0, 1, 2, 3, 4, 5, 6, 7] (by decide) rfl
        have hKc := hK.sub (tys' := [(cI, .int), (cZ, .boolean)]) [0, 1] rfl
        have hFc := va_free (wc := [(h0, .inr (2, [.int (nI n), .ref a1, .ref a2, .ref a3, .ref a4, .ref a5, .ref a6, .ref a7])), (a1, .inl (cI, n, .inl (qS w))), (a2, .inl (cZ, n, .inl (qZ z))), (a3, .inl (cI, n, .inl (qS lo))), (a4, .inl (cI, 4, .inl (qS (qm_su n w su 4)))), (a5, .inl (cI, 4, .inl (qN (qd_d z da n)))), (a6, .inl (cI, 4, .inl (qS (qm_cs ch (qk_ch n z da w) (qd_c z n))))), (a7, .inl (cI, 4, .inl (qS we)))]) hD hS hA [0, 1, 2, 3, 4, 5, 6, 7] rfl
        refine va_callv (va_runV (As := [.int (nI (qd_c z n))]) (rest := []) ⟨hx, hb, hml, hown, hts⟩ (qc_add l dC dI cI cZ h0 a1 a2 a3 a4 a5 a6 a7 n w z lo (qm_su n w su 4) (qd_d z da n) (qm_cs ch (qk_ch n z da w) (qd_c z n)) we (qd_c z n) H.size hn b7 (fun c hc => (qd_d_in z da n c hc).1)) (cwV 1 hts gX3_fillDoubted_X3_addChanges rfl rfl rfl (by decide +kernel) ⟨Nat.le_of_ble_eq_true rfl, Nat.le_of_ble_eq_true rfl⟩) ⟨fun a U g mk q => by obtain ⟨q0, q1, qP, qK, qD⟩ := q; exact ⟨q0, q1, qP, va_K.moved (u := U) (U := U.calling g mk a) (Vm.Alike.refl U.vm) qK, qD⟩, (va_recv (q0 := 0) (ci := 2) hK hP rfl rfl), fun U hU hW => ⟨rfl, by rw [hU], by rw [hU]; exact hPc, va_K.moved hW.alike hKc, hDc.weaken (fun _ _ _ _ => trivial)⟩⟩ rfl rfl hl.1 rfl (lv_room (Nat.le_of_ble_eq_true rfl)) dX3_fillDoubted_47 ⟨Nat.le_of_ble_eq_true rfl, Nat.le_of_ble_eq_true rfl⟩) hS (fun q _ h => hFc q h) hFc (fun u t H1 locs ht hvm hr47 hB hz1 hk1 hS => ?_)
        obtain ⟨hP1, hK1, hD1⟩ := hB
        rw [ht] at hP1
        have hP1 : va_P (dC, dI) vwCl [(h0, .inr (2, [.int (nI n), .ref a1, .ref a2, .ref a3, .ref a4, .ref a5, .ref a6, .ref a7])), (a1, .inl (cI, n, .inl (qS (qw_a w (qd_d z da n) (qm_cs ch (qk_ch n z da w) (qd_c z n)) (qd_c z n))))), (a2, .inl (cZ, n, .inl (qZ z))), (a3, .inl (cI, n, .inl (qS lo))), (a4, .inl (cI, 4, .inl (qS (qm_su n w su 4)))), (a5, .inl (cI, 4, .inl (qN (qd_d z da n)))), (a6, .inl (cI, 4, .inl (qS (qm_cs ch (qk_ch n z da w) (qd_c z n))))), (a7, .inl (cI, 4, .inl (qS we)))] H1 := hP1
        obtain ⟨hP, hD⟩ := qj_join (wc := [(h0, .inr (2, [.int (nI n), .ref a1, .ref a2, .ref a3, .ref a4, .ref a5, .ref a6, .ref a7])), (a1, .inl (cI, n, .inl (qS w))), (a2, .inl (cZ, n, .inl (qZ z))), (a3, .inl (cI, n, .inl (qS lo))), (a4, .inl (cI, 4, .inl (qS (qm_su n w su 4)))), (a5, .inl (cI, 4, .inl (qN (qd_d z da n)))), (a6, .inl (cI, 4, .inl (qS (qm_cs ch (qk_ch n z da w) (qd_c z n))))), (a7, .inl (cI, 4, .inl (qS we)))]) (w1 := [(h0, .inr (2, [.int (nI n), .ref a1, .ref a2, .ref a3, .ref a4, .ref a5, .ref a6, .ref a7])), (a1, .inl (cI, n, .inl (qS (qw_a w (qd_d z da n) (qm_cs ch (qk_ch n z da w) (qd_c z n)) (qd_c z n))))), (a2, .inl (cZ, n, .inl (qZ z))), (a3, .inl (cI, n, .inl (qS lo))), (a4, .inl (cI, 4, .inl (qS (qm_su n w su 4)))), (a5, .inl (cI, 4, .inl (qN (qd_d z da n)))), (a6, .inl (cI, 4, .inl (qS (qm_cs ch (qk_ch n z da w) (qd_c z n))))), (a7, .inl (cI, 4, .inl (qS we)))]) hP hD [0, 1, 2, 3, 4, 5, 6, 7] rfl rfl hk1 hP1
        generalize H1 = H at hP hS ⊢
        have hP : va_P (dC, dI) vwCl [(h0, .inr (2, [.int (nI n), .ref a1, .ref a2, .ref a3, .ref a4, .ref a5, .ref a6, .ref a7])), (a1, .inl (cI, n, .inl (qS (qw_a w (qd_d z da n) (qm_cs ch (qk_ch n z da w) (qd_c z n)) (qd_c z n))))), (a2, .inl (cZ, n, .inl (qZ z))), (a3, .inl (cI, n, .inl (qS lo))), (a4, .inl (cI, 4, .inl (qS (qm_su n w su 4)))), (a5, .inl (cI, 4, .inl (qN (qd_d z da n)))), (a6, .inl (cI, 4, .inl (qS (qm_cs ch (qk_ch n z da w) (qd_c z n))))), (a7, .inl (cI, 4, .inl (qS we)))] H := hP
        have hD : va_D A [(h0, .inr (2, [.int (nI n), .ref a1, .ref a2, .ref a3, .ref a4, .ref a5, .ref a6, .ref a7])), (a1, .inl (cI, n, .inl (qS (qw_a w (qd_d z da n) (qm_cs ch (qk_ch n z da w) (qd_c z n)) (qd_c z n))))), (a2, .inl (cZ, n, .inl (qZ z))), (a3, .inl (cI, n, .inl (qS lo))), (a4, .inl (cI, 4, .inl (qS (qm_su n w su 4)))), (a5, .inl (cI, 4, .inl (qN (qd_d z da n)))), (a6, .inl (cI, 4, .inl (qS (qm_cs ch (qk_ch n z da w) (qd_c z n))))), (a7, .inl (cI, 4, .inl (qS we)))] := hD
        have e47 : qw_a w (qd_d z da n) (qm_cs ch (qk_ch n z da w) (qd_c z n)) (qd_c z n) = qw_a w (qd_d z da n) (qk_ch n z da w) (qd_c z n) := qw_a_congr (fun c hc => qm_cs_at hc)
        rw [e47] at hP hD
        have hP : va_P (dC, dI) vwCl [(h0, .inr (2, [.int (nI n), .ref a1, .ref a2, .ref a3, .ref a4, .ref a5, .ref a6, .ref a7])), (a1, .inl (cI, n, .inl (qS (qw_a w (qd_d z da n) (qk_ch n z da w) (qd_c z n))))), (a2, .inl (cZ, n, .inl (qZ z))), (a3, .inl (cI, n, .inl (qS lo))), (a4, .inl (cI, 4, .inl (qS (qm_su n w su 4)))), (a5, .inl (cI, 4, .inl (qN (qd_d z da n)))), (a6, .inl (cI, 4, .inl (qS (qm_cs ch (qk_ch n z da w) (qd_c z n))))), (a7, .inl (cI, 4, .inl (qS we)))] H := hP
        have hD : va_D A [(h0, .inr (2, [.int (nI n), .ref a1, .ref a2, .ref a3, .ref a4, .ref a5, .ref a6, .ref a7])), (a1, .inl (cI, n, .inl (qS (qw_a w (qd_d z da n) (qk_ch n z da w) (qd_c z n))))), (a2, .inl (cZ, n, .inl (qZ z))), (a3, .inl (cI, n, .inl (qS lo))), (a4, .inl (cI, 4, .inl (qS (qm_su n w su 4)))), (a5, .inl (cI, 4, .inl (qN (qd_d z da n)))), (a6, .inl (cI, 4, .inl (qS (qm_cs ch (qk_ch n z da w) (qd_c z n))))), (a7, .inl (cI, 4, .inl (qS we)))] := hD
        refine lv_aload_n hx hb dX3_fillDoubted_50 rfl (lv_at hl 0 rfl) ?_
        have hPc := hP.sub (ws' := [(h0, .inr (2, [.int (nI n), .ref a1, .ref a2, .ref a3, .ref a4, .ref a5, .ref a6, .ref a7])), (a1, .inl (cI, n, .inl (qS (qw_a w (qd_d z da n) (qk_ch n z da w) (qd_c z n))))), (a2, .inl (cZ, n, .inl (qZ z))), (a3, .inl (cI, n, .inl (qS lo))), (a4, .inl (cI, 4, .inl (qS (qm_su n w su 4)))), (a5, .inl (cI, 4, .inl (qN (qd_d z da n)))), (a6, .inl (cI, 4, .inl (qS (qm_cs ch (qk_ch n z da w) (qd_c z n))))), (a7, .inl (cI, 4, .inl (qS we)))]) [0, 1, 2, 3, 4, 5, 6, 7] rfl
        have hDc := hD.sub (ws' := [(h0, .inr (2, [.int (nI n), .ref a1, .ref a2, .ref a3, .ref a4, .ref a5, .ref a6, .ref a7])), (a1, .inl (cI, n, .inl (qS (qw_a w (qd_d z da n) (qk_ch n z da w) (qd_c z n))))), (a2, .inl (cZ, n, .inl (qZ z))), (a3, .inl (cI, n, .inl (qS lo))), (a4, .inl (cI, 4, .inl (qS (qm_su n w su 4)))), (a5, .inl (cI, 4, .inl (qN (qd_d z da n)))), (a6, .inl (cI, 4, .inl (qS (qm_cs ch (qk_ch n z da w) (qd_c z n))))), (a7, .inl (cI, 4, .inl (qS we)))]) [0, 1, 2, 3, 4, 5, 6, 7] (by decide) rfl
        have hKc := hK.sub (tys' := [(cI, .int), (cZ, .boolean)]) [0, 1] rfl
        have hFc := va_free (wc := [(h0, .inr (2, [.int (nI n), .ref a1, .ref a2, .ref a3, .ref a4, .ref a5, .ref a6, .ref a7])), (a1, .inl (cI, n, .inl (qS (qw_a w (qd_d z da n) (qk_ch n z da w) (qd_c z n))))), (a2, .inl (cZ, n, .inl (qZ z))), (a3, .inl (cI, n, .inl (qS lo))), (a4, .inl (cI, 4, .inl (qS (qm_su n w su 4)))), (a5, .inl (cI, 4, .inl (qN (qd_d z da n)))), (a6, .inl (cI, 4, .inl (qS (qm_cs ch (qk_ch n z da w) (qd_c z n))))), (a7, .inl (cI, 4, .inl (qS we)))]) hD hS hA [0, 1, 2, 3, 4, 5, 6, 7] rfl
        refine va_calli (va_runV (As := []) (rest := []) ⟨hx, hb, hml, hown, hts⟩ (qc_isWord l dC dI cI cZ h0 a1 a2 a3 a4 a5 a6 a7 n (qw_a w (qd_d z da n) (qk_ch n z da w) (qd_c z n)) z lo (qm_su n w su 4) (qd_d z da n) (qm_cs ch (qk_ch n z da w) (qd_c z n)) we H.size hn) (cwV 0 hts gX3_fillDoubted_X3_isWord rfl rfl rfl (by decide +kernel) ⟨Nat.le_of_ble_eq_true rfl, Nat.le_of_ble_eq_true rfl⟩) ⟨fun a U g mk q => by obtain ⟨q0, q1, qP, qK, qD⟩ := q; exact ⟨q0, q1, qP, va_K.moved (u := U) (U := U.calling g mk a) (Vm.Alike.refl U.vm) qK, qD⟩, (va_recv (q0 := 0) (ci := 2) hK hP rfl rfl), fun U hU hW => ⟨rfl, by rw [hU], by rw [hU]; exact hPc, va_K.moved hW.alike hKc, hDc.weaken (fun _ _ _ _ => trivial)⟩⟩ rfl rfl hl.1 rfl (lv_room (Nat.le_of_ble_eq_true rfl)) dX3_fillDoubted_51 ⟨Nat.le_of_ble_eq_true rfl, Nat.le_of_ble_eq_true rfl⟩) hS (fun q _ h => hFc q h) hFc (fun r51 u t H1 locs ht hvm hr51 hB hz1 hk1 hS => ?_)
        obtain ⟨hP1, hK1, hD1⟩ := hB
        rw [ht] at hP1
        have hP1 : va_P (dC, dI) vwCl [(h0, .inr (2, [.int (nI n), .ref a1, .ref a2, .ref a3, .ref a4, .ref a5, .ref a6, .ref a7])), (a1, .inl (cI, n, .inl (qS (qw_a w (qd_d z da n) (qk_ch n z da w) (qd_c z n))))), (a2, .inl (cZ, n, .inl (qZ z))), (a3, .inl (cI, n, .inl (qS lo))), (a4, .inl (cI, 4, .inl (qS (qm_su n (qw_a w (qd_d z da n) (qk_ch n z da w) (qd_c z n)) (qm_su n w su 4) 4)))), (a5, .inl (cI, 4, .inl (qN (qd_d z da n)))), (a6, .inl (cI, 4, .inl (qS (qm_cs ch (qk_ch n z da w) (qd_c z n))))), (a7, .inl (cI, 4, .inl (qS we)))] H1 := hP1
        obtain ⟨hP, hD⟩ := qj_join (wc := [(h0, .inr (2, [.int (nI n), .ref a1, .ref a2, .ref a3, .ref a4, .ref a5, .ref a6, .ref a7])), (a1, .inl (cI, n, .inl (qS (qw_a w (qd_d z da n) (qk_ch n z da w) (qd_c z n))))), (a2, .inl (cZ, n, .inl (qZ z))), (a3, .inl (cI, n, .inl (qS lo))), (a4, .inl (cI, 4, .inl (qS (qm_su n w su 4)))), (a5, .inl (cI, 4, .inl (qN (qd_d z da n)))), (a6, .inl (cI, 4, .inl (qS (qm_cs ch (qk_ch n z da w) (qd_c z n))))), (a7, .inl (cI, 4, .inl (qS we)))]) (w1 := [(h0, .inr (2, [.int (nI n), .ref a1, .ref a2, .ref a3, .ref a4, .ref a5, .ref a6, .ref a7])), (a1, .inl (cI, n, .inl (qS (qw_a w (qd_d z da n) (qk_ch n z da w) (qd_c z n))))), (a2, .inl (cZ, n, .inl (qZ z))), (a3, .inl (cI, n, .inl (qS lo))), (a4, .inl (cI, 4, .inl (qS (qm_su n (qw_a w (qd_d z da n) (qk_ch n z da w) (qd_c z n)) (qm_su n w su 4) 4)))), (a5, .inl (cI, 4, .inl (qN (qd_d z da n)))), (a6, .inl (cI, 4, .inl (qS (qm_cs ch (qk_ch n z da w) (qd_c z n))))), (a7, .inl (cI, 4, .inl (qS we)))]) hP hD [0, 1, 2, 3, 4, 5, 6, 7] rfl rfl hk1 hP1
        generalize H1 = H at hP hS ⊢
        have hP : va_P (dC, dI) vwCl [(h0, .inr (2, [.int (nI n), .ref a1, .ref a2, .ref a3, .ref a4, .ref a5, .ref a6, .ref a7])), (a1, .inl (cI, n, .inl (qS (qw_a w (qd_d z da n) (qk_ch n z da w) (qd_c z n))))), (a2, .inl (cZ, n, .inl (qZ z))), (a3, .inl (cI, n, .inl (qS lo))), (a4, .inl (cI, 4, .inl (qS (qm_su n (qw_a w (qd_d z da n) (qk_ch n z da w) (qd_c z n)) (qm_su n w su 4) 4)))), (a5, .inl (cI, 4, .inl (qN (qd_d z da n)))), (a6, .inl (cI, 4, .inl (qS (qm_cs ch (qk_ch n z da w) (qd_c z n))))), (a7, .inl (cI, 4, .inl (qS we)))] H := hP
        have hD : va_D A [(h0, .inr (2, [.int (nI n), .ref a1, .ref a2, .ref a3, .ref a4, .ref a5, .ref a6, .ref a7])), (a1, .inl (cI, n, .inl (qS (qw_a w (qd_d z da n) (qk_ch n z da w) (qd_c z n))))), (a2, .inl (cZ, n, .inl (qZ z))), (a3, .inl (cI, n, .inl (qS lo))), (a4, .inl (cI, 4, .inl (qS (qm_su n (qw_a w (qd_d z da n) (qk_ch n z da w) (qd_c z n)) (qm_su n w su 4) 4)))), (a5, .inl (cI, 4, .inl (qN (qd_d z da n)))), (a6, .inl (cI, 4, .inl (qS (qm_cs ch (qk_ch n z da w) (qd_c z n))))), (a7, .inl (cI, 4, .inl (qS we)))] := hD
        obtain ⟨v51, e51, hv51⟩ := hr51
        subst e51
        refine qr_ifeqZ (tgt := 59) hx hb dX3_fillDoubted_54 rfl  (fun b54 => ?_) (fun b54 => ?_)
        · refine lv_aload_n hx hb dX3_fillDoubted_59 rfl (lv_at hl 0 rfl) ?_
          refine lv_iload_n hx hb dX3_fillDoubted_60 rfl (lv_at hl 1 rfl) ?_
          have hPc := hP.sub (ws' := [(h0, .inr (2, [.int (nI n), .ref a1, .ref a2, .ref a3, .ref a4, .ref a5, .ref a6, .ref a7])), (a1, .inl (cI, n, .inl (qS (qw_a w (qd_d z da n) (qk_ch n z da w) (qd_c z n))))), (a2, .inl (cZ, n, .inl (qZ z))), (a3, .inl (cI, n, .inl (qS lo))), (a4, .inl (cI, 4, .inl (qS (qm_su n (qw_a w (qd_d z da n) (qk_ch n z da w) (qd_c z n)) (qm_su n w su 4) 4)))), (a5, .inl (cI, 4, .inl (qN (qd_d z da n)))), (a6, .inl (cI, 4, .inl (qS (qm_cs ch (qk_ch n z da w) (qd_c z n))))), (a7, .inl (cI, 4, .inl (qS we)))]) [0, 1, 2, 3, 4, 5, 6, 7] rfl
          have hDc := hD.sub (ws' := [(h0, .inr (2, [.int (nI n), .ref a1, .ref a2, .ref a3, .ref a4, .ref a5, .ref a6, .ref a7])), (a1, .inl (cI, n, .inl (qS (qw_a w (qd_d z da n) (qk_ch n z da w) (qd_c z n))))), (a2, .inl (cZ, n, .inl (qZ z))), (a3, .inl (cI, n, .inl (qS lo))), (a4, .inl (cI, 4, .inl (qS (qm_su n (qw_a w (qd_d z da n) (qk_ch n z da w) (qd_c z n)) (qm_su n w su 4) 4)))), (a5, .inl (cI, 4, .inl (qN (qd_d z da n)))), (a6, .inl (cI, 4, .inl (qS (qm_cs ch (qk_ch n z da w) (qd_c z n))))), (a7, .inl (cI, 4, .inl (qS we)))]) [0, 1, 2, 3, 4, 5, 6, 7] (by decide) rfl
          have hKc := hK.sub (tys' := [(cI, .int), (cZ, .boolean)]) [0, 1] rfl
          have hFc := va_free (wc := [(h0, .inr (2, [.int (nI n), .ref a1, .ref a2, .ref a3, .ref a4, .ref a5, .ref a6, .ref a7])), (a1, .inl (cI, n, .inl (qS (qw_a w (qd_d z da n) (qk_ch n z da w) (qd_c z n))))), (a2, .inl (cZ, n, .inl (qZ z))), (a3, .inl (cI, n, .inl (qS lo))), (a4, .inl (cI, 4, .inl (qS (qm_su n (qw_a w (qd_d z da n) (qk_ch n z da w) (qd_c z n)) (qm_su n w su 4) 4)))), (a5, .inl (cI, 4, .inl (qN (qd_d z da n)))), (a6, .inl (cI, 4, .inl (qS (qm_cs ch (qk_ch n z da w) (qd_c z n))))), (a7, .inl (cI, 4, .inl (qS we)))]) hD hS hA [0, 1, 2, 3, 4, 5, 6, 7] rfl
          refine va_callv (va_runV (As := [.int (nI (qd_c z n))]) (rest := []) ⟨hx, hb, hml, hown, hts⟩ (qc_add l dC dI cI cZ h0 a1 a2 a3 a4 a5 a6 a7 n (qw_a w (qd_d z da n) (qk_ch n z da w) (qd_c z n)) z lo (qm_su n (qw_a w (qd_d z da n) (qk_ch n z da w) (qd_c z n)) (qm_su n w su 4) 4) (qd_d z da n) (qm_cs ch (qk_ch n z da w) (qd_c z n)) we (qd_c z n) H.size hn b7 (fun c hc => (qd_d_in z da n c hc).1)) (cwV 1 hts gX3_fillDoubted_X3_addChanges rfl rfl rfl (by decide +kernel) ⟨Nat.le_of_ble_eq_true rfl, Nat.le_of_ble_eq_true rfl⟩) ⟨fun a U g mk q => by obtain ⟨q0, q1, qP, qK, qD⟩ := q; exact ⟨q0, q1, qP, va_K.moved (u := U) (U := U.calling g mk a) (Vm.Alike.refl U.vm) qK, qD⟩, (va_recv (q0 := 0) (ci := 2) hK hP rfl rfl), fun U hU hW => ⟨rfl, by rw [hU], by rw [hU]; exact hPc, va_K.moved hW.alike hKc, hDc.weaken (fun _ _ _ _ => trivial)⟩⟩ rfl rfl hl.1 rfl (lv_room (Nat.le_of_ble_eq_true rfl)) dX3_fillDoubted_61 ⟨Nat.le_of_ble_eq_true rfl, Nat.le_of_ble_eq_true rfl⟩) hS (fun q _ h => hFc q h) hFc (fun u t H1 locs ht hvm hr61 hB hz1 hk1 hS => ?_)
          obtain ⟨hP1, hK1, hD1⟩ := hB
          rw [ht] at hP1
          have hP1 : va_P (dC, dI) vwCl [(h0, .inr (2, [.int (nI n), .ref a1, .ref a2, .ref a3, .ref a4, .ref a5, .ref a6, .ref a7])), (a1, .inl (cI, n, .inl (qS (qw_a (qw_a w (qd_d z da n) (qk_ch n z da w) (qd_c z n)) (qd_d z da n) (qm_cs ch (qk_ch n z da w) (qd_c z n)) (qd_c z n))))), (a2, .inl (cZ, n, .inl (qZ z))), (a3, .inl (cI, n, .inl (qS lo))), (a4, .inl (cI, 4, .inl (qS (qm_su n (qw_a w (qd_d z da n) (qk_ch n z da w) (qd_c z n)) (qm_su n w su 4) 4)))), (a5, .inl (cI, 4, .inl (qN (qd_d z da n)))), (a6, .inl (cI, 4, .inl (qS (qm_cs ch (qk_ch n z da w) (qd_c z n))))), (a7, .inl (cI, 4, .inl (qS we)))] H1 := hP1
          obtain ⟨hP, hD⟩ := qj_join (wc := [(h0, .inr (2, [.int (nI n), .ref a1, .ref a2, .ref a3, .ref a4, .ref a5, .ref a6, .ref a7])), (a1, .inl (cI, n, .inl (qS (qw_a w (qd_d z da n) (qk_ch n z da w) (qd_c z n))))), (a2, .inl (cZ, n, .inl (qZ z))), (a3, .inl (cI, n, .inl (qS lo))), (a4, .inl (cI, 4, .inl (qS (qm_su n (qw_a w (qd_d z da n) (qk_ch n z da w) (qd_c z n)) (qm_su n w su 4) 4)))), (a5, .inl (cI, 4, .inl (qN (qd_d z da n)))), (a6, .inl (cI, 4, .inl (qS (qm_cs ch (qk_ch n z da w) (qd_c z n))))), (a7, .inl (cI, 4, .inl (qS we)))]) (w1 := [(h0, .inr (2, [.int (nI n), .ref a1, .ref a2, .ref a3, .ref a4, .ref a5, .ref a6, .ref a7])), (a1, .inl (cI, n, .inl (qS (qw_a (qw_a w (qd_d z da n) (qk_ch n z da w) (qd_c z n)) (qd_d z da n) (qm_cs ch (qk_ch n z da w) (qd_c z n)) (qd_c z n))))), (a2, .inl (cZ, n, .inl (qZ z))), (a3, .inl (cI, n, .inl (qS lo))), (a4, .inl (cI, 4, .inl (qS (qm_su n (qw_a w (qd_d z da n) (qk_ch n z da w) (qd_c z n)) (qm_su n w su 4) 4)))), (a5, .inl (cI, 4, .inl (qN (qd_d z da n)))), (a6, .inl (cI, 4, .inl (qS (qm_cs ch (qk_ch n z da w) (qd_c z n))))), (a7, .inl (cI, 4, .inl (qS we)))]) hP hD [0, 1, 2, 3, 4, 5, 6, 7] rfl rfl hk1 hP1
          generalize H1 = H at hP hS ⊢
          have hP : va_P (dC, dI) vwCl [(h0, .inr (2, [.int (nI n), .ref a1, .ref a2, .ref a3, .ref a4, .ref a5, .ref a6, .ref a7])), (a1, .inl (cI, n, .inl (qS (qw_a (qw_a w (qd_d z da n) (qk_ch n z da w) (qd_c z n)) (qd_d z da n) (qm_cs ch (qk_ch n z da w) (qd_c z n)) (qd_c z n))))), (a2, .inl (cZ, n, .inl (qZ z))), (a3, .inl (cI, n, .inl (qS lo))), (a4, .inl (cI, 4, .inl (qS (qm_su n (qw_a w (qd_d z da n) (qk_ch n z da w) (qd_c z n)) (qm_su n w su 4) 4)))), (a5, .inl (cI, 4, .inl (qN (qd_d z da n)))), (a6, .inl (cI, 4, .inl (qS (qm_cs ch (qk_ch n z da w) (qd_c z n))))), (a7, .inl (cI, 4, .inl (qS we)))] H := hP
          have hD : va_D A [(h0, .inr (2, [.int (nI n), .ref a1, .ref a2, .ref a3, .ref a4, .ref a5, .ref a6, .ref a7])), (a1, .inl (cI, n, .inl (qS (qw_a (qw_a w (qd_d z da n) (qk_ch n z da w) (qd_c z n)) (qd_d z da n) (qm_cs ch (qk_ch n z da w) (qd_c z n)) (qd_c z n))))), (a2, .inl (cZ, n, .inl (qZ z))), (a3, .inl (cI, n, .inl (qS lo))), (a4, .inl (cI, 4, .inl (qS (qm_su n (qw_a w (qd_d z da n) (qk_ch n z da w) (qd_c z n)) (qm_su n w su 4) 4)))), (a5, .inl (cI, 4, .inl (qN (qd_d z da n)))), (a6, .inl (cI, 4, .inl (qS (qm_cs ch (qk_ch n z da w) (qd_c z n))))), (a7, .inl (cI, 4, .inl (qS we)))] := hD
          have e61 : qw_a (qw_a w (qd_d z da n) (qk_ch n z da w) (qd_c z n)) (qd_d z da n) (qm_cs ch (qk_ch n z da w) (qd_c z n)) (qd_c z n) = w := (qw_a_congr (fun c hc => qm_cs_at hc)).trans (qw_a_back w (qd_d z da n) (qk_ch n z da w) (qd_c z n))
          rw [e61] at hP hD
          have hP : va_P (dC, dI) vwCl [(h0, .inr (2, [.int (nI n), .ref a1, .ref a2, .ref a3, .ref a4, .ref a5, .ref a6, .ref a7])), (a1, .inl (cI, n, .inl (qS w))), (a2, .inl (cZ, n, .inl (qZ z))), (a3, .inl (cI, n, .inl (qS lo))), (a4, .inl (cI, 4, .inl (qS (qm_su n (qw_a w (qd_d z da n) (qk_ch n z da w) (qd_c z n)) (qm_su n w su 4) 4)))), (a5, .inl (cI, 4, .inl (qN (qd_d z da n)))), (a6, .inl (cI, 4, .inl (qS (qm_cs ch (qk_ch n z da w) (qd_c z n))))), (a7, .inl (cI, 4, .inl (qS we)))] H := hP
          have hD : va_D A [(h0, .inr (2, [.int (nI n), .ref a1, .ref a2, .ref a3, .ref a4, .ref a5, .ref a6, .ref a7])), (a1, .inl (cI, n, .inl (qS w))), (a2, .inl (cZ, n, .inl (qZ z))), (a3, .inl (cI, n, .inl (qS lo))), (a4, .inl (cI, 4, .inl (qS (qm_su n (qw_a w (qd_d z da n) (qk_ch n z da w) (qd_c z n)) (qm_su n w su 4) 4)))), (a5, .inl (cI, 4, .inl (qN (qd_d z da n)))), (a6, .inl (cI, 4, .inl (qS (qm_cs ch (qk_ch n z da w) (qd_c z n))))), (a7, .inl (cI, 4, .inl (qS we)))] := hD
          refine lv_iconst (v := zI false) hx hb dX3_fillDoubted_64 (by decide) ?_
          subst hQ
          exact W.zret hx hb hr (qr_narZ _) (fun t ht hW => ⟨⟨_, (w, qm_su n (qw_a w (qd_d z da n) (qk_ch n z da w) (qd_c z n)) (qm_su n w su 4) 4, qd_d z da n, qm_cs ch (qk_ch n z da w) (qd_c z n), we), rfl, ⟨false, rfl, fun h => Bool.noConfusion h, fun _ => ⟨rfl, fun _ h => absurd (hv51.mpr h) (by rw [b54]; decide)⟩⟩, by rw [ht]; exact hP, va_K.moved hW.alike hK, hD⟩, hS.F ht⟩) hS.2.2 dX3_fillDoubted_65
        · refine lv_iconst (v := zI true) hx hb dX3_fillDoubted_57 (by decide) ?_
          subst hQ
          exact W.zret hx hb hr (qr_narZ _) (fun t ht hW => ⟨⟨_, (qw_a w (qd_d z da n) (qk_ch n z da w) (qd_c z n), qm_su n (qw_a w (qd_d z da n) (qk_ch n z da w) (qd_c z n)) (qm_su n w su 4) 4, qd_d z da n, qm_cs ch (qk_ch n z da w) (qd_c z n), we), rfl, ⟨true, rfl, fun _ => ⟨b7, rfl, hv51.mp b54⟩, fun h => Bool.noConfusion h⟩, by rw [ht]; exact hP, va_K.moved hW.alike hK, hD⟩, hS.F ht⟩) hS.2.2 dX3_fillDoubted_58
      | succ j ih =>
        intro i hi we ls H locs hl hP hD hS
        have li : i < qd_c z n := by omega
        refine lv_iload_n hx hb dX3_fillDoubted_22 rfl (lv_at hl 2 rfl) ?_
        refine lv_iload_n hx hb dX3_fillDoubted_23 rfl (lv_at hl 1 rfl) ?_
        refine qr_ge (tgt := 45) hx hb dX3_fillDoubted_24 rfl (by omega) (by omega) (fun h => absurd h (by omega)) (fun b24 => ?_)
        refine lv_aload_n hx hb dX3_fillDoubted_27 rfl (lv_at hl 0 rfl) ?_
        refine va_get (D := (dC, dI)) (ci := 2) (v := .ref a6) (C := RX3) (T := TX3) (N := 8) hx hb hts i_X3 hown hK hP 0 rfl rfl 6 (by decide) k_32 (fun _ h9 => h9) rfl dX3_fillDoubted_28 ?_
        refine lv_iload_n hx hb dX3_fillDoubted_31 rfl (lv_at hl 2 rfl) ?_
        refine lv_aload_n hx hb dX3_fillDoubted_32 rfl (lv_at hl 0 rfl) ?_
        refine lv_iload_n hx hb dX3_fillDoubted_33 rfl (lv_at hl 2 rfl) ?_
        refine lv_iload_n hx hb dX3_fillDoubted_34 rfl (lv_at hl 1 rfl) ?_
        have hPc := hP.sub (ws' := [(h0, .inr (2, [.int (nI n), .ref a1, .ref a2, .ref a3, .ref a4, .ref a5, .ref a6, .ref a7])), (a1, .inl (cI, n, .inl (qS w))), (a2, .inl (cZ, n, .inl (qZ z))), (a3, .inl (cI, n, .inl (qS lo))), (a4, .inl (cI, 4, .inl (qS (qm_su n w su 4)))), (a5, .inl (cI, 4, .inl (qN (qd_d z da n)))), (a6, .inl (cI, 4, .inl (qS (qm_cs ch (qk_ch n z da w) i)))), (a7, .inl (cI, 4, .inl (qS we)))]) [0, 1, 2, 3, 4, 5, 6, 7] rfl
        have hDc := hD.sub (ws' := [(h0, .inr (2, [.int (nI n), .ref a1, .ref a2, .ref a3, .ref a4, .ref a5, .ref a6, .ref a7])), (a1, .inl (cI, n, .inl (qS w))), (a2, .inl (cZ, n, .inl (qZ z))), (a3, .inl (cI, n, .inl (qS lo))), (a4, .inl (cI, 4, .inl (qS (qm_su n w su 4)))), (a5, .inl (cI, 4, .inl (qN (qd_d z da n)))), (a6, .inl (cI, 4, .inl (qS (qm_cs ch (qk_ch n z da w) i)))), (a7, .inl (cI, 4, .inl (qS we)))]) [0, 1, 2, 3, 4, 5, 6, 7] (by decide) rfl
        have hKc := hK.sub (tys' := [(cI, .int), (cZ, .boolean)]) [0, 1] rfl
        have hFc := va_free (wc := [(h0, .inr (2, [.int (nI n), .ref a1, .ref a2, .ref a3, .ref a4, .ref a5, .ref a6, .ref a7])), (a1, .inl (cI, n, .inl (qS w))), (a2, .inl (cZ, n, .inl (qZ z))), (a3, .inl (cI, n, .inl (qS lo))), (a4, .inl (cI, 4, .inl (qS (qm_su n w su 4)))), (a5, .inl (cI, 4, .inl (qN (qd_d z da n)))), (a6, .inl (cI, 4, .inl (qS (qm_cs ch (qk_ch n z da w) i)))), (a7, .inl (cI, 4, .inl (qS we)))]) hD hS hA [0, 1, 2, 3, 4, 5, 6, 7] rfl
        refine va_calli (va_runV (As := [.int (nI i), .int (nI (qd_c z n))]) (rest := [.int (nI i), .ref a6]) ⟨hx, hb, hml, hown, hts⟩ (qc_change l dC dI cI cZ h0 a1 a2 a3 a4 a5 a6 a7 n w z lo (qm_su n w su 4) (qd_d z da n) (qm_cs ch (qk_ch n z da w) i) we i (qd_c z n) H.size hn b7 li (fun c hc => (qd_d_in z da n c hc).1)) (cwV 2 hts gX3_fillDoubted_X3_changeAt rfl rfl rfl (by decide +kernel) ⟨Nat.le_of_ble_eq_true rfl, Nat.le_of_ble_eq_true rfl⟩) ⟨fun a U g mk q => by obtain ⟨q0, q1, qP, qK, qD⟩ := q; exact ⟨q0, q1, qP, va_K.moved (u := U) (U := U.calling g mk a) (Vm.Alike.refl U.vm) qK, qD⟩, (va_recv (q0 := 0) (ci := 2) hK hP rfl rfl), fun U hU hW => ⟨rfl, by rw [hU], by rw [hU]; exact hPc, va_K.moved hW.alike hKc, hDc.weaken (fun _ _ _ _ => trivial)⟩⟩ rfl rfl hl.1 rfl (lv_room (Nat.le_of_ble_eq_true rfl)) dX3_fillDoubted_35 ⟨Nat.le_of_ble_eq_true rfl, Nat.le_of_ble_eq_true rfl⟩) hS (fun q _ h => hFc q h) hFc (fun r35 u t H1 locs ht hvm hr35 hB hz1 hk1 hS => ?_)
        obtain ⟨hP1, hK1, hD1⟩ := hB
        rw [ht] at hP1
        have hP1 : va_P (dC, dI) vwCl [(h0, .inr (2, [.int (nI n), .ref a1, .ref a2, .ref a3, .ref a4, .ref a5, .ref a6, .ref a7])), (a1, .inl (cI, n, .inl (qS w))), (a2, .inl (cZ, n, .inl (qZ z))), (a3, .inl (cI, n, .inl (qS lo))), (a4, .inl (cI, 4, .inl (qS (qm_su n w su 4)))), (a5, .inl (cI, 4, .inl (qN (qd_d z da n)))), (a6, .inl (cI, 4, .inl (qS (qm_cs ch (qk_ch n z da w) i)))), (a7, .inl (cI, 4, .inl (qS (qw_V (fun c => lo ((qd_d z da n) c)) i (qm_st we 3) (qd_c z n)))))] H1 := hP1
        obtain ⟨hP, hD⟩ := qj_join (wc := [(h0, .inr (2, [.int (nI n), .ref a1, .ref a2, .ref a3, .ref a4, .ref a5, .ref a6, .ref a7])), (a1, .inl (cI, n, .inl (qS w))), (a2, .inl (cZ, n, .inl (qZ z))), (a3, .inl (cI, n, .inl (qS lo))), (a4, .inl (cI, 4, .inl (qS (qm_su n w su 4)))), (a5, .inl (cI, 4, .inl (qN (qd_d z da n)))), (a6, .inl (cI, 4, .inl (qS (qm_cs ch (qk_ch n z da w) i)))), (a7, .inl (cI, 4, .inl (qS we)))]) (w1 := [(h0, .inr (2, [.int (nI n), .ref a1, .ref a2, .ref a3, .ref a4, .ref a5, .ref a6, .ref a7])), (a1, .inl (cI, n, .inl (qS w))), (a2, .inl (cZ, n, .inl (qZ z))), (a3, .inl (cI, n, .inl (qS lo))), (a4, .inl (cI, 4, .inl (qS (qm_su n w su 4)))), (a5, .inl (cI, 4, .inl (qN (qd_d z da n)))), (a6, .inl (cI, 4, .inl (qS (qm_cs ch (qk_ch n z da w) i)))), (a7, .inl (cI, 4, .inl (qS (qw_V (fun c => lo ((qd_d z da n) c)) i (qm_st we 3) (qd_c z n)))))]) hP hD [0, 1, 2, 3, 4, 5, 6, 7] rfl rfl hk1 hP1
        generalize H1 = H at hP hS ⊢
        have hP : va_P (dC, dI) vwCl [(h0, .inr (2, [.int (nI n), .ref a1, .ref a2, .ref a3, .ref a4, .ref a5, .ref a6, .ref a7])), (a1, .inl (cI, n, .inl (qS w))), (a2, .inl (cZ, n, .inl (qZ z))), (a3, .inl (cI, n, .inl (qS lo))), (a4, .inl (cI, 4, .inl (qS (qm_su n w su 4)))), (a5, .inl (cI, 4, .inl (qN (qd_d z da n)))), (a6, .inl (cI, 4, .inl (qS (qm_cs ch (qk_ch n z da w) i)))), (a7, .inl (cI, 4, .inl (qS (qw_V (fun c => lo ((qd_d z da n) c)) i (qm_st we 3) (qd_c z n)))))] H := hP
        have hD : va_D A [(h0, .inr (2, [.int (nI n), .ref a1, .ref a2, .ref a3, .ref a4, .ref a5, .ref a6, .ref a7])), (a1, .inl (cI, n, .inl (qS w))), (a2, .inl (cZ, n, .inl (qZ z))), (a3, .inl (cI, n, .inl (qS lo))), (a4, .inl (cI, 4, .inl (qS (qm_su n w su 4)))), (a5, .inl (cI, 4, .inl (qN (qd_d z da n)))), (a6, .inl (cI, 4, .inl (qS (qm_cs ch (qk_ch n z da w) i)))), (a7, .inl (cI, 4, .inl (qS (qw_V (fun c => lo ((qd_d z da n) c)) i (qm_st we 3) (qd_c z n)))))] := hD
        have hr35 : r35 = sI (qf_m (qw_s (fun k => qf_m (qw_V (fun c => lo ((qd_d z da n) c)) i (qm_st we 3) (qd_c z n) k) ((qm_su n w su 4) k)) 4) (qf_i (qw_e (fun c => lo ((qd_d z da n) c)) i (lo ((qd_d z da n) i)) (qd_c z n)))) := hr35
        have hr35 : r35 = sI (qk_ch n z da w i) := hr35.trans (congrArg sI (qm_ch (Y := fun c => lo (qd_d z da n c)) (Z := fun c => qw_X n (qd_d z da n c)) (T := qw_S n w) li (fun c hc => hlo _ (qd_d_in z da n c hc).1) (fun k hk => qm_su_at hk)))
        subst hr35
        refine qr_istS (x := qk_ch n z da w i) hx hb hK hP hD hS 6 0 rfl rfl (by omega) (by omega) dX3_fillDoubted_38 (fun H locs hP hD hS => ?_)
        have hP : va_P (dC, dI) vwCl [(h0, .inr (2, [.int (nI n), .ref a1, .ref a2, .ref a3, .ref a4, .ref a5, .ref a6, .ref a7])), (a1, .inl (cI, n, .inl (qS w))), (a2, .inl (cZ, n, .inl (qZ z))), (a3, .inl (cI, n, .inl (qS lo))), (a4, .inl (cI, 4, .inl (qS (qm_su n w su 4)))), (a5, .inl (cI, 4, .inl (qN (qd_d z da n)))), (a6, .inl (cI, 4, .inl (qS (va_up (qm_cs ch (qk_ch n z da w) i) i (qk_ch n z da w i))))), (a7, .inl (cI, 4, .inl (qS (qw_V (fun c => lo ((qd_d z da n) c)) i (qm_st we 3) (qd_c z n)))))] H := hP
        have hD : va_D A [(h0, .inr (2, [.int (nI n), .ref a1, .ref a2, .ref a3, .ref a4, .ref a5, .ref a6, .ref a7])), (a1, .inl (cI, n, .inl (qS w))), (a2, .inl (cZ, n, .inl (qZ z))), (a3, .inl (cI, n, .inl (qS lo))), (a4, .inl (cI, 4, .inl (qS (qm_su n w su 4)))), (a5, .inl (cI, 4, .inl (qN (qd_d z da n)))), (a6, .inl (cI, 4, .inl (qS (va_up (qm_cs ch (qk_ch n z da w) i) i (qk_ch n z da w i))))), (a7, .inl (cI, 4, .inl (qS (qw_V (fun c => lo ((qd_d z da n) c)) i (qm_st we 3) (qd_c z n)))))] := hD
        refine lv_iinc (k := 2) (v := nI (i + 1)) (lv' := [(2, .int (nI (i + 1))), (0, .ref h0), (1, .int (nI (qd_c z n)))]) hx hb dX3_fillDoubted_39 hl rfl (qr_inc _) (by decide) rfl (fun ls hl => ?_)
        refine lv_goto (tgt := 22) hx hb dX3_fillDoubted_42 rfl ?_
        have hl := lv_sub (l' := [(0, .ref h0), (1, .int (nI (qd_c z n))), (2, .int (nI (i + 1)))]) hl [1, 2, 0] rfl
        have e1 : qm_cs ch (qk_ch n z da w) (i + 1) = va_up (qm_cs ch (qk_ch n z da w) i) i (qk_ch n z da w i) := by first | rfl | (simp only [cond_true, cond_false])
        exact ih (i + 1) (by omega) (qw_V (fun c => lo ((qd_d z da n) c)) i (qm_st we 3) (qd_c z n)) ls H _ (by exact hl) (by rw [e1]; exact hP) (by rw [e1]; exact hD) hS 
    have hl := lv_sub (l' := [(0, .ref h0), (1, .int (nI (qd_c z n))), (2, .int (nI 0))]) hl [2, 1, 0] rfl
    exact lp22 (qd_c z n) 0 (by omega) we ls H _ hl hP hD hS 
  · refine lv_iconst (v := zI false) hx hb dX3_fillDoubted_10 (by decide) ?_
    subst hQ
    exact W.zret hx hb hr (qr_narZ _) (fun t ht hW => ⟨⟨_, (w, su, da, ch, we), rfl, ⟨false, rfl, fun h => Bool.noConfusion h, fun _ => ⟨rfl, fun h => absurd h (by omega)⟩⟩, by rw [ht]; exact hP, va_K.moved hW.alike hK, hD⟩, hS.F ht⟩) hS.2.2 dX3_fillDoubted_11
set_option maxHeartbeats 4000000 in
set_option maxRecDepth 100000 in
/-- Word.makeChecks -/
theorem qc_checks (l : Launch) (dC : Nat → ClassId) (dI : Nat → Nat → Nat) (cI cZ : ClassId) (h0 a1 a2 a3 a4 a5 a6 a7 n : Nat) (w : Nat → BitVec 8) (z : Nat → Bool) (lo su : Nat → BitVec 8) (da : Nat → Nat) (ch we : Nat → BitVec 8) (sz : Nat) (hn : n ≤ 16) (hlo : ∀ i, i < n → lo i = qw_X n i) (h4 : 4 ≤ n) : Met l yX3_makeChecks wsX3_makeChecks ({ frames := 4, cells := 0, slots := 0, locals := 95 } : Room) (va_Pc [.ref h0] (fun U => U.heap.size = sz ∧ va_P (dC, dI) vwCl [(h0, .inr (2, [.int (nI n), .ref a1, .ref a2, .ref a3, .ref a4, .ref a5, .ref a6, .ref a7])), (a1, .inl (cI, n, .inl (qS w))), (a2, .inl (cZ, n, .inl (qZ z))), (a3, .inl (cI, n, .inl (qS lo))), (a4, .inl (cI, 4, .inl (qS su))), (a5, .inl (cI, 4, .inl (qN da))), (a6, .inl (cI, 4, .inl (qS ch))), (a7, .inl (cI, 4, .inl (qS we)))] U.heap ∧ va_K (dC, dI) vwCl [(cI, .int), (cZ, .boolean)] U ∧ va_D (fun _ => True) [(h0, .inr (2, [.int (nI n), .ref a1, .ref a2, .ref a3, .ref a4, .ref a5, .ref a6, .ref a7])), (a1, .inl (cI, n, .inl (qS w))), (a2, .inl (cZ, n, .inl (qZ z))), (a3, .inl (cI, n, .inl (qS lo))), (a4, .inl (cI, 4, .inl (qS su))), (a5, .inl (cI, 4, .inl (qN da))), (a6, .inl (cI, 4, .inl (qS ch))), (a7, .inl (cI, 4, .inl (qS we)))])) (va_Qv (fun (u : (Nat → BitVec 8) × (Nat → Nat) × (Nat → BitVec 8) × (Nat → BitVec 8)) => True) (fun u t => va_P (dC, dI) vwCl [(h0, .inr (2, [.int (nI n), .ref a1, .ref a2, .ref a3, .ref a4, .ref a5, .ref a6, .ref a7])), (a1, .inl (cI, n, .inl (qS (qw_a w (qd_d (qm_mc n z n) da n) (qk_ch n (qm_mc n z n) da w) 4)))), (a2, .inl (cZ, n, .inl (qZ (qm_mc n z n)))), (a3, .inl (cI, n, .inl (qS lo))), (a4, .inl (cI, 4, .inl (qS u.1))), (a5, .inl (cI, 4, .inl (qN u.2.1))), (a6, .inl (cI, 4, .inl (qS u.2.2.1))), (a7, .inl (cI, 4, .inl (qS u.2.2.2)))] t.heap ∧ va_K (dC, dI) vwCl [(cI, .int), (cZ, .boolean)] t ∧ va_D (va_A [(h0, .inr (2, [.int (nI n), .ref a1, .ref a2, .ref a3, .ref a4, .ref a5, .ref a6, .ref a7])), (a1, .inl (cI, n, .inl (qS w))), (a2, .inl (cZ, n, .inl (qZ z))), (a3, .inl (cI, n, .inl (qS lo))), (a4, .inl (cI, 4, .inl (qS su))), (a5, .inl (cI, 4, .inl (qN da))), (a6, .inl (cI, 4, .inl (qS ch))), (a7, .inl (cI, 4, .inl (qS we)))] sz) [(h0, .inr (2, [.int (nI n), .ref a1, .ref a2, .ref a3, .ref a4, .ref a5, .ref a6, .ref a7])), (a1, .inl (cI, n, .inl (qS (qw_a w (qd_d (qm_mc n z n) da n) (qk_ch n (qm_mc n z n) da w) 4)))), (a2, .inl (cZ, n, .inl (qZ (qm_mc n z n)))), (a3, .inl (cI, n, .inl (qS lo))), (a4, .inl (cI, 4, .inl (qS u.1))), (a5, .inl (cI, 4, .inl (qN u.2.1))), (a6, .inl (cI, 4, .inl (qS u.2.2.1))), (a7, .inl (cI, 4, .inl (qS u.2.2.2)))]) (va_A [(h0, .inr (2, [.int (nI n), .ref a1, .ref a2, .ref a3, .ref a4, .ref a5, .ref a6, .ref a7])), (a1, .inl (cI, n, .inl (qS w))), (a2, .inl (cZ, n, .inl (qZ z))), (a3, .inl (cI, n, .inl (qS lo))), (a4, .inl (cI, 4, .inl (qS su))), (a5, .inl (cI, 4, .inl (qN da))), (a6, .inl (cI, 4, .inl (qS ch))), (a7, .inl (cI, 4, .inl (qS we)))] sz)) 0 0 (va_A [(h0, .inr (2, [.int (nI n), .ref a1, .ref a2, .ref a3, .ref a4, .ref a5, .ref a6, .ref a7])), (a1, .inl (cI, n, .inl (qS w))), (a2, .inl (cZ, n, .inl (qZ z))), (a3, .inl (cI, n, .inl (qS lo))), (a4, .inl (cI, 4, .inl (qS su))), (a5, .inl (cI, 4, .inl (qN da))), (a6, .inl (cI, 4, .inl (qS ch))), (a7, .inl (cI, 4, .inl (qS we)))] sz) := by
  refine Met.ofW (cc := cX3_makeChecks) (maxL := 2) (ret := none) (by decide) rfl ?_
  intro p e s m args below meth c s₁ B hml hv
  obtain ⟨rfl, hsz, hP, hK, hD0⟩ := hv
  have hx := B.exec
  have hb := B.bytes
  have hr := B.returns
  have hts := atoms_spec (ws := wsX3_makeChecks) B.pre
  have hown : s.vm.findClass RX3 = some m.cls := findClass_of_methodNamed B.named
  have hlocks := B.notSynchronized
  subst hsz
  have hD := hD0.self (sz := s.heap.size)
  generalize hAe : va_A [(h0, .inr (2, [.int (nI n), .ref a1, .ref a2, .ref a3, .ref a4, .ref a5, .ref a6, .ref a7])), (a1, .inl (cI, n, .inl (qS w))), (a2, .inl (cZ, n, .inl (qZ z))), (a3, .inl (cI, n, .inl (qS lo))), (a4, .inl (cI, 4, .inl (qS su))), (a5, .inl (cI, 4, .inl (qN da))), (a6, .inl (cI, 4, .inl (qS ch))), (a7, .inl (cI, 4, .inl (qS we)))] s.heap.size = A at hD ⊢
  have hA : ∀ q : Nat, s.heap.size ≤ q → A q := fun q h => by rw [← hAe]; exact Or.inr h
  have hS : va_S A s.heap s.heap [] := va_S.rf
  have hP : va_P (dC, dI) vwCl [(h0, .inr (2, [.int (nI n), .ref a1, .ref a2, .ref a3, .ref a4, .ref a5, .ref a6, .ref a7])), (a1, .inl (cI, n, .inl (qS w))), (a2, .inl (cZ, n, .inl (qZ z))), (a3, .inl (cI, n, .inl (qS lo))), (a4, .inl (cI, 4, .inl (qS su))), (a5, .inl (cI, 4, .inl (qN da))), (a6, .inl (cI, 4, .inl (qS ch))), (a7, .inl (cI, 4, .inl (qS we)))] s.heap := hP
  have hl := lv_entry ([.ref h0]) (n := 2) (Nat.le_of_ble_eq_true rfl)
  rw [lg_entry_eq]
  generalize (lg_sl ([.ref h0]) ++ List.replicate (2 - (lg_sl ([.ref h0])).length) Slot.unset).toArray = ls at hl ⊢
  have hl : lv_has ls 2 [(0, .ref h0)] := hl
  have k_9 := hts (.fieldLink RX3 9 "DiscCoder$Word" "size" "I") (by decide +kernel)
  have k_19 := hts (.fieldLink RX3 19 "DiscCoder$Word" "doubted" "[Z") (by decide +kernel)
  have i_X3 : ∀ w ∈ u_ws RX3 TX3 8, w ∈ wsX3_makeChecks := by decide +kernel
  refine qr_nm (fun Q hQ => ?_)
  refine lv_iconst (v := nI 0) hx hb dX3_makeChecks_0 (by decide) ?_
  refine lv_istore_n (lv' := [(1, .int (nI 0)), (0, .ref h0)]) hx hb dX3_makeChecks_1 rfl hl (by decide) rfl (fun ls hl => ?_)
  have lp2 : ∀ (j i : Nat), i + j = n → ∀  (ls : Array Slot) (H : Heap) (locs : List Loc), lv_has ls 2 [(0, .ref h0), (1, .int (nI i))] → va_P (dC, dI) vwCl [(h0, .inr (2, [.int (nI n), .ref a1, .ref a2, .ref a3, .ref a4, .ref a5, .ref a6, .ref a7])), (a1, .inl (cI, n, .inl (qS w))), (a2, .inl (cZ, n, .inl (qZ (qm_mc n z i)))), (a3, .inl (cI, n, .inl (qS lo))), (a4, .inl (cI, 4, .inl (qS su))), (a5, .inl (cI, 4, .inl (qN da))), (a6, .inl (cI, 4, .inl (qS ch))), (a7, .inl (cI, 4, .inl (qS we)))] H → va_D A [(h0, .inr (2, [.int (nI n), .ref a1, .ref a2, .ref a3, .ref a4, .ref a5, .ref a6, .ref a7])), (a1, .inl (cI, n, .inl (qS w))), (a2, .inl (cZ, n, .inl (qZ (qm_mc n z i)))), (a3, .inl (cI, n, .inl (qS lo))), (a4, .inl (cI, 4, .inl (qS su))), (a5, .inl (cI, 4, .inl (qN da))), (a6, .inl (cI, 4, .inl (qS ch))), (a7, .inl (cI, 4, .inl (qS we)))] → va_S A s.heap H locs → W p l e (headSpec wsX3_makeChecks ({ frames := 4, cells := 0, slots := 0, locals := 95 } : Room)).room s m ([.ref h0] : List Value).toArray below meth c H locs 0 0 Q (F0 m 2 ls []) := by
    intro j
    induction j with
    | zero =>
      intro i hi  ls H locs hl hP hD hS
      have e9 : n = i := by omega
      subst e9
      refine lv_iload_n hx hb dX3_makeChecks_2 rfl (lv_at hl 1 rfl) ?_
      refine lv_aload_n hx hb dX3_makeChecks_3 rfl (lv_at hl 0 rfl) ?_
      refine va_get (D := (dC, dI)) (ci := 2) (v := .int (nI n)) (C := RX3) (T := TX3) (N := 8) hx hb hts i_X3 hown hK hP 0 rfl rfl 0 (by decide) k_9 (fun _ h9 => h9) rfl dX3_makeChecks_4 ?_
      refine qr_ge (tgt := 37) hx hb dX3_makeChecks_7 rfl (by omega) (by omega) (fun b7 => ?_) (fun h => absurd h (by omega))
      refine lv_aload_n hx hb dX3_makeChecks_37 rfl (lv_at hl 0 rfl) ?_
      have hPc := hP.sub (ws' := [(h0, .inr (2, [.int (nI n), .ref a1, .ref a2, .ref a3, .ref a4, .ref a5, .ref a6, .ref a7])), (a1, .inl (cI, n, .inl (qS w))), (a2, .inl (cZ, n, .inl (qZ (qm_mc n z n)))), (a3, .inl (cI, n, .inl (qS lo))), (a4, .inl (cI, 4, .inl (qS su))), (a5, .inl (cI, 4, .inl (qN da))), (a6, .inl (cI, 4, .inl (qS ch))), (a7, .inl (cI, 4, .inl (qS we)))]) [0, 1, 2, 3, 4, 5, 6, 7] rfl
      have hDc := hD.sub (ws' := [(h0, .inr (2, [.int (nI n), .ref a1, .ref a2, .ref a3, .ref a4, .ref a5, .ref a6, .ref a7])), (a1, .inl (cI, n, .inl (qS w))), (a2, .inl (cZ, n, .inl (qZ (qm_mc n z n)))), (a3, .inl (cI, n, .inl (qS lo))), (a4, .inl (cI, 4, .inl (qS su))), (a5, .inl (cI, 4, .inl (qN da))), (a6, .inl (cI, 4, .inl (qS ch))), (a7, .inl (cI, 4, .inl (qS we)))]) [0, 1, 2, 3, 4, 5, 6, 7] (by decide) rfl
      have hKc := hK.sub (tys' := [(cI, .int), (cZ, .boolean)]) [0, 1] rfl
      have hFc := va_free (wc := [(h0, .inr (2, [.int (nI n), .ref a1, .ref a2, .ref a3, .ref a4, .ref a5, .ref a6, .ref a7])), (a1, .inl (cI, n, .inl (qS w))), (a2, .inl (cZ, n, .inl (qZ (qm_mc n z n)))), (a3, .inl (cI, n, .inl (qS lo))), (a4, .inl (cI, 4, .inl (qS su))), (a5, .inl (cI, 4, .inl (qN da))), (a6, .inl (cI, 4, .inl (qS ch))), (a7, .inl (cI, 4, .inl (qS we)))]) hD hS hA [0, 1, 2, 3, 4, 5, 6, 7] rfl
      refine va_calli (va_runV (As := []) (rest := []) ⟨hx, hb, hml, hown, hts⟩ (qc_fill l dC dI cI cZ h0 a1 a2 a3 a4 a5 a6 a7 n w (qm_mc n z n) lo su da ch we H.size hn hlo) (cwV 0 hts gX3_makeChecks_X3_fillDoubted rfl rfl rfl (by decide +kernel) ⟨Nat.le_of_ble_eq_true rfl, Nat.le_of_ble_eq_true rfl⟩) ⟨fun a U g mk q => by obtain ⟨q0, q1, qP, qK, qD⟩ := q; exact ⟨q0, q1, qP, va_K.moved (u := U) (U := U.calling g mk a) (Vm.Alike.refl U.vm) qK, qD⟩, (va_recv (q0 := 0) (ci := 2) hK hP rfl rfl), fun U hU hW => ⟨rfl, by rw [hU], by rw [hU]; exact hPc, va_K.moved hW.alike hKc, hDc.weaken (fun _ _ _ _ => trivial)⟩⟩ rfl rfl hl.1 rfl (lv_room (Nat.le_of_ble_eq_true rfl)) dX3_makeChecks_38 ⟨Nat.le_of_ble_eq_true rfl, Nat.le_of_ble_eq_true rfl⟩) hS (fun q _ h => hFc q h) hFc (fun r38 u t H1 locs ht hvm hr38 hB hz1 hk1 hS => ?_)
      obtain ⟨w2, su2, da2, ch2, we2⟩ := u
      dsimp only at hr38 hB
      obtain ⟨hP1, hK1, hD1⟩ := hB
      rw [ht] at hP1
      have hP1 : va_P (dC, dI) vwCl [(h0, .inr (2, [.int (nI n), .ref a1, .ref a2, .ref a3, .ref a4, .ref a5, .ref a6, .ref a7])), (a1, .inl (cI, n, .inl (qS w2))), (a2, .inl (cZ, n, .inl (qZ (qm_mc n z n)))), (a3, .inl (cI, n, .inl (qS lo))), (a4, .inl (cI, 4, .inl (qS su2))), (a5, .inl (cI, 4, .inl (qN da2))), (a6, .inl (cI, 4, .inl (qS ch2))), (a7, .inl (cI, 4, .inl (qS we2)))] H1 := hP1
      obtain ⟨hP, hD⟩ := qj_join (wc := [(h0, .inr (2, [.int (nI n), .ref a1, .ref a2, .ref a3, .ref a4, .ref a5, .ref a6, .ref a7])), (a1, .inl (cI, n, .inl (qS w))), (a2, .inl (cZ, n, .inl (qZ (qm_mc n z n)))), (a3, .inl (cI, n, .inl (qS lo))), (a4, .inl (cI, 4, .inl (qS su))), (a5, .inl (cI, 4, .inl (qN da))), (a6, .inl (cI, 4, .inl (qS ch))), (a7, .inl (cI, 4, .inl (qS we)))]) (w1 := [(h0, .inr (2, [.int (nI n), .ref a1, .ref a2, .ref a3, .ref a4, .ref a5, .ref a6, .ref a7])), (a1, .inl (cI, n, .inl (qS w2))), (a2, .inl (cZ, n, .inl (qZ (qm_mc n z n)))), (a3, .inl (cI, n, .inl (qS lo))), (a4, .inl (cI, 4, .inl (qS su2))), (a5, .inl (cI, 4, .inl (qN da2))), (a6, .inl (cI, 4, .inl (qS ch2))), (a7, .inl (cI, 4, .inl (qS we2)))]) hP hD [0, 1, 2, 3, 4, 5, 6, 7] rfl rfl hk1 hP1
      generalize H1 = H at hP hS ⊢
      have hP : va_P (dC, dI) vwCl [(h0, .inr (2, [.int (nI n), .ref a1, .ref a2, .ref a3, .ref a4, .ref a5, .ref a6, .ref a7])), (a1, .inl (cI, n, .inl (qS w2))), (a2, .inl (cZ, n, .inl (qZ (qm_mc n z n)))), (a3, .inl (cI, n, .inl (qS lo))), (a4, .inl (cI, 4, .inl (qS su2))), (a5, .inl (cI, 4, .inl (qN da2))), (a6, .inl (cI, 4, .inl (qS ch2))), (a7, .inl (cI, 4, .inl (qS we2)))] H := hP
      have hD : va_D A [(h0, .inr (2, [.int (nI n), .ref a1, .ref a2, .ref a3, .ref a4, .ref a5, .ref a6, .ref a7])), (a1, .inl (cI, n, .inl (qS w2))), (a2, .inl (cZ, n, .inl (qZ (qm_mc n z n)))), (a3, .inl (cI, n, .inl (qS lo))), (a4, .inl (cI, 4, .inl (qS su2))), (a5, .inl (cI, 4, .inl (qN da2))), (a6, .inl (cI, 4, .inl (qS ch2))), (a7, .inl (cI, 4, .inl (qS we2)))] := hD
      obtain ⟨v38, e38, hv38⟩ := hr38
      subst e38
      have ew : w2 = qw_a w (qd_d (qm_mc n z n) da n) (qk_ch n (qm_mc n z n) da w) 4 := by
        obtain ⟨g1, g2⟩ := hv38
        have hc4 : qd_c (qm_mc n z n) n = 4 := qm_mc_4 z h4
        cases v38 with
        | true => rw [(g1 rfl).2.1, hc4]
        | false => exact absurd ((qk_good hn (by rw [hc4]; exact Nat.le_refl 4)).mpr (fun k h1 h2 => absurd h2 (by rw [hc4] at h1; omega))) ((g2 rfl).2 (by rw [hc4]; exact Nat.le_refl 4))
      subst ew
      have hP : va_P (dC, dI) vwCl [(h0, .inr (2, [.int (nI n), .ref a1, .ref a2, .ref a3, .ref a4, .ref a5, .ref a6, .ref a7])), (a1, .inl (cI, n, .inl (qS (qw_a w (qd_d (qm_mc n z n) da n) (qk_ch n (qm_mc n z n) da w) 4)))), (a2, .inl (cZ, n, .inl (qZ (qm_mc n z n)))), (a3, .inl (cI, n, .inl (qS lo))), (a4, .inl (cI, 4, .inl (qS su2))), (a5, .inl (cI, 4, .inl (qN da2))), (a6, .inl (cI, 4, .inl (qS ch2))), (a7, .inl (cI, 4, .inl (qS we2)))] H := hP
      have hD : va_D A [(h0, .inr (2, [.int (nI n), .ref a1, .ref a2, .ref a3, .ref a4, .ref a5, .ref a6, .ref a7])), (a1, .inl (cI, n, .inl (qS (qw_a w (qd_d (qm_mc n z n) da n) (qk_ch n (qm_mc n z n) da w) 4)))), (a2, .inl (cZ, n, .inl (qZ (qm_mc n z n)))), (a3, .inl (cI, n, .inl (qS lo))), (a4, .inl (cI, 4, .inl (qS su2))), (a5, .inl (cI, 4, .inl (qN da2))), (a6, .inl (cI, 4, .inl (qS ch2))), (a7, .inl (cI, 4, .inl (qS we2)))] := hD
      refine lv_pop hx hb dX3_makeChecks_41 rfl ?_
      subst hQ
      exact W.vret hx hb hr (fun t ht hW => ⟨⟨(su2, da2, ch2, we2), rfl, trivial, by rw [ht]; exact hP, va_K.moved hW.alike hK, hD⟩, hS.F ht⟩) hS.2.2 dX3_makeChecks_42
    | succ j ih =>
      intro i hi  ls H locs hl hP hD hS
      have li : i < n := by omega
      refine lv_iload_n hx hb dX3_makeChecks_2 rfl (lv_at hl 1 rfl) ?_
      refine lv_aload_n hx hb dX3_makeChecks_3 rfl (lv_at hl 0 rfl) ?_
      refine va_get (D := (dC, dI)) (ci := 2) (v := .int (nI n)) (C := RX3) (T := TX3) (N := 8) hx hb hts i_X3 hown hK hP 0 rfl rfl 0 (by decide) k_9 (fun _ h9 => h9) rfl dX3_makeChecks_4 ?_
      refine qr_ge (tgt := 37) hx hb dX3_makeChecks_7 rfl (by omega) (by omega) (fun h => absurd h (by omega)) (fun b7 => ?_)
      refine lv_aload_n hx hb dX3_makeChecks_10 rfl (lv_at hl 0 rfl) ?_
      refine va_get (D := (dC, dI)) (ci := 2) (v := .ref a2) (C := RX3) (T := TX3) (N := 8) hx hb hts i_X3 hown hK hP 0 rfl rfl 2 (by decide) k_19 (fun _ h9 => h9) rfl dX3_makeChecks_11 ?_
      refine lv_iload_n hx hb dX3_makeChecks_14 rfl (lv_at hl 1 rfl) ?_
      refine lv_iload_n hx hb dX3_makeChecks_15 rfl (lv_at hl 1 rfl) ?_
      refine lv_aload_n hx hb dX3_makeChecks_16 rfl (lv_at hl 0 rfl) ?_
      refine va_get (D := (dC, dI)) (ci := 2) (v := .int (nI n)) (C := RX3) (T := TX3) (N := 8) hx hb hts i_X3 hown hK hP 0 rfl rfl 0 (by decide) k_9 (fun _ h9 => h9) rfl dX3_makeChecks_17 ?_
      refine lv_iconst (v := nI 4) hx hb dX3_makeChecks_20 (by decide) ?_
      refine qr_isub (z := nI (n - 4)) hx hb dX3_makeChecks_21 (pk_sub (by omega)) ?_
      refine qr_lt (tgt := 29) hx hb dX3_makeChecks_22 rfl (by omega) (by omega) (fun b22 => ?_) (fun b22 => ?_)
      · refine lv_iconst (v := zI false) hx hb dX3_makeChecks_29 (by decide) ?_
        refine qr_zst (x := false) hx hb hK hP hD hS 2 1 rfl rfl (by omega) (by omega) dX3_makeChecks_30 (fun H locs hP hD hS => ?_)
        have hP : va_P (dC, dI) vwCl [(h0, .inr (2, [.int (nI n), .ref a1, .ref a2, .ref a3, .ref a4, .ref a5, .ref a6, .ref a7])), (a1, .inl (cI, n, .inl (qS w))), (a2, .inl (cZ, n, .inl (qZ (va_up (qm_mc n z i) i false)))), (a3, .inl (cI, n, .inl (qS lo))), (a4, .inl (cI, 4, .inl (qS su))), (a5, .inl (cI, 4, .inl (qN da))), (a6, .inl (cI, 4, .inl (qS ch))), (a7, .inl (cI, 4, .inl (qS we)))] H := hP
        have hD : va_D A [(h0, .inr (2, [.int (nI n), .ref a1, .ref a2, .ref a3, .ref a4, .ref a5, .ref a6, .ref a7])), (a1, .inl (cI, n, .inl (qS w))), (a2, .inl (cZ, n, .inl (qZ (va_up (qm_mc n z i) i false)))), (a3, .inl (cI, n, .inl (qS lo))), (a4, .inl (cI, 4, .inl (qS su))), (a5, .inl (cI, 4, .inl (qN da))), (a6, .inl (cI, 4, .inl (qS ch))), (a7, .inl (cI, 4, .inl (qS we)))] := hD
        refine lv_iinc (k := 1) (v := nI (i + 1)) (lv' := [(1, .int (nI (i + 1))), (0, .ref h0)]) hx hb dX3_makeChecks_31 hl rfl (qr_inc _) (by decide) rfl (fun ls hl => ?_)
        refine lv_goto (tgt := 2) hx hb dX3_makeChecks_34 rfl ?_
        have hl := lv_sub (l' := [(0, .ref h0), (1, .int (nI (i + 1)))]) hl [1, 0] rfl
        have e1 : qm_mc n z (i + 1) = va_up (qm_mc n z i) i false := by rw [qm_mc, decide_eq_false (by omega)]
        exact ih (i + 1) (by omega)  ls H _ (by exact hl) (by rw [e1]; exact hP) (by rw [e1]; exact hD) hS 
      · refine lv_iconst (v := zI true) hx hb dX3_makeChecks_25 (by decide) ?_
        refine lv_goto (tgt := 30) hx hb dX3_makeChecks_26 rfl ?_
        refine qr_zst (x := true) hx hb hK hP hD hS 2 1 rfl rfl (by omega) (by omega) dX3_makeChecks_30 (fun H locs hP hD hS => ?_)
        have hP : va_P (dC, dI) vwCl [(h0, .inr (2, [.int (nI n), .ref a1, .ref a2, .ref a3, .ref a4, .ref a5, .ref a6, .ref a7])), (a1, .inl (cI, n, .inl (qS w))), (a2, .inl (cZ, n, .inl (qZ (va_up (qm_mc n z i) i true)))), (a3, .inl (cI, n, .inl (qS lo))), (a4, .inl (cI, 4, .inl (qS su))), (a5, .inl (cI, 4, .inl (qN da))), (a6, .inl (cI, 4, .inl (qS ch))), (a7, .inl (cI, 4, .inl (qS we)))] H := hP
        have hD : va_D A [(h0, .inr (2, [.int (nI n), .ref a1, .ref a2, .ref a3, .ref a4, .ref a5, .ref a6, .ref a7])), (a1, .inl (cI, n, .inl (qS w))), (a2, .inl (cZ, n, .inl (qZ (va_up (qm_mc n z i) i true)))), (a3, .inl (cI, n, .inl (qS lo))), (a4, .inl (cI, 4, .inl (qS su))), (a5, .inl (cI, 4, .inl (qN da))), (a6, .inl (cI, 4, .inl (qS ch))), (a7, .inl (cI, 4, .inl (qS we)))] := hD
        refine lv_iinc (k := 1) (v := nI (i + 1)) (lv' := [(1, .int (nI (i + 1))), (0, .ref h0)]) hx hb dX3_makeChecks_31 hl rfl (qr_inc _) (by decide) rfl (fun ls hl => ?_)
        refine lv_goto (tgt := 2) hx hb dX3_makeChecks_34 rfl ?_
        have hl := lv_sub (l' := [(0, .ref h0), (1, .int (nI (i + 1)))]) hl [1, 0] rfl
        have e2 : qm_mc n z (i + 1) = va_up (qm_mc n z i) i true := by rw [qm_mc, decide_eq_true (by omega)]
        exact ih (i + 1) (by omega)  ls H _ (by exact hl) (by rw [e2]; exact hP) (by rw [e2]; exact hD) hS 
  have hl := lv_sub (l' := [(0, .ref h0), (1, .int (nI 0))]) hl [1, 0] rfl
  exact lp2 n 0 (by omega)  ls s.heap _ hl hP hD hS 
set_option maxHeartbeats 4000000 in
set_option maxRecDepth 100000 in
/-- Word.mendOne -/
theorem qc_mend (l : Launch) (dC : Nat → ClassId) (dI : Nat → Nat → Nat) (cI cZ : ClassId) (h0 a1 a2 a3 a4 a5 a6 a7 n : Nat) (w : Nat → BitVec 8) (z : Nat → Bool) (lo su : Nat → BitVec 8) (da : Nat → Nat) (ch we : Nat → BitVec 8) (sz : Nat) (hn : n = 16) (hlo : ∀ i, i < n → lo i = qw_X n i) : Met l yX3_mendOne wsX3_mendOne ({ frames := 3, cells := 0, slots := 0, locals := 69 } : Room) (va_Pc [.ref h0] (fun U => U.heap.size = sz ∧ va_P (dC, dI) vwCl [(h0, .inr (2, [.int (nI n), .ref a1, .ref a2, .ref a3, .ref a4, .ref a5, .ref a6, .ref a7])), (a1, .inl (cI, n, .inl (qS w))), (a2, .inl (cZ, n, .inl (qZ z))), (a3, .inl (cI, n, .inl (qS lo))), (a4, .inl (cI, 4, .inl (qS su))), (a5, .inl (cI, 4, .inl (qN da))), (a6, .inl (cI, 4, .inl (qS ch))), (a7, .inl (cI, 4, .inl (qS we)))] U.heap ∧ va_K (dC, dI) vwCl [(cI, .int), (cZ, .boolean)] U ∧ va_D (fun _ => True) [(h0, .inr (2, [.int (nI n), .ref a1, .ref a2, .ref a3, .ref a4, .ref a5, .ref a6, .ref a7])), (a1, .inl (cI, n, .inl (qS w))), (a2, .inl (cZ, n, .inl (qZ z))), (a3, .inl (cI, n, .inl (qS lo))), (a4, .inl (cI, 4, .inl (qS su))), (a5, .inl (cI, 4, .inl (qN da))), (a6, .inl (cI, 4, .inl (qS ch))), (a7, .inl (cI, 4, .inl (qS we)))])) (va_Qi (fun (r : Int32) (u : (Nat → BitVec 8)) => ∃ b : Bool, r = zI b ∧ (b = true → ¬ qw_W n w ∧ ∃ i, i < n ∧ qk_F w i ∧ (∀ j, j < i → ¬ qk_F w j) ∧ u = va_up w i (w i ^^^ qw_S n w 0)) ∧ (b = false → u = w ∧ (qw_W n w ∨ ∀ i, i < n → ¬ qk_F w i))) (fun u t => va_P (dC, dI) vwCl [(h0, .inr (2, [.int (nI n), .ref a1, .ref a2, .ref a3, .ref a4, .ref a5, .ref a6, .ref a7])), (a1, .inl (cI, n, .inl (qS u))), (a2, .inl (cZ, n, .inl (qZ z))), (a3, .inl (cI, n, .inl (qS lo))), (a4, .inl (cI, 4, .inl (qS (qm_su n w su 4)))), (a5, .inl (cI, 4, .inl (qN da))), (a6, .inl (cI, 4, .inl (qS ch))), (a7, .inl (cI, 4, .inl (qS we)))] t.heap ∧ va_K (dC, dI) vwCl [(cI, .int), (cZ, .boolean)] t ∧ va_D (va_A [(h0, .inr (2, [.int (nI n), .ref a1, .ref a2, .ref a3, .ref a4, .ref a5, .ref a6, .ref a7])), (a1, .inl (cI, n, .inl (qS w))), (a2, .inl (cZ, n, .inl (qZ z))), (a3, .inl (cI, n, .inl (qS lo))), (a4, .inl (cI, 4, .inl (qS su))), (a5, .inl (cI, 4, .inl (qN da))), (a6, .inl (cI, 4, .inl (qS ch))), (a7, .inl (cI, 4, .inl (qS we)))] sz) [(h0, .inr (2, [.int (nI n), .ref a1, .ref a2, .ref a3, .ref a4, .ref a5, .ref a6, .ref a7])), (a1, .inl (cI, n, .inl (qS u))), (a2, .inl (cZ, n, .inl (qZ z))), (a3, .inl (cI, n, .inl (qS lo))), (a4, .inl (cI, 4, .inl (qS (qm_su n w su 4)))), (a5, .inl (cI, 4, .inl (qN da))), (a6, .inl (cI, 4, .inl (qS ch))), (a7, .inl (cI, 4, .inl (qS we)))]) (va_A [(h0, .inr (2, [.int (nI n), .ref a1, .ref a2, .ref a3, .ref a4, .ref a5, .ref a6, .ref a7])), (a1, .inl (cI, n, .inl (qS w))), (a2, .inl (cZ, n, .inl (qZ z))), (a3, .inl (cI, n, .inl (qS lo))), (a4, .inl (cI, 4, .inl (qS su))), (a5, .inl (cI, 4, .inl (qN da))), (a6, .inl (cI, 4, .inl (qS ch))), (a7, .inl (cI, 4, .inl (qS we)))] sz)) 0 0 (va_A [(h0, .inr (2, [.int (nI n), .ref a1, .ref a2, .ref a3, .ref a4, .ref a5, .ref a6, .ref a7])), (a1, .inl (cI, n, .inl (qS w))), (a2, .inl (cZ, n, .inl (qZ z))), (a3, .inl (cI, n, .inl (qS lo))), (a4, .inl (cI, 4, .inl (qS su))), (a5, .inl (cI, 4, .inl (qN da))), (a6, .inl (cI, 4, .inl (qS ch))), (a7, .inl (cI, 4, .inl (qS we)))] sz) := by
  refine Met.ofW (cc := cX3_mendOne) (maxL := 2) (ret := (some .boolean)) (by decide) rfl ?_
  intro p e s m args below meth c s₁ B hml hv
  obtain ⟨rfl, hsz, hP, hK, hD0⟩ := hv
  have hx := B.exec
  have hb := B.bytes
  have hr := B.returns
  have hts := atoms_spec (ws := wsX3_mendOne) B.pre
  have hown : s.vm.findClass RX3 = some m.cls := findClass_of_methodNamed B.named
  have hlocks := B.notSynchronized
  subst hsz
  have hD := hD0.self (sz := s.heap.size)
  generalize hAe : va_A [(h0, .inr (2, [.int (nI n), .ref a1, .ref a2, .ref a3, .ref a4, .ref a5, .ref a6, .ref a7])), (a1, .inl (cI, n, .inl (qS w))), (a2, .inl (cZ, n, .inl (qZ z))), (a3, .inl (cI, n, .inl (qS lo))), (a4, .inl (cI, 4, .inl (qS su))), (a5, .inl (cI, 4, .inl (qN da))), (a6, .inl (cI, 4, .inl (qS ch))), (a7, .inl (cI, 4, .inl (qS we)))] s.heap.size = A at hD ⊢
  have hA : ∀ q : Nat, s.heap.size ≤ q → A q := fun q h => by rw [← hAe]; exact Or.inr h
  have hS : va_S A s.heap s.heap [] := va_S.rf
  have hP : va_P (dC, dI) vwCl [(h0, .inr (2, [.int (nI n), .ref a1, .ref a2, .ref a3, .ref a4, .ref a5, .ref a6, .ref a7])), (a1, .inl (cI, n, .inl (qS w))), (a2, .inl (cZ, n, .inl (qZ z))), (a3, .inl (cI, n, .inl (qS lo))), (a4, .inl (cI, 4, .inl (qS su))), (a5, .inl (cI, 4, .inl (qN da))), (a6, .inl (cI, 4, .inl (qS ch))), (a7, .inl (cI, 4, .inl (qS we)))] s.heap := hP
  have hl := lv_entry ([.ref h0]) (n := 2) (Nat.le_of_ble_eq_true rfl)
  rw [lg_entry_eq]
  generalize (lg_sl ([.ref h0]) ++ List.replicate (2 - (lg_sl ([.ref h0])).length) Slot.unset).toArray = ls at hl ⊢
  have hl : lv_has ls 2 [(0, .ref h0)] := hl
  have k_9 := hts (.fieldLink RX3 9 "DiscCoder$Word" "size" "I") (by decide +kernel)
  have k_15 := hts (.fieldLink RX3 15 "DiscCoder$Word" "symbols" "[I") (by decide +kernel)
  have k_26 := hts (.fieldLink RX3 26 "DiscCoder$Word" "sums" "[I") (by decide +kernel)
  have i_X3 : ∀ w ∈ u_ws RX3 TX3 8, w ∈ wsX3_mendOne := by decide +kernel
  refine qr_nm (fun Q hQ => ?_)
  refine lv_aload_n hx hb dX3_mendOne_0 rfl (lv_at hl 0 rfl) ?_
  have hPc := hP.sub (ws' := [(h0, .inr (2, [.int (nI n), .ref a1, .ref a2, .ref a3, .ref a4, .ref a5, .ref a6, .ref a7])), (a1, .inl (cI, n, .inl (qS w))), (a2, .inl (cZ, n, .inl (qZ z))), (a3, .inl (cI, n, .inl (qS lo))), (a4, .inl (cI, 4, .inl (qS su))), (a5, .inl (cI, 4, .inl (qN da))), (a6, .inl (cI, 4, .inl (qS ch))), (a7, .inl (cI, 4, .inl (qS we)))]) [0, 1, 2, 3, 4, 5, 6, 7] rfl
  have hDc := hD.sub (ws' := [(h0, .inr (2, [.int (nI n), .ref a1, .ref a2, .ref a3, .ref a4, .ref a5, .ref a6, .ref a7])), (a1, .inl (cI, n, .inl (qS w))), (a2, .inl (cZ, n, .inl (qZ z))), (a3, .inl (cI, n, .inl (qS lo))), (a4, .inl (cI, 4, .inl (qS su))), (a5, .inl (cI, 4, .inl (qN da))), (a6, .inl (cI, 4, .inl (qS ch))), (a7, .inl (cI, 4, .inl (qS we)))]) [0, 1, 2, 3, 4, 5, 6, 7] (by decide) rfl
  have hKc := hK.sub (tys' := [(cI, .int), (cZ, .boolean)]) [0, 1] rfl
  have hFc := va_free (wc := [(h0, .inr (2, [.int (nI n), .ref a1, .ref a2, .ref a3, .ref a4, .ref a5, .ref a6, .ref a7])), (a1, .inl (cI, n, .inl (qS w))), (a2, .inl (cZ, n, .inl (qZ z))), (a3, .inl (cI, n, .inl (qS lo))), (a4, .inl (cI, 4, .inl (qS su))), (a5, .inl (cI, 4, .inl (qN da))), (a6, .inl (cI, 4, .inl (qS ch))), (a7, .inl (cI, 4, .inl (qS we)))]) hD hS hA [0, 1, 2, 3, 4, 5, 6, 7] rfl
  refine va_calli (va_runV (As := []) (rest := []) ⟨hx, hb, hml, hown, hts⟩ (qc_isWord l dC dI cI cZ h0 a1 a2 a3 a4 a5 a6 a7 n w z lo su da ch we s.heap.size (by omega)) (cwV 0 hts gX3_mendOne_X3_isWord rfl rfl rfl (by decide +kernel) ⟨Nat.le_of_ble_eq_true rfl, Nat.le_of_ble_eq_true rfl⟩) ⟨fun a U g mk q => by obtain ⟨q0, q1, qP, qK, qD⟩ := q; exact ⟨q0, q1, qP, va_K.moved (u := U) (U := U.calling g mk a) (Vm.Alike.refl U.vm) qK, qD⟩, (va_recv (q0 := 0) (ci := 2) hK hP rfl rfl), fun U hU hW => ⟨rfl, by rw [hU], by rw [hU]; exact hPc, va_K.moved hW.alike hKc, hDc.weaken (fun _ _ _ _ => trivial)⟩⟩ rfl rfl hl.1 rfl (lv_room (Nat.le_of_ble_eq_true rfl)) dX3_mendOne_1 ⟨Nat.le_of_ble_eq_true rfl, Nat.le_of_ble_eq_true rfl⟩) hS (fun q _ h => hFc q h) hFc (fun r1 u t H1 locs ht hvm hr1 hB hz1 hk1 hS => ?_)
  obtain ⟨hP1, hK1, hD1⟩ := hB
  rw [ht] at hP1
  have hP1 : va_P (dC, dI) vwCl [(h0, .inr (2, [.int (nI n), .ref a1, .ref a2, .ref a3, .ref a4, .ref a5, .ref a6, .ref a7])), (a1, .inl (cI, n, .inl (qS w))), (a2, .inl (cZ, n, .inl (qZ z))), (a3, .inl (cI, n, .inl (qS lo))), (a4, .inl (cI, 4, .inl (qS (qm_su n w su 4)))), (a5, .inl (cI, 4, .inl (qN da))), (a6, .inl (cI, 4, .inl (qS ch))), (a7, .inl (cI, 4, .inl (qS we)))] H1 := hP1
  obtain ⟨hP, hD⟩ := qj_join (wc := [(h0, .inr (2, [.int (nI n), .ref a1, .ref a2, .ref a3, .ref a4, .ref a5, .ref a6, .ref a7])), (a1, .inl (cI, n, .inl (qS w))), (a2, .inl (cZ, n, .inl (qZ z))), (a3, .inl (cI, n, .inl (qS lo))), (a4, .inl (cI, 4, .inl (qS su))), (a5, .inl (cI, 4, .inl (qN da))), (a6, .inl (cI, 4, .inl (qS ch))), (a7, .inl (cI, 4, .inl (qS we)))]) (w1 := [(h0, .inr (2, [.int (nI n), .ref a1, .ref a2, .ref a3, .ref a4, .ref a5, .ref a6, .ref a7])), (a1, .inl (cI, n, .inl (qS w))), (a2, .inl (cZ, n, .inl (qZ z))), (a3, .inl (cI, n, .inl (qS lo))), (a4, .inl (cI, 4, .inl (qS (qm_su n w su 4)))), (a5, .inl (cI, 4, .inl (qN da))), (a6, .inl (cI, 4, .inl (qS ch))), (a7, .inl (cI, 4, .inl (qS we)))]) hP hD [0, 1, 2, 3, 4, 5, 6, 7] rfl rfl hk1 hP1
  generalize H1 = H at hP hS ⊢
  have hP : va_P (dC, dI) vwCl [(h0, .inr (2, [.int (nI n), .ref a1, .ref a2, .ref a3, .ref a4, .ref a5, .ref a6, .ref a7])), (a1, .inl (cI, n, .inl (qS w))), (a2, .inl (cZ, n, .inl (qZ z))), (a3, .inl (cI, n, .inl (qS lo))), (a4, .inl (cI, 4, .inl (qS (qm_su n w su 4)))), (a5, .inl (cI, 4, .inl (qN da))), (a6, .inl (cI, 4, .inl (qS ch))), (a7, .inl (cI, 4, .inl (qS we)))] H := hP
  have hD : va_D A [(h0, .inr (2, [.int (nI n), .ref a1, .ref a2, .ref a3, .ref a4, .ref a5, .ref a6, .ref a7])), (a1, .inl (cI, n, .inl (qS w))), (a2, .inl (cZ, n, .inl (qZ z))), (a3, .inl (cI, n, .inl (qS lo))), (a4, .inl (cI, 4, .inl (qS (qm_su n w su 4)))), (a5, .inl (cI, 4, .inl (qN da))), (a6, .inl (cI, 4, .inl (qS ch))), (a7, .inl (cI, 4, .inl (qS we)))] := hD
  obtain ⟨v1, e1, hv1⟩ := hr1
  subst e1
  refine qr_ifeqZ (tgt := 9) hx hb dX3_mendOne_4 rfl  (fun b4 => ?_) (fun b4 => ?_)
  · refine lv_iconst (v := nI 0) hx hb dX3_mendOne_9 (by decide) ?_
    refine lv_istore_n (lv' := [(1, .int (nI 0)), (0, .ref h0)]) hx hb dX3_mendOne_10 rfl hl (by decide) rfl (fun ls hl => ?_)
    have lp11 : ∀ (j i : Nat), i + j = n → ∀  (ls : Array Slot) (H : Heap) (locs : List Loc), lv_has ls 2 [(0, .ref h0), (1, .int (nI i))] → va_P (dC, dI) vwCl [(h0, .inr (2, [.int (nI n), .ref a1, .ref a2, .ref a3, .ref a4, .ref a5, .ref a6, .ref a7])), (a1, .inl (cI, n, .inl (qS w))), (a2, .inl (cZ, n, .inl (qZ z))), (a3, .inl (cI, n, .inl (qS lo))), (a4, .inl (cI, 4, .inl (qS (qm_su n w su 4)))), (a5, .inl (cI, 4, .inl (qN da))), (a6, .inl (cI, 4, .inl (qS ch))), (a7, .inl (cI, 4, .inl (qS we)))] H → va_D A [(h0, .inr (2, [.int (nI n), .ref a1, .ref a2, .ref a3, .ref a4, .ref a5, .ref a6, .ref a7])), (a1, .inl (cI, n, .inl (qS w))), (a2, .inl (cZ, n, .inl (qZ z))), (a3, .inl (cI, n, .inl (qS lo))), (a4, .inl (cI, 4, .inl (qS (qm_su n w su 4)))), (a5, .inl (cI, 4, .inl (qN da))), (a6, .inl (cI, 4, .inl (qS ch))), (a7, .inl (cI, 4, .inl (qS we)))] → va_S A s.heap H locs → (∀ j, j < i → ¬ qk_F w j) → W p l e (headSpec wsX3_mendOne ({ frames := 3, cells := 0, slots := 0, locals := 69 } : Room)).room s m ([.ref h0] : List Value).toArray below meth c H locs 0 0 Q (F0 m 11 ls []) := by
      intro j
      induction j with
      | zero =>
        intro i hi  ls H locs hl hP hD hS hf
        have e9 : n = i := by omega
        subst e9
        refine lv_iload_n hx hb dX3_mendOne_11 rfl (lv_at hl 1 rfl) ?_
        refine lv_aload_n hx hb dX3_mendOne_12 rfl (lv_at hl 0 rfl) ?_
        refine va_get (D := (dC, dI)) (ci := 2) (v := .int (nI n)) (C := RX3) (T := TX3) (N := 8) hx hb hts i_X3 hown hK hP 0 rfl rfl 0 (by decide) k_9 (fun _ h9 => h9) rfl dX3_mendOne_13 ?_
        refine qr_ge (tgt := 50) hx hb dX3_mendOne_16 rfl (by omega) (by omega) (fun b16 => ?_) (fun h => absurd h (by omega))
        refine lv_iconst (v := zI false) hx hb dX3_mendOne_50 (by decide) ?_
        subst hQ
        exact W.zret hx hb hr (qr_narZ _) (fun t ht hW => ⟨⟨_, (w), rfl, ⟨false, rfl, fun h => Bool.noConfusion h, fun _ => ⟨rfl, Or.inr hf⟩⟩, by rw [ht]; exact hP, va_K.moved hW.alike hK, hD⟩, hS.F ht⟩) hS.2.2 dX3_mendOne_51
      | succ j ih =>
        intro i hi  ls H locs hl hP hD hS hf
        have li : i < n := by omega
        refine lv_iload_n hx hb dX3_mendOne_11 rfl (lv_at hl 1 rfl) ?_
        refine lv_aload_n hx hb dX3_mendOne_12 rfl (lv_at hl 0 rfl) ?_
        refine va_get (D := (dC, dI)) (ci := 2) (v := .int (nI n)) (C := RX3) (T := TX3) (N := 8) hx hb hts i_X3 hown hK hP 0 rfl rfl 0 (by decide) k_9 (fun _ h9 => h9) rfl dX3_mendOne_13 ?_
        refine qr_ge (tgt := 50) hx hb dX3_mendOne_16 rfl (by omega) (by omega) (fun h => absurd h (by omega)) (fun b16 => ?_)
        refine lv_aload_n hx hb dX3_mendOne_19 rfl (lv_at hl 0 rfl) ?_
        refine lv_iload_n hx hb dX3_mendOne_20 rfl (lv_at hl 1 rfl) ?_
        have hPc := hP.sub (ws' := [(h0, .inr (2, [.int (nI n), .ref a1, .ref a2, .ref a3, .ref a4, .ref a5, .ref a6, .ref a7])), (a1, .inl (cI, n, .inl (qS w))), (a2, .inl (cZ, n, .inl (qZ z))), (a3, .inl (cI, n, .inl (qS lo))), (a4, .inl (cI, 4, .inl (qS (qm_su n w su 4)))), (a5, .inl (cI, 4, .inl (qN da))), (a6, .inl (cI, 4, .inl (qS ch))), (a7, .inl (cI, 4, .inl (qS we)))]) [0, 1, 2, 3, 4, 5, 6, 7] rfl
        have hKc := hK.sub (tys' := [(cI, .int), (cZ, .boolean)]) [0, 1] rfl
        refine vp_callSi (va_Run.run (va_runV (As := [.int (nI i)]) (rest := []) ⟨hx, hb, hml, hown, hts⟩ (qc_isOnlyFault l dC dI cI cZ h0 a1 a2 a3 a4 a5 a6 a7 n w z lo (qm_su n w su 4) da ch we i (by omega) li) (cwV 1 hts gX3_mendOne_X3_isOnlyFault rfl rfl rfl (by decide +kernel) ⟨Nat.le_of_ble_eq_true rfl, Nat.le_of_ble_eq_true rfl⟩) ⟨fun a U g mk q => by obtain ⟨q0, qP, qK⟩ := q; exact ⟨q0, qP, va_K.moved (u := U) (U := U.calling g mk a) (Vm.Alike.refl U.vm) qK⟩, (va_recv (q0 := 0) (ci := 2) hK hP rfl rfl), fun U hU hW => ⟨rfl, by rw [hU]; exact hPc, va_K.moved hW.alike hKc⟩⟩ rfl rfl hl.1 rfl (lv_room (Nat.le_of_ble_eq_true rfl)) dX3_mendOne_21 ⟨Nat.le_of_ble_eq_true rfl, Nat.le_of_ble_eq_true rfl⟩)) (fun r21 hr21 => ?_)
        obtain ⟨v21, e21, hv21⟩ := hr21
        subst e21
        refine qr_ifeqZ (tgt := 44) hx hb dX3_mendOne_24 rfl  (fun b24 => ?_) (fun b24 => ?_)
        · refine lv_iinc (k := 1) (v := nI (i + 1)) (lv' := [(1, .int (nI (i + 1))), (0, .ref h0)]) hx hb dX3_mendOne_44 hl rfl (qr_inc _) (by decide) rfl (fun ls hl => ?_)
          refine lv_goto (tgt := 11) hx hb dX3_mendOne_47 rfl ?_
          have hl := lv_sub (l' := [(0, .ref h0), (1, .int (nI (i + 1)))]) hl [1, 0] rfl
          exact ih (i + 1) (by omega)  ls H _ (by exact hl) (by exact hP) (by exact hD) hS (lt_s hf (fun h => absurd (hv21.mpr (qm_F hn hlo (by omega) h)) (by rw [b24]; decide)))
        · refine lv_aload_n hx hb dX3_mendOne_27 rfl (lv_at hl 0 rfl) ?_
          refine va_get (D := (dC, dI)) (ci := 2) (v := .ref a1) (C := RX3) (T := TX3) (N := 8) hx hb hts i_X3 hown hK hP 0 rfl rfl 1 (by decide) k_15 (fun _ h9 => h9) rfl dX3_mendOne_28 ?_
          refine lv_iload_n hx hb dX3_mendOne_31 rfl (lv_at hl 1 rfl) ?_
          refine lv_dup2_11 hx hb dX3_mendOne_32 rfl rfl ?_
          refine qr_ildS hx hb hK hP 1 0 rfl rfl (by omega) (by omega) dX3_mendOne_33 ?_
          refine lv_aload_n hx hb dX3_mendOne_34 rfl (lv_at hl 0 rfl) ?_
          refine va_get (D := (dC, dI)) (ci := 2) (v := .ref a4) (C := RX3) (T := TX3) (N := 8) hx hb hts i_X3 hown hK hP 0 rfl rfl 4 (by decide) k_26 (fun _ h9 => h9) rfl dX3_mendOne_35 ?_
          refine lv_iconst (v := nI 0) hx hb dX3_mendOne_38 (by decide) ?_
          refine qr_ildS hx hb hK hP 4 0 rfl rfl (by omega) (by omega) dX3_mendOne_39 ?_
          refine qr_ixor (z := sI ((w i) ^^^ ((qm_su n w su 4) 0))) hx hb dX3_mendOne_40 (sI_xor _ _) ?_
          refine qr_istS (x := (w i) ^^^ ((qm_su n w su 4) 0)) hx hb hK hP hD hS 1 0 rfl rfl (by omega) (by omega) dX3_mendOne_41 (fun H locs hP hD hS => ?_)
          have hP : va_P (dC, dI) vwCl [(h0, .inr (2, [.int (nI n), .ref a1, .ref a2, .ref a3, .ref a4, .ref a5, .ref a6, .ref a7])), (a1, .inl (cI, n, .inl (qS (va_up w i ((w i) ^^^ ((qm_su n w su 4) 0)))))), (a2, .inl (cZ, n, .inl (qZ z))), (a3, .inl (cI, n, .inl (qS lo))), (a4, .inl (cI, 4, .inl (qS (qm_su n w su 4)))), (a5, .inl (cI, 4, .inl (qN da))), (a6, .inl (cI, 4, .inl (qS ch))), (a7, .inl (cI, 4, .inl (qS we)))] H := hP
          have hD : va_D A [(h0, .inr (2, [.int (nI n), .ref a1, .ref a2, .ref a3, .ref a4, .ref a5, .ref a6, .ref a7])), (a1, .inl (cI, n, .inl (qS (va_up w i ((w i) ^^^ ((qm_su n w su 4) 0)))))), (a2, .inl (cZ, n, .inl (qZ z))), (a3, .inl (cI, n, .inl (qS lo))), (a4, .inl (cI, 4, .inl (qS (qm_su n w su 4)))), (a5, .inl (cI, 4, .inl (qN da))), (a6, .inl (cI, 4, .inl (qS ch))), (a7, .inl (cI, 4, .inl (qS we)))] := hD
          refine lv_iconst (v := zI true) hx hb dX3_mendOne_42 (by decide) ?_
          subst hQ
          exact W.zret hx hb hr (qr_narZ _) (fun t ht hW => ⟨⟨_, (va_up w i ((w i) ^^^ ((qm_su n w su 4) 0))), rfl, ⟨true, rfl, fun _ => ⟨fun h => absurd (hv1.mpr h) (by rw [b4]; decide), i, li, qm_F2 hn hlo (by omega) (hv21.mp b24), hf, by rw [qm_su_at (by omega)]⟩, fun h => Bool.noConfusion h⟩, by rw [ht]; exact hP, va_K.moved hW.alike hK, hD⟩, hS.F ht⟩) hS.2.2 dX3_mendOne_43
    have hl := lv_sub (l' := [(0, .ref h0), (1, .int (nI 0))]) hl [1, 0] rfl
    exact lp11 n 0 (by omega)  ls H _ hl hP hD hS (fun _ h => absurd h (Nat.not_lt_zero _))
  · refine lv_iconst (v := zI false) hx hb dX3_mendOne_7 (by decide) ?_
    subst hQ
    exact W.zret hx hb hr (qr_narZ _) (fun t ht hW => ⟨⟨_, (w), rfl, ⟨false, rfl, fun h => Bool.noConfusion h, fun _ => ⟨rfl, Or.inl (hv1.mp b4)⟩⟩, by rw [ht]; exact hP, va_K.moved hW.alike hK, hD⟩, hS.F ht⟩) hS.2.2 dX3_mendOne_8
end
section
set_option maxHeartbeats 4000000 in
set_option maxRecDepth 100000 in
/-- Disc.has -/
theorem qc_has (l : Launch) (dC : Nat → ClassId) (dI : Nat → Nat → Nat) (cI : ClassId) (d0 d1 tw tr : Nat) (dd : Nat → BitVec 8) (x y : Int32)  : Met l yX0_has wsX0_has ({ frames := 0, cells := 0, slots := 0, locals := 0 } : Room) (va_Pc [.ref d0, .int x, .int y] (fun U => va_P (dC, dI) vwCl [(d0, .inr (0, [.ref d1, .int (nI tw), .int (nI tr)])), (d1, .inl (cI, 768, .inl (qS dd)))] U.heap ∧ va_K (dC, dI) vwCl [(cI, .int)] U)) (vp_Si (fun r => ∃ b : Bool, r = zI b ∧ (b = true ↔ (¬ x < 0 ∧ ¬ nI tw ≤ x ∧ ¬ y < 0 ∧ ¬ nI 16 ≤ y)))) 0 0 (fun _ => False) := by
  refine Met.ofW (cc := cX0_has) (maxL := 3) (ret := (some .boolean)) (by decide) rfl ?_
  intro p e s m args below meth c s₁ B hml hv
  obtain ⟨rfl, hP, hK⟩ := hv
  have hx := B.exec
  have hb := B.bytes
  have hr := B.returns
  have hts := atoms_spec (ws := wsX0_has) B.pre
  have hown : s.vm.findClass RX0 = some m.cls := findClass_of_methodNamed B.named
  have hlocks := B.notSynchronized
  have hP : va_P (dC, dI) vwCl [(d0, .inr (0, [.ref d1, .int (nI tw), .int (nI tr)])), (d1, .inl (cI, 768, .inl (qS dd)))] s.heap := hP
  have hl := lv_entry ([.ref d0, .int x, .int y]) (n := 3) (Nat.le_of_ble_eq_true rfl)
  rw [lg_entry_eq]
  generalize (lg_sl ([.ref d0, .int x, .int y]) ++ List.replicate (3 - (lg_sl ([.ref d0, .int x, .int y])).length) Slot.unset).toArray = ls at hl ⊢
  have hl : lv_has ls 3 [(0, .ref d0), (1, .int x), (2, .int y)] := hl
  have k_15 := hts (.fieldLink RX0 15 "DiscCoder$Disc" "rowsWritten" "I") (by decide +kernel)
  have i_X0 : ∀ w ∈ u_ws RX0 TX0 3, w ∈ wsX0_has := by decide +kernel
  refine qr_nm (fun Q hQ => ?_)
  refine lv_iload_n hx hb dX0_has_0 rfl (lv_at hl 1 rfl) ?_
  refine lv_if_lt (tgt := 26) hx hb dX0_has_1 rfl  (fun b1 => ?_) (fun b1 => ?_)
  · refine lv_iconst (v := zI false) hx hb dX0_has_26 (by decide) ?_
    subst hQ
    exact W.zret hx hb hr (qr_narZ _) (fun t ht hW => ⟨_, rfl, ⟨false, rfl, ⟨fun h => Bool.noConfusion h, fun h => absurd b1 (h.1)⟩⟩, ht⟩) (fun _ h => absurd h List.not_mem_nil) dX0_has_27
  · refine lv_iload_n hx hb dX0_has_4 rfl (lv_at hl 1 rfl) ?_
    refine lv_aload_n hx hb dX0_has_5 rfl (lv_at hl 0 rfl) ?_
    refine va_get (D := (dC, dI)) (ci := 0) (v := .int (nI tw)) (C := RX0) (T := TX0) (N := 3) hx hb hts i_X0 hown hK hP 0 rfl rfl 1 (by decide) k_15 (fun _ h9 => h9) rfl dX0_has_6 ?_
    refine lv_icmp_ge (tgt := 26) hx hb dX0_has_9 rfl  (fun b9 => ?_) (fun b9 => ?_)
    · refine lv_iconst (v := zI false) hx hb dX0_has_26 (by decide) ?_
      subst hQ
      exact W.zret hx hb hr (qr_narZ _) (fun t ht hW => ⟨_, rfl, ⟨false, rfl, ⟨fun h => Bool.noConfusion h, fun h => absurd b9 (h.2.1)⟩⟩, ht⟩) (fun _ h => absurd h List.not_mem_nil) dX0_has_27
    · refine lv_iload_n hx hb dX0_has_12 rfl (lv_at hl 2 rfl) ?_
      refine lv_if_lt (tgt := 26) hx hb dX0_has_13 rfl  (fun b13 => ?_) (fun b13 => ?_)
      · refine lv_iconst (v := zI false) hx hb dX0_has_26 (by decide) ?_
        subst hQ
        exact W.zret hx hb hr (qr_narZ _) (fun t ht hW => ⟨_, rfl, ⟨false, rfl, ⟨fun h => Bool.noConfusion h, fun h => absurd b13 (h.2.2.1)⟩⟩, ht⟩) (fun _ h => absurd h List.not_mem_nil) dX0_has_27
      · refine lv_iload_n hx hb dX0_has_16 rfl (lv_at hl 2 rfl) ?_
        refine lv_bipush (v := nI 16) hx hb dX0_has_17 (by decide) ?_
        refine lv_icmp_ge (tgt := 26) hx hb dX0_has_19 rfl  (fun b19 => ?_) (fun b19 => ?_)
        · refine lv_iconst (v := zI false) hx hb dX0_has_26 (by decide) ?_
          subst hQ
          exact W.zret hx hb hr (qr_narZ _) (fun t ht hW => ⟨_, rfl, ⟨false, rfl, ⟨fun h => Bool.noConfusion h, fun h => absurd b19 (h.2.2.2)⟩⟩, ht⟩) (fun _ h => absurd h List.not_mem_nil) dX0_has_27
        · refine lv_iconst (v := zI true) hx hb dX0_has_22 (by decide) ?_
          refine lv_goto (tgt := 27) hx hb dX0_has_23 rfl ?_
          subst hQ
          exact W.zret hx hb hr (qr_narZ _) (fun t ht hW => ⟨_, rfl, ⟨true, rfl, ⟨fun _ => ⟨b1, b9, b13, b19⟩, fun _ => rfl⟩⟩, ht⟩) (fun _ h => absurd h List.not_mem_nil) dX0_has_27
set_option maxHeartbeats 4000000 in
set_option maxRecDepth 100000 in
/-- Disc.turned -/
theorem qc_turned (l : Launch) (i : Nat) (v : BitVec 8) (hi : i < 16) : Met l yX0_turned wsX0_turned ({ frames := 0, cells := 0, slots := 0, locals := 0 } : Room) (va_Pc [.int (nI i), .int (sI v)] (fun _ => True)) (vp_Si (fun r => r = sI (qs_t i v))) 0 0 (fun _ => False) := by
  refine Met.ofW (cc := cX0_turned) (maxL := 2) (ret := (some .int)) (by decide) rfl ?_
  intro p e s m args below meth c s₁ B hml hv
  obtain ⟨rfl, -⟩ := hv
  have hx := B.exec
  have hb := B.bytes
  have hr := B.returns
  have hts := atoms_spec (ws := wsX0_turned) B.pre
  have hown : s.vm.findClass RX0 = some m.cls := findClass_of_methodNamed B.named
  have hlocks := B.notSynchronized
  have hl := lv_entry ([.int (nI i), .int (sI v)]) (n := 2) (Nat.le_of_ble_eq_true rfl)
  rw [lg_entry_eq]
  generalize (lg_sl ([.int (nI i), .int (sI v)]) ++ List.replicate (2 - (lg_sl ([.int (nI i), .int (sI v)])).length) Slot.unset).toArray = ls at hl ⊢
  have hl : lv_has ls 2 [(0, .int (nI i)), (1, .int (sI v))] := hl
  refine qr_nm (fun Q hQ => ?_)
  refine lv_iload_n hx hb dX0_turned_0 rfl (lv_at hl 0 rfl) ?_
  refine lv_bipush (v := nI 8) hx hb dX0_turned_1 (by decide) ?_
  refine qr_ge (tgt := 10) hx hb dX0_turned_3 rfl (by omega) (by omega) (fun b3 => ?_) (fun b3 => ?_)
  · refine lv_sipush (v := nI 255) hx hb dX0_turned_10 (by decide) ?_
    refine lv_iload_n hx hb dX0_turned_13 rfl (lv_at hl 1 rfl) ?_
    refine qr_isub (z := sI (255#8 ^^^ v)) hx hb dX0_turned_14 (qr_flip _) ?_
    subst hQ
    exact W.iret hx hb hr (fun t ht hW => ⟨_, rfl, congrArg sI (show _ = qs_t i v from (if_neg (by omega)).symm), ht⟩) (fun _ h => absurd h List.not_mem_nil) dX0_turned_15
  · refine lv_iload_n hx hb dX0_turned_6 rfl (lv_at hl 1 rfl) ?_
    refine lv_goto (tgt := 15) hx hb dX0_turned_7 rfl ?_
    subst hQ
    exact W.iret hx hb hr (fun t ht hW => ⟨_, rfl, congrArg sI (show _ = qs_t i v from (if_pos (by omega)).symm), ht⟩) (fun _ h => absurd h List.not_mem_nil) dX0_turned_15
set_option maxHeartbeats 4000000 in
set_option maxRecDepth 100000 in
/-- Disc.setPlain -/
theorem qc_set (l : Launch) (dC : Nat → ClassId) (dI : Nat → Nat → Nat) (cI : ClassId) (d0 d1 tw tr : Nat) (dd : Nat → BitVec 8) (x y : Nat) (v : BitVec 8) (sz : Nat) (hx0 : x < 48) (hy0 : y < 16) : Met l yX0_setPlain wsX0_setPlain ({ frames := 1, cells := 0, slots := 0, locals := 21 } : Room) (va_Pc [.ref d0, .int (nI x), .int (nI y), .int (sI v)] (fun U => U.heap.size = sz ∧ va_P (dC, dI) vwCl [(d0, .inr (0, [.ref d1, .int (nI tw), .int (nI tr)])), (d1, .inl (cI, 768, .inl (qS dd)))] U.heap ∧ va_K (dC, dI) vwCl [(cI, .int)] U ∧ va_D (fun _ => True) [(d0, .inr (0, [.ref d1, .int (nI tw), .int (nI tr)])), (d1, .inl (cI, 768, .inl (qS dd)))])) (va_Qv (fun (_ : Unit) => True) (fun _ t => va_P (dC, dI) vwCl [(d0, .inr (0, [.ref d1, .int (nI tw), .int (nI tr)])), (d1, .inl (cI, 768, .inl (qS (va_up dd (x * 16 + y) (qs_t y v)))))] t.heap ∧ va_K (dC, dI) vwCl [(cI, .int)] t ∧ va_D (va_A [(d0, .inr (0, [.ref d1, .int (nI tw), .int (nI tr)])), (d1, .inl (cI, 768, .inl (qS dd)))] sz) [(d0, .inr (0, [.ref d1, .int (nI tw), .int (nI tr)])), (d1, .inl (cI, 768, .inl (qS (va_up dd (x * 16 + y) (qs_t y v)))))]) (va_A [(d0, .inr (0, [.ref d1, .int (nI tw), .int (nI tr)])), (d1, .inl (cI, 768, .inl (qS dd)))] sz)) 0 0 (va_A [(d0, .inr (0, [.ref d1, .int (nI tw), .int (nI tr)])), (d1, .inl (cI, 768, .inl (qS dd)))] sz) := by
  refine Met.ofW (cc := cX0_setPlain) (maxL := 4) (ret := none) (by decide) rfl ?_
  intro p e s m args below meth c s₁ B hml hv
  obtain ⟨rfl, hsz, hP, hK, hD0⟩ := hv
  have hx := B.exec
  have hb := B.bytes
  have hr := B.returns
  have hts := atoms_spec (ws := wsX0_setPlain) B.pre
  have hown : s.vm.findClass RX0 = some m.cls := findClass_of_methodNamed B.named
  have hlocks := B.notSynchronized
  subst hsz
  have hD := hD0.self (sz := s.heap.size)
  generalize hAe : va_A [(d0, .inr (0, [.ref d1, .int (nI tw), .int (nI tr)])), (d1, .inl (cI, 768, .inl (qS dd)))] s.heap.size = A at hD ⊢
  have hA : ∀ q : Nat, s.heap.size ≤ q → A q := fun q h => by rw [← hAe]; exact Or.inr h
  have hS : va_S A s.heap s.heap [] := va_S.rf
  have hP : va_P (dC, dI) vwCl [(d0, .inr (0, [.ref d1, .int (nI tw), .int (nI tr)])), (d1, .inl (cI, 768, .inl (qS dd)))] s.heap := hP
  have hl := lv_entry ([.ref d0, .int (nI x), .int (nI y), .int (sI v)]) (n := 4) (Nat.le_of_ble_eq_true rfl)
  rw [lg_entry_eq]
  generalize (lg_sl ([.ref d0, .int (nI x), .int (nI y), .int (sI v)]) ++ List.replicate (4 - (lg_sl ([.ref d0, .int (nI x), .int (nI y), .int (sI v)])).length) Slot.unset).toArray = ls at hl ⊢
  have hl : lv_has ls 4 [(0, .ref d0), (1, .int (nI x)), (2, .int (nI y)), (3, .int (sI v))] := hl
  have k_9 := hts (.fieldLink RX0 9 "DiscCoder$Disc" "symbols" "[I") (by decide +kernel)
  have i_X0 : ∀ w ∈ u_ws RX0 TX0 3, w ∈ wsX0_setPlain := by decide +kernel
  refine qr_nm (fun Q hQ => ?_)
  refine lv_aload_n hx hb dX0_setPlain_0 rfl (lv_at hl 0 rfl) ?_
  refine va_get (D := (dC, dI)) (ci := 0) (v := .ref d1) (C := RX0) (T := TX0) (N := 3) hx hb hts i_X0 hown hK hP 0 rfl rfl 0 (by decide) k_9 (fun _ h9 => h9) rfl dX0_setPlain_1 ?_
  refine lv_iload_n hx hb dX0_setPlain_4 rfl (lv_at hl 1 rfl) ?_
  refine lv_bipush (v := nI 16) hx hb dX0_setPlain_5 (by decide) ?_
  refine qr_imul (z := nI (x * 16)) hx hb dX0_setPlain_7 (pk_mul _ _) ?_
  refine lv_iload_n hx hb dX0_setPlain_8 rfl (lv_at hl 2 rfl) ?_
  refine qr_iadd (z := nI ((x * 16) + y)) hx hb dX0_setPlain_9 (nI_add _ _) ?_
  refine lv_iload_n hx hb dX0_setPlain_10 rfl (lv_at hl 2 rfl) ?_
  refine lv_iload_n hx hb dX0_setPlain_11 rfl (lv_at hl 3 rfl) ?_
  refine vp_callSi (va_Run.run (va_runS (As := [.int (nI y), .int (sI v)]) (rest := [.int (nI ((x * 16) + y)), .ref d1]) ⟨hx, hb, hml, hown, hts⟩ (qc_turned l y v hy0) (va_cwS 2 hts gX0_setPlain_X0_turned rfl rfl rfl (by decide +kernel) ⟨Nat.le_of_ble_eq_true rfl, Nat.le_of_ble_eq_true rfl⟩) ⟨fun a U g mk q => q, fun U hU hW => ⟨rfl, trivial⟩⟩ rfl rfl hl.1 rfl (lv_room (Nat.le_of_ble_eq_true rfl)) dX0_setPlain_12 ⟨Nat.le_of_ble_eq_true rfl, Nat.le_of_ble_eq_true rfl⟩)) (fun r12 hr12 => ?_)
  have hr12 : r12 = sI (qs_t y v) := hr12
  subst hr12
  refine qr_istS (x := qs_t y v) hx hb hK hP hD hS 1 0 rfl rfl (by omega) (by omega) dX0_setPlain_15 (fun H locs hP hD hS => ?_)
  have hP : va_P (dC, dI) vwCl [(d0, .inr (0, [.ref d1, .int (nI tw), .int (nI tr)])), (d1, .inl (cI, 768, .inl (qS (va_up dd ((x * 16) + y) (qs_t y v)))))] H := hP
  have hD : va_D A [(d0, .inr (0, [.ref d1, .int (nI tw), .int (nI tr)])), (d1, .inl (cI, 768, .inl (qS (va_up dd ((x * 16) + y) (qs_t y v)))))] := hD
  subst hQ
  exact W.vret hx hb hr (fun t ht hW => ⟨⟨(), rfl, trivial, by rw [ht]; exact hP, va_K.moved hW.alike hK, hD⟩, hS.F ht⟩) hS.2.2 dX0_setPlain_16
set_option maxHeartbeats 4000000 in
set_option maxRecDepth 100000 in
/-- Disc.getPlain on a row -/
theorem qc_get (l : Launch) (dC : Nat → ClassId) (dI : Nat → Nat → Nat) (cI : ClassId) (d0 d1 tw tr : Nat) (dd : Nat → BitVec 8) (x y : Nat) (hx0 : x < tw) (htw : tw ≤ 48) (hy0 : y < 16) : Met l yX0_getPlain wsX0_getPlain ({ frames := 1, cells := 0, slots := 0, locals := 22 } : Room) (va_Pc [.ref d0, .int (nI x), .int (nI y)] (fun U => va_P (dC, dI) vwCl [(d0, .inr (0, [.ref d1, .int (nI tw), .int (nI tr)])), (d1, .inl (cI, 768, .inl (qS dd)))] U.heap ∧ va_K (dC, dI) vwCl [(cI, .int)] U)) (vp_Si (fun r => r = sI (qs_t y (dd (x * 16 + y))))) 0 0 (fun _ => False) := by
  refine Met.ofW (cc := cX0_getPlain) (maxL := 3) (ret := (some .int)) (by decide) rfl ?_
  intro p e s m args below meth c s₁ B hml hv
  obtain ⟨rfl, hP, hK⟩ := hv
  have hx := B.exec
  have hb := B.bytes
  have hr := B.returns
  have hts := atoms_spec (ws := wsX0_getPlain) B.pre
  have hown : s.vm.findClass RX0 = some m.cls := findClass_of_methodNamed B.named
  have hlocks := B.notSynchronized
  have hP : va_P (dC, dI) vwCl [(d0, .inr (0, [.ref d1, .int (nI tw), .int (nI tr)])), (d1, .inl (cI, 768, .inl (qS dd)))] s.heap := hP
  have hl := lv_entry ([.ref d0, .int (nI x), .int (nI y)]) (n := 3) (Nat.le_of_ble_eq_true rfl)
  rw [lg_entry_eq]
  generalize (lg_sl ([.ref d0, .int (nI x), .int (nI y)]) ++ List.replicate (3 - (lg_sl ([.ref d0, .int (nI x), .int (nI y)])).length) Slot.unset).toArray = ls at hl ⊢
  have hl : lv_has ls 3 [(0, .ref d0), (1, .int (nI x)), (2, .int (nI y))] := hl
  have k_9 := hts (.fieldLink RX0 9 "DiscCoder$Disc" "symbols" "[I") (by decide +kernel)
  have i_X0 : ∀ w ∈ u_ws RX0 TX0 3, w ∈ wsX0_getPlain := by decide +kernel
  refine qr_nm (fun Q hQ => ?_)
  refine lv_aload_n hx hb dX0_getPlain_0 rfl (lv_at hl 0 rfl) ?_
  refine lv_iload_n hx hb dX0_getPlain_1 rfl (lv_at hl 1 rfl) ?_
  refine lv_iload_n hx hb dX0_getPlain_2 rfl (lv_at hl 2 rfl) ?_
  have hPc := hP.sub (ws' := [(d0, .inr (0, [.ref d1, .int (nI tw), .int (nI tr)])), (d1, .inl (cI, 768, .inl (qS dd)))]) [0, 1] rfl
  have hKc := hK.sub (tys' := [(cI, .int)]) [0] rfl
  refine vp_callSi (va_Run.run (va_runV (As := [.int (nI x), .int (nI y)]) (rest := []) ⟨hx, hb, hml, hown, hts⟩ (qc_has l dC dI cI d0 d1 tw tr dd (nI x) (nI y) ) (cwV 2 hts gX0_getPlain_X0_has rfl rfl rfl (by decide +kernel) ⟨Nat.le_of_ble_eq_true rfl, Nat.le_of_ble_eq_true rfl⟩) ⟨fun a U g mk q => by obtain ⟨q0, qP, qK⟩ := q; exact ⟨q0, qP, va_K.moved (u := U) (U := U.calling g mk a) (Vm.Alike.refl U.vm) qK⟩, (va_recv (q0 := 0) (ci := 0) hK hP rfl rfl), fun U hU hW => ⟨rfl, by rw [hU]; exact hPc, va_K.moved hW.alike hKc⟩⟩ rfl rfl hl.1 rfl (lv_room (Nat.le_of_ble_eq_true rfl)) dX0_getPlain_3 ⟨Nat.le_of_ble_eq_true rfl, Nat.le_of_ble_eq_true rfl⟩)) (fun r3 hr3 => ?_)
  obtain ⟨v3, e3, hv3⟩ := hr3
  subst e3
  refine qr_ifeqZ (tgt := 27) hx hb dX0_getPlain_6 rfl  (fun h => absurd (hv3.mpr (qs_has hx0 htw hy0)) (by rw [h]; decide)) (fun b6 => ?_)
  refine lv_iload_n hx hb dX0_getPlain_9 rfl (lv_at hl 2 rfl) ?_
  refine lv_aload_n hx hb dX0_getPlain_10 rfl (lv_at hl 0 rfl) ?_
  refine va_get (D := (dC, dI)) (ci := 0) (v := .ref d1) (C := RX0) (T := TX0) (N := 3) hx hb hts i_X0 hown hK hP 0 rfl rfl 0 (by decide) k_9 (fun _ h9 => h9) rfl dX0_getPlain_11 ?_
  refine lv_iload_n hx hb dX0_getPlain_14 rfl (lv_at hl 1 rfl) ?_
  refine lv_bipush (v := nI 16) hx hb dX0_getPlain_15 (by decide) ?_
  refine qr_imul (z := nI (x * 16)) hx hb dX0_getPlain_17 (pk_mul _ _) ?_
  refine lv_iload_n hx hb dX0_getPlain_18 rfl (lv_at hl 2 rfl) ?_
  refine qr_iadd (z := nI ((x * 16) + y)) hx hb dX0_getPlain_19 (nI_add _ _) ?_
  refine qr_ildS hx hb hK hP 1 0 rfl rfl (by omega) (by omega) dX0_getPlain_20 ?_
  refine vp_callSi (va_Run.run (va_runS (As := [.int (nI y), .int (sI (dd ((x * 16) + y)))]) (rest := []) ⟨hx, hb, hml, hown, hts⟩ (qc_turned l y (dd ((x * 16) + y)) hy0) (va_cwS 2 hts gX0_getPlain_X0_turned rfl rfl rfl (by decide +kernel) ⟨Nat.le_of_ble_eq_true rfl, Nat.le_of_ble_eq_true rfl⟩) ⟨fun a U g mk q => q, fun U hU hW => ⟨rfl, trivial⟩⟩ rfl rfl hl.1 rfl (lv_room (Nat.le_of_ble_eq_true rfl)) dX0_getPlain_21 ⟨Nat.le_of_ble_eq_true rfl, Nat.le_of_ble_eq_true rfl⟩)) (fun r21 hr21 => ?_)
  have hr21 : r21 = sI (qs_t y (dd ((x * 16) + y))) := hr21
  subst hr21
  refine lv_goto (tgt := 28) hx hb dX0_getPlain_24 rfl ?_
  subst hQ
  exact W.iret hx hb hr (fun t ht hW => ⟨_, rfl, rfl, ht⟩) (fun _ h => absurd h List.not_mem_nil) dX0_getPlain_28
set_option maxHeartbeats 4000000 in
set_option maxRecDepth 100000 in
/-- Disc.getPlain ahead of the first row -/
theorem qc_getNeg (l : Launch) (dC : Nat → ClassId) (dI : Nat → Nat → Nat) (cI : ClassId) (d0 d1 tw tr : Nat) (dd : Nat → BitVec 8) (x : Int32) (y : Nat) (hx0 : x < 0) (hy0 : y < 16) : Met l yX0_getPlain wsX0_getPlain ({ frames := 1, cells := 0, slots := 0, locals := 22 } : Room) (va_Pc [.ref d0, .int x, .int (nI y)] (fun U => va_P (dC, dI) vwCl [(d0, .inr (0, [.ref d1, .int (nI tw), .int (nI tr)])), (d1, .inl (cI, 768, .inl (qS dd)))] U.heap ∧ va_K (dC, dI) vwCl [(cI, .int)] U)) (vp_Si (fun r => r = sI 0#8)) 0 0 (fun _ => False) := by
  refine Met.ofW (cc := cX0_getPlain) (maxL := 3) (ret := (some .int)) (by decide) rfl ?_
  intro p e s m args below meth c s₁ B hml hv
  obtain ⟨rfl, hP, hK⟩ := hv
  have hx := B.exec
  have hb := B.bytes
  have hr := B.returns
  have hts := atoms_spec (ws := wsX0_getPlain) B.pre
  have hown : s.vm.findClass RX0 = some m.cls := findClass_of_methodNamed B.named
  have hlocks := B.notSynchronized
  have hP : va_P (dC, dI) vwCl [(d0, .inr (0, [.ref d1, .int (nI tw), .int (nI tr)])), (d1, .inl (cI, 768, .inl (qS dd)))] s.heap := hP
  have hl := lv_entry ([.ref d0, .int x, .int (nI y)]) (n := 3) (Nat.le_of_ble_eq_true rfl)
  rw [lg_entry_eq]
  generalize (lg_sl ([.ref d0, .int x, .int (nI y)]) ++ List.replicate (3 - (lg_sl ([.ref d0, .int x, .int (nI y)])).length) Slot.unset).toArray = ls at hl ⊢
  have hl : lv_has ls 3 [(0, .ref d0), (1, .int x), (2, .int (nI y))] := hl
  have k_9 := hts (.fieldLink RX0 9 "DiscCoder$Disc" "symbols" "[I") (by decide +kernel)
  have i_X0 : ∀ w ∈ u_ws RX0 TX0 3, w ∈ wsX0_getPlain := by decide +kernel
  refine qr_nm (fun Q hQ => ?_)
  refine lv_aload_n hx hb dX0_getPlain_0 rfl (lv_at hl 0 rfl) ?_
  refine lv_iload_n hx hb dX0_getPlain_1 rfl (lv_at hl 1 rfl) ?_
  refine lv_iload_n hx hb dX0_getPlain_2 rfl (lv_at hl 2 rfl) ?_
  have hPc := hP.sub (ws' := [(d0, .inr (0, [.ref d1, .int (nI tw), .int (nI tr)])), (d1, .inl (cI, 768, .inl (qS dd)))]) [0, 1] rfl
  have hKc := hK.sub (tys' := [(cI, .int)]) [0] rfl
  refine vp_callSi (va_Run.run (va_runV (As := [.int x, .int (nI y)]) (rest := []) ⟨hx, hb, hml, hown, hts⟩ (qc_has l dC dI cI d0 d1 tw tr dd x (nI y) ) (cwV 2 hts gX0_getPlain_X0_has rfl rfl rfl (by decide +kernel) ⟨Nat.le_of_ble_eq_true rfl, Nat.le_of_ble_eq_true rfl⟩) ⟨fun a U g mk q => by obtain ⟨q0, qP, qK⟩ := q; exact ⟨q0, qP, va_K.moved (u := U) (U := U.calling g mk a) (Vm.Alike.refl U.vm) qK⟩, (va_recv (q0 := 0) (ci := 0) hK hP rfl rfl), fun U hU hW => ⟨rfl, by rw [hU]; exact hPc, va_K.moved hW.alike hKc⟩⟩ rfl rfl hl.1 rfl (lv_room (Nat.le_of_ble_eq_true rfl)) dX0_getPlain_3 ⟨Nat.le_of_ble_eq_true rfl, Nat.le_of_ble_eq_true rfl⟩)) (fun r3 hr3 => ?_)
  obtain ⟨v3, e3, hv3⟩ := hr3
  subst e3
  refine qr_ifeqZ (tgt := 27) hx hb dX0_getPlain_6 rfl  (fun b6 => ?_) (fun h => absurd hx0 (hv3.mp h).1)
  refine lv_iconst (v := sI 0#8) hx hb dX0_getPlain_27 (by decide) ?_
  subst hQ
  exact W.iret hx hb hr (fun t ht hW => ⟨_, rfl, rfl, ht⟩) (fun _ h => absurd h List.not_mem_nil) dX0_getPlain_28
end
section
set_option maxHeartbeats 4000000 in
set_option maxRecDepth 100000 in
/-- Writer.makeInner -/
theorem qc_mkIn (l : Launch) (dC : Nat → ClassId) (dI : Nat → Nat → Nat) (cI cZ cG : ClassId) (x0 i0 i1 i2 i3 i4 i5 i6 i7 o0 o1 o2 o3 o4 o5 o6 o7 d0 d1 w0 w1 w2 r0 r1 r2 r3 r4 tw tr me du fi le : Nat) (ra rb : Nat → Nat) (yi : Nat → BitVec 8) (zi : Nat → Bool) (lin si : Nat → BitVec 8) (ai : Nat → Nat) (ci vi : Nat → BitVec 8) (yo : Nat → BitVec 8) (zo : Nat → Bool) (lou so : Nat → BitVec 8) (ao : Nat → Nat) (co vo : Nat → BitVec 8) (dd ob : Nat → BitVec 8) (od : Nat → Bool) (ou : Nat → BitVec 8) (lt : Nat → Bool) (IW OW : Nat → Nat → BitVec 8) (x : Nat) (v : Int64) (sz : Nat) (hli : ∀ i, i < 12 → lin i = qw_X 12 i) (hlo : ∀ i, i < 16 → lou i = qw_X 16 i) (hx0 : x < 48) : Met l yX4_makeInner wsX4_makeInner ({ frames := 5, cells := 0, slots := 0, locals := 116 } : Room) (va_Pc [.ref w0, .int (nI x), .long v] (fun U => U.heap.size = sz ∧ va_P (dC, dI) vwCl (qW2 [(x0, .inr (4, [.ref i0, .ref d0, .ref w0, .ref r0])), (i0, .inr (2, [.int (nI 12), .ref i1, .ref i2, .ref i3, .ref i4, .ref i5, .ref i6, .ref i7])), (i1, .inl (cI, 12, .inl (qS yi))), (i2, .inl (cZ, 12, .inl (qZ zi))), (i3, .inl (cI, 12, .inl (qS lin))), (i4, .inl (cI, 4, .inl (qS si))), (i5, .inl (cI, 4, .inl (qN ai))), (i6, .inl (cI, 4, .inl (qS ci))), (i7, .inl (cI, 4, .inl (qS vi))), (o0, .inr (2, [.int (nI 16), .ref o1, .ref o2, .ref o3, .ref o4, .ref o5, .ref o6, .ref o7])), (o1, .inl (cI, 16, .inl (qS yo))), (o2, .inl (cZ, 16, .inl (qZ zo))), (o3, .inl (cI, 16, .inl (qS lou))), (o4, .inl (cI, 4, .inl (qS so))), (o5, .inl (cI, 4, .inl (qN ao))), (o6, .inl (cI, 4, .inl (qS co))), (o7, .inl (cI, 4, .inl (qS vo))), (d0, .inr (0, [.ref d1, .int (nI tw), .int (nI tr)])), (d1, .inl (cI, 768, .inl (qS dd))), (w0, .inr (3, [.ref d0, .ref i0, .ref o0, .ref w1, .ref w2])), (w1, .inl (cG, 48, .inr (.inr (.inr (.inr (fun i => some (ra i))))))), (w2, .inl (cI, 16, .inl (qS ob))), (r0, .inr (1, [.ref d0, .ref i0, .ref o0, .ref r1, .ref r2, .ref r3, .ref r4, .int (nI me), .int (nI du), .int (nI fi), .int (nI le)])), (r1, .inl (cG, 48, .inr (.inr (.inr (.inr (fun i => some (rb i))))))), (r2, .inl (cZ, 48, .inl (qZ od))), (r3, .inl (cI, 384, .inl (qS ou))), (r4, .inl (cZ, 48, .inl (qZ lt)))] (qP cI ra IW) (qP cI rb OW)) U.heap ∧ va_K (dC, dI) vwCl [(cI, .int), (cZ, .boolean), (cG, .array .int)] U ∧ va_D (fun _ => True) (qW2 [(x0, .inr (4, [.ref i0, .ref d0, .ref w0, .ref r0])), (i0, .inr (2, [.int (nI 12), .ref i1, .ref i2, .ref i3, .ref i4, .ref i5, .ref i6, .ref i7])), (i1, .inl (cI, 12, .inl (qS yi))), (i2, .inl (cZ, 12, .inl (qZ zi))), (i3, .inl (cI, 12, .inl (qS lin))), (i4, .inl (cI, 4, .inl (qS si))), (i5, .inl (cI, 4, .inl (qN ai))), (i6, .inl (cI, 4, .inl (qS ci))), (i7, .inl (cI, 4, .inl (qS vi))), (o0, .inr (2, [.int (nI 16), .ref o1, .ref o2, .ref o3, .ref o4, .ref o5, .ref o6, .ref o7])), (o1, .inl (cI, 16, .inl (qS yo))), (o2, .inl (cZ, 16, .inl (qZ zo))), (o3, .inl (cI, 16, .inl (qS lou))), (o4, .inl (cI, 4, .inl (qS so))), (o5, .inl (cI, 4, .inl (qN ao))), (o6, .inl (cI, 4, .inl (qS co))), (o7, .inl (cI, 4, .inl (qS vo))), (d0, .inr (0, [.ref d1, .int (nI tw), .int (nI tr)])), (d1, .inl (cI, 768, .inl (qS dd))), (w0, .inr (3, [.ref d0, .ref i0, .ref o0, .ref w1, .ref w2])), (w1, .inl (cG, 48, .inr (.inr (.inr (.inr (fun i => some (ra i))))))), (w2, .inl (cI, 16, .inl (qS ob))), (r0, .inr (1, [.ref d0, .ref i0, .ref o0, .ref r1, .ref r2, .ref r3, .ref r4, .int (nI me), .int (nI du), .int (nI fi), .int (nI le)])), (r1, .inl (cG, 48, .inr (.inr (.inr (.inr (fun i => some (rb i))))))), (r2, .inl (cZ, 48, .inl (qZ od))), (r3, .inl (cI, 384, .inl (qS ou))), (r4, .inl (cZ, 48, .inl (qZ lt)))] (qP cI ra IW) (qP cI rb OW)) ∧ qn_N U)) (va_Qv (fun (u : (Nat → BitVec 8) × (Nat → Bool) × (Nat → BitVec 8) × (Nat → Nat) × (Nat → BitVec 8) × (Nat → BitVec 8)) => True) (fun u t => va_P (dC, dI) vwCl (qW2 [(x0, .inr (4, [.ref i0, .ref d0, .ref w0, .ref r0])), (i0, .inr (2, [.int (nI 12), .ref i1, .ref i2, .ref i3, .ref i4, .ref i5, .ref i6, .ref i7])), (i1, .inl (cI, 12, .inl (qS u.1))), (i2, .inl (cZ, 12, .inl (qZ u.2.1))), (i3, .inl (cI, 12, .inl (qS lin))), (i4, .inl (cI, 4, .inl (qS u.2.2.1))), (i5, .inl (cI, 4, .inl (qN u.2.2.2.1))), (i6, .inl (cI, 4, .inl (qS u.2.2.2.2.1))), (i7, .inl (cI, 4, .inl (qS u.2.2.2.2.2))), (o0, .inr (2, [.int (nI 16), .ref o1, .ref o2, .ref o3, .ref o4, .ref o5, .ref o6, .ref o7])), (o1, .inl (cI, 16, .inl (qS yo))), (o2, .inl (cZ, 16, .inl (qZ zo))), (o3, .inl (cI, 16, .inl (qS lou))), (o4, .inl (cI, 4, .inl (qS so))), (o5, .inl (cI, 4, .inl (qN ao))), (o6, .inl (cI, 4, .inl (qS co))), (o7, .inl (cI, 4, .inl (qS vo))), (d0, .inr (0, [.ref d1, .int (nI tw), .int (nI tr)])), (d1, .inl (cI, 768, .inl (qS dd))), (w0, .inr (3, [.ref d0, .ref i0, .ref o0, .ref w1, .ref w2])), (w1, .inl (cG, 48, .inr (.inr (.inr (.inr (fun i => some (ra i))))))), (w2, .inl (cI, 16, .inl (qS ob))), (r0, .inr (1, [.ref d0, .ref i0, .ref o0, .ref r1, .ref r2, .ref r3, .ref r4, .int (nI me), .int (nI du), .int (nI fi), .int (nI le)])), (r1, .inl (cG, 48, .inr (.inr (.inr (.inr (fun i => some (rb i))))))), (r2, .inl (cZ, 48, .inl (qZ od))), (r3, .inl (cI, 384, .inl (qS ou))), (r4, .inl (cZ, 48, .inl (qZ lt)))] (qP cI ra (va_up IW x (qs_iw v))) (qP cI rb OW)) t.heap ∧ va_K (dC, dI) vwCl [(cI, .int), (cZ, .boolean), (cG, .array .int)] t ∧ va_D (va_A (qW2 [(x0, .inr (4, [.ref i0, .ref d0, .ref w0, .ref r0])), (i0, .inr (2, [.int (nI 12), .ref i1, .ref i2, .ref i3, .ref i4, .ref i5, .ref i6, .ref i7])), (i1, .inl (cI, 12, .inl (qS yi))), (i2, .inl (cZ, 12, .inl (qZ zi))), (i3, .inl (cI, 12, .inl (qS lin))), (i4, .inl (cI, 4, .inl (qS si))), (i5, .inl (cI, 4, .inl (qN ai))), (i6, .inl (cI, 4, .inl (qS ci))), (i7, .inl (cI, 4, .inl (qS vi))), (o0, .inr (2, [.int (nI 16), .ref o1, .ref o2, .ref o3, .ref o4, .ref o5, .ref o6, .ref o7])), (o1, .inl (cI, 16, .inl (qS yo))), (o2, .inl (cZ, 16, .inl (qZ zo))), (o3, .inl (cI, 16, .inl (qS lou))), (o4, .inl (cI, 4, .inl (qS so))), (o5, .inl (cI, 4, .inl (qN ao))), (o6, .inl (cI, 4, .inl (qS co))), (o7, .inl (cI, 4, .inl (qS vo))), (d0, .inr (0, [.ref d1, .int (nI tw), .int (nI tr)])), (d1, .inl (cI, 768, .inl (qS dd))), (w0, .inr (3, [.ref d0, .ref i0, .ref o0, .ref w1, .ref w2])), (w1, .inl (cG, 48, .inr (.inr (.inr (.inr (fun i => some (ra i))))))), (w2, .inl (cI, 16, .inl (qS ob))), (r0, .inr (1, [.ref d0, .ref i0, .ref o0, .ref r1, .ref r2, .ref r3, .ref r4, .int (nI me), .int (nI du), .int (nI fi), .int (nI le)])), (r1, .inl (cG, 48, .inr (.inr (.inr (.inr (fun i => some (rb i))))))), (r2, .inl (cZ, 48, .inl (qZ od))), (r3, .inl (cI, 384, .inl (qS ou))), (r4, .inl (cZ, 48, .inl (qZ lt)))] (qP cI ra IW) (qP cI rb OW)) sz) (qW2 [(x0, .inr (4, [.ref i0, .ref d0, .ref w0, .ref r0])), (i0, .inr (2, [.int (nI 12), .ref i1, .ref i2, .ref i3, .ref i4, .ref i5, .ref i6, .ref i7])), (i1, .inl (cI, 12, .inl (qS u.1))), (i2, .inl (cZ, 12, .inl (qZ u.2.1))), (i3, .inl (cI, 12, .inl (qS lin))), (i4, .inl (cI, 4, .inl (qS u.2.2.1))), (i5, .inl (cI, 4, .inl (qN u.2.2.2.1))), (i6, .inl (cI, 4, .inl (qS u.2.2.2.2.1))), (i7, .inl (cI, 4, .inl (qS u.2.2.2.2.2))), (o0, .inr (2, [.int (nI 16), .ref o1, .ref o2, .ref o3, .ref o4, .ref o5, .ref o6, .ref o7])), (o1, .inl (cI, 16, .inl (qS yo))), (o2, .inl (cZ, 16, .inl (qZ zo))), (o3, .inl (cI, 16, .inl (qS lou))), (o4, .inl (cI, 4, .inl (qS so))), (o5, .inl (cI, 4, .inl (qN ao))), (o6, .inl (cI, 4, .inl (qS co))), (o7, .inl (cI, 4, .inl (qS vo))), (d0, .inr (0, [.ref d1, .int (nI tw), .int (nI tr)])), (d1, .inl (cI, 768, .inl (qS dd))), (w0, .inr (3, [.ref d0, .ref i0, .ref o0, .ref w1, .ref w2])), (w1, .inl (cG, 48, .inr (.inr (.inr (.inr (fun i => some (ra i))))))), (w2, .inl (cI, 16, .inl (qS ob))), (r0, .inr (1, [.ref d0, .ref i0, .ref o0, .ref r1, .ref r2, .ref r3, .ref r4, .int (nI me), .int (nI du), .int (nI fi), .int (nI le)])), (r1, .inl (cG, 48, .inr (.inr (.inr (.inr (fun i => some (rb i))))))), (r2, .inl (cZ, 48, .inl (qZ od))), (r3, .inl (cI, 384, .inl (qS ou))), (r4, .inl (cZ, 48, .inl (qZ lt)))] (qP cI ra (va_up IW x (qs_iw v))) (qP cI rb OW))) (va_A (qW2 [(x0, .inr (4, [.ref i0, .ref d0, .ref w0, .ref r0])), (i0, .inr (2, [.int (nI 12), .ref i1, .ref i2, .ref i3, .ref i4, .ref i5, .ref i6, .ref i7])), (i1, .inl (cI, 12, .inl (qS yi))), (i2, .inl (cZ, 12, .inl (qZ zi))), (i3, .inl (cI, 12, .inl (qS lin))), (i4, .inl (cI, 4, .inl (qS si))), (i5, .inl (cI, 4, .inl (qN ai))), (i6, .inl (cI, 4, .inl (qS ci))), (i7, .inl (cI, 4, .inl (qS vi))), (o0, .inr (2, [.int (nI 16), .ref o1, .ref o2, .ref o3, .ref o4, .ref o5, .ref o6, .ref o7])), (o1, .inl (cI, 16, .inl (qS yo))), (o2, .inl (cZ, 16, .inl (qZ zo))), (o3, .inl (cI, 16, .inl (qS lou))), (o4, .inl (cI, 4, .inl (qS so))), (o5, .inl (cI, 4, .inl (qN ao))), (o6, .inl (cI, 4, .inl (qS co))), (o7, .inl (cI, 4, .inl (qS vo))), (d0, .inr (0, [.ref d1, .int (nI tw), .int (nI tr)])), (d1, .inl (cI, 768, .inl (qS dd))), (w0, .inr (3, [.ref d0, .ref i0, .ref o0, .ref w1, .ref w2])), (w1, .inl (cG, 48, .inr (.inr (.inr (.inr (fun i => some (ra i))))))), (w2, .inl (cI, 16, .inl (qS ob))), (r0, .inr (1, [.ref d0, .ref i0, .ref o0, .ref r1, .ref r2, .ref r3, .ref r4, .int (nI me), .int (nI du), .int (nI fi), .int (nI le)])), (r1, .inl (cG, 48, .inr (.inr (.inr (.inr (fun i => some (rb i))))))), (r2, .inl (cZ, 48, .inl (qZ od))), (r3, .inl (cI, 384, .inl (qS ou))), (r4, .inl (cZ, 48, .inl (qZ lt)))] (qP cI ra IW) (qP cI rb OW)) sz)) 0 0 (va_A (qW2 [(x0, .inr (4, [.ref i0, .ref d0, .ref w0, .ref r0])), (i0, .inr (2, [.int (nI 12), .ref i1, .ref i2, .ref i3, .ref i4, .ref i5, .ref i6, .ref i7])), (i1, .inl (cI, 12, .inl (qS yi))), (i2, .inl (cZ, 12, .inl (qZ zi))), (i3, .inl (cI, 12, .inl (qS lin))), (i4, .inl (cI, 4, .inl (qS si))), (i5, .inl (cI, 4, .inl (qN ai))), (i6, .inl (cI, 4, .inl (qS ci))), (i7, .inl (cI, 4, .inl (qS vi))), (o0, .inr (2, [.int (nI 16), .ref o1, .ref o2, .ref o3, .ref o4, .ref o5, .ref o6, .ref o7])), (o1, .inl (cI, 16, .inl (qS yo))), (o2, .inl (cZ, 16, .inl (qZ zo))), (o3, .inl (cI, 16, .inl (qS lou))), (o4, .inl (cI, 4, .inl (qS so))), (o5, .inl (cI, 4, .inl (qN ao))), (o6, .inl (cI, 4, .inl (qS co))), (o7, .inl (cI, 4, .inl (qS vo))), (d0, .inr (0, [.ref d1, .int (nI tw), .int (nI tr)])), (d1, .inl (cI, 768, .inl (qS dd))), (w0, .inr (3, [.ref d0, .ref i0, .ref o0, .ref w1, .ref w2])), (w1, .inl (cG, 48, .inr (.inr (.inr (.inr (fun i => some (ra i))))))), (w2, .inl (cI, 16, .inl (qS ob))), (r0, .inr (1, [.ref d0, .ref i0, .ref o0, .ref r1, .ref r2, .ref r3, .ref r4, .int (nI me), .int (nI du), .int (nI fi), .int (nI le)])), (r1, .inl (cG, 48, .inr (.inr (.inr (.inr (fun i => some (rb i))))))), (r2, .inl (cZ, 48, .inl (qZ od))), (r3, .inl (cI, 384, .inl (qS ou))), (r4, .inl (cZ, 48, .inl (qZ lt)))] (qP cI ra IW) (qP cI rb OW)) sz) := by
  refine Met.ofW (cc := cX4_makeInner) (maxL := 5) (ret := none) (by decide) rfl ?_
  intro p e s m args below meth c s₁ B hml hv
  obtain ⟨rfl, hsz, hP, hK, hD0, hN⟩ := hv
  have hx := B.exec
  have hb := B.bytes
  have hr := B.returns
  have hts := atoms_spec (ws := wsX4_makeInner) B.pre
  have hown : s.vm.findClass RX4 = some m.cls := findClass_of_methodNamed B.named
  have hlocks := B.notSynchronized
  subst hsz
  have hD := hD0.self (sz := s.heap.size)
  generalize hAe : va_A (qW2 [(x0, .inr (4, [.ref i0, .ref d0, .ref w0, .ref r0])), (i0, .inr (2, [.int (nI 12), .ref i1, .ref i2, .ref i3, .ref i4, .ref i5, .ref i6, .ref i7])), (i1, .inl (cI, 12, .inl (qS yi))), (i2, .inl (cZ, 12, .inl (qZ zi))), (i3, .inl (cI, 12, .inl (qS lin))), (i4, .inl (cI, 4, .inl (qS si))), (i5, .inl (cI, 4, .inl (qN ai))), (i6, .inl (cI, 4, .inl (qS ci))), (i7, .inl (cI, 4, .inl (qS vi))), (o0, .inr (2, [.int (nI 16), .ref o1, .ref o2, .ref o3, .ref o4, .ref o5, .ref o6, .ref o7])), (o1, .inl (cI, 16, .inl (qS yo))), (o2, .inl (cZ, 16, .inl (qZ zo))), (o3, .inl (cI, 16, .inl (qS lou))), (o4, .inl (cI, 4, .inl (qS so))), (o5, .inl (cI, 4, .inl (qN ao))), (o6, .inl (cI, 4, .inl (qS co))), (o7, .inl (cI, 4, .inl (qS vo))), (d0, .inr (0, [.ref d1, .int (nI tw), .int (nI tr)])), (d1, .inl (cI, 768, .inl (qS dd))), (w0, .inr (3, [.ref d0, .ref i0, .ref o0, .ref w1, .ref w2])), (w1, .inl (cG, 48, .inr (.inr (.inr (.inr (fun i => some (ra i))))))), (w2, .inl (cI, 16, .inl (qS ob))), (r0, .inr (1, [.ref d0, .ref i0, .ref o0, .ref r1, .ref r2, .ref r3, .ref r4, .int (nI me), .int (nI du), .int (nI fi), .int (nI le)])), (r1, .inl (cG, 48, .inr (.inr (.inr (.inr (fun i => some (rb i))))))), (r2, .inl (cZ, 48, .inl (qZ od))), (r3, .inl (cI, 384, .inl (qS ou))), (r4, .inl (cZ, 48, .inl (qZ lt)))] (qP cI ra IW) (qP cI rb OW)) s.heap.size = A at hD ⊢
  have hA : ∀ q : Nat, s.heap.size ≤ q → A q := fun q h => by rw [← hAe]; exact Or.inr h
  have hS : va_S A s.heap s.heap [] := va_S.rf
  have hP : va_P (dC, dI) vwCl (qW2 [(x0, .inr (4, [.ref i0, .ref d0, .ref w0, .ref r0])), (i0, .inr (2, [.int (nI 12), .ref i1, .ref i2, .ref i3, .ref i4, .ref i5, .ref i6, .ref i7])), (i1, .inl (cI, 12, .inl (qS yi))), (i2, .inl (cZ, 12, .inl (qZ zi))), (i3, .inl (cI, 12, .inl (qS lin))), (i4, .inl (cI, 4, .inl (qS si))), (i5, .inl (cI, 4, .inl (qN ai))), (i6, .inl (cI, 4, .inl (qS ci))), (i7, .inl (cI, 4, .inl (qS vi))), (o0, .inr (2, [.int (nI 16), .ref o1, .ref o2, .ref o3, .ref o4, .ref o5, .ref o6, .ref o7])), (o1, .inl (cI, 16, .inl (qS yo))), (o2, .inl (cZ, 16, .inl (qZ zo))), (o3, .inl (cI, 16, .inl (qS lou))), (o4, .inl (cI, 4, .inl (qS so))), (o5, .inl (cI, 4, .inl (qN ao))), (o6, .inl (cI, 4, .inl (qS co))), (o7, .inl (cI, 4, .inl (qS vo))), (d0, .inr (0, [.ref d1, .int (nI tw), .int (nI tr)])), (d1, .inl (cI, 768, .inl (qS dd))), (w0, .inr (3, [.ref d0, .ref i0, .ref o0, .ref w1, .ref w2])), (w1, .inl (cG, 48, .inr (.inr (.inr (.inr (fun i => some (ra i))))))), (w2, .inl (cI, 16, .inl (qS ob))), (r0, .inr (1, [.ref d0, .ref i0, .ref o0, .ref r1, .ref r2, .ref r3, .ref r4, .int (nI me), .int (nI du), .int (nI fi), .int (nI le)])), (r1, .inl (cG, 48, .inr (.inr (.inr (.inr (fun i => some (rb i))))))), (r2, .inl (cZ, 48, .inl (qZ od))), (r3, .inl (cI, 384, .inl (qS ou))), (r4, .inl (cZ, 48, .inl (qZ lt)))] (qP cI ra IW) (qP cI rb OW)) s.heap := hP
  have hl := lv_entry ([.ref w0, .int (nI x), .long v]) (n := 5) (Nat.le_of_ble_eq_true rfl)
  rw [lg_entry_eq]
  generalize (lg_sl ([.ref w0, .int (nI x), .long v]) ++ List.replicate (5 - (lg_sl ([.ref w0, .int (nI x), .long v])).length) Slot.unset).toArray = ls at hl ⊢
  have hl : lv_has ls 5 [(0, .ref w0), (1, .int (nI x)), (2, .long v)] := hl
  have k_15 := hts (.fieldLink RX4 15 "DiscCoder$Writer" "inner" "LDiscCoder$Word;") (by decide +kernel)
  have k_24 := hts (.fieldLink RX4 24 "DiscCoder$Writer" "innerWords" "[[I") (by decide +kernel)
  have i_X3 : ∀ w ∈ u_ws RX3 TX3 8, w ∈ wsX4_makeInner := by decide +kernel
  have i_X4 : ∀ w ∈ u_ws RX4 TX4 5, w ∈ wsX4_makeInner := by decide +kernel
  refine qr_nm (fun Q hQ => ?_)
  refine lv_aload_n hx hb dX4_makeInner_0 rfl (lv_at hl 0 rfl) ?_
  refine va_get (D := (dC, dI)) (ci := 3) (v := .ref i0) (C := RX4) (T := TX4) (N := 5) hx hb hts i_X4 hown hK hP 19 rfl rfl 1 (by decide) k_15 (fun _ h9 => h9) rfl dX4_makeInner_1 ?_
  refine lv_lload_n hx hb dX4_makeInner_4 rfl (lv_at hl 2 rfl) ?_
  have hPc := hP.sub (ws' := [(i0, .inr (2, [.int (nI 12), .ref i1, .ref i2, .ref i3, .ref i4, .ref i5, .ref i6, .ref i7])), (i1, .inl (cI, 12, .inl (qS yi))), (i2, .inl (cZ, 12, .inl (qZ zi))), (i3, .inl (cI, 12, .inl (qS lin))), (i4, .inl (cI, 4, .inl (qS si))), (i5, .inl (cI, 4, .inl (qN ai))), (i6, .inl (cI, 4, .inl (qS ci))), (i7, .inl (cI, 4, .inl (qS vi)))]) [1, 2, 3, 4, 5, 6, 7, 8] rfl
  have hDc := hD.sub (ws' := [(i0, .inr (2, [.int (nI 12), .ref i1, .ref i2, .ref i3, .ref i4, .ref i5, .ref i6, .ref i7])), (i1, .inl (cI, 12, .inl (qS yi))), (i2, .inl (cZ, 12, .inl (qZ zi))), (i3, .inl (cI, 12, .inl (qS lin))), (i4, .inl (cI, 4, .inl (qS si))), (i5, .inl (cI, 4, .inl (qN ai))), (i6, .inl (cI, 4, .inl (qS ci))), (i7, .inl (cI, 4, .inl (qS vi)))]) [1, 2, 3, 4, 5, 6, 7, 8] (by decide) rfl
  have hKc := hK.sub (tys' := [(cI, .int), (cZ, .boolean)]) [0, 1] rfl
  have hFc := va_free (wc := [(i0, .inr (2, [.int (nI 12), .ref i1, .ref i2, .ref i3, .ref i4, .ref i5, .ref i6, .ref i7])), (i1, .inl (cI, 12, .inl (qS yi))), (i2, .inl (cZ, 12, .inl (qZ zi))), (i3, .inl (cI, 12, .inl (qS lin))), (i4, .inl (cI, 4, .inl (qS si))), (i5, .inl (cI, 4, .inl (qN ai))), (i6, .inl (cI, 4, .inl (qS ci))), (i7, .inl (cI, 4, .inl (qS vi)))]) hD hS hA [1, 2, 3, 4, 5, 6, 7, 8] rfl
  refine va_callv (va_runV (As := [.long v]) (rest := []) ⟨hx, hb, hml, hown, hts⟩ (qc_begin l dC dI cI cZ i0 i1 i2 i3 i4 i5 i6 i7 12 yi zi lin si ai ci vi v s.heap.size (by omega) (by omega)) (cwV 1 hts gX4_makeInner_X3_beginWith rfl rfl rfl (by decide +kernel) ⟨Nat.le_of_ble_eq_true rfl, Nat.le_of_ble_eq_true rfl⟩) ⟨fun a U g mk q => by obtain ⟨q0, q1, qP, qK, qD⟩ := q; exact ⟨q0, q1, qP, va_K.moved (u := U) (U := U.calling g mk a) (Vm.Alike.refl U.vm) qK, qD⟩, (va_recv (q0 := 1) (ci := 2) hK hP rfl rfl), fun U hU hW => ⟨rfl, by rw [hU], by rw [hU]; exact hPc, va_K.moved hW.alike hKc, hDc.weaken (fun _ _ _ _ => trivial)⟩⟩ rfl rfl hl.1 rfl (lv_room (Nat.le_of_ble_eq_true rfl)) dX4_makeInner_5 ⟨Nat.le_of_ble_eq_true rfl, Nat.le_of_ble_eq_true rfl⟩) hS (fun q _ h => hFc q h) hFc (fun u t H1 locs ht hvm hr5 hB hz1 hk1 hS => ?_)
  obtain ⟨hP1, hK1, hD1⟩ := hB
  rw [ht] at hP1
  have hP1 : va_P (dC, dI) vwCl [(i0, .inr (2, [.int (nI 12), .ref i1, .ref i2, .ref i3, .ref i4, .ref i5, .ref i6, .ref i7])), (i1, .inl (cI, 12, .inl (qS (qm_bw v yi 8)))), (i2, .inl (cZ, 12, .inl (qZ zi))), (i3, .inl (cI, 12, .inl (qS lin))), (i4, .inl (cI, 4, .inl (qS si))), (i5, .inl (cI, 4, .inl (qN ai))), (i6, .inl (cI, 4, .inl (qS ci))), (i7, .inl (cI, 4, .inl (qS vi)))] H1 := hP1
  obtain ⟨hP, hD⟩ := qj_join (wc := [(i0, .inr (2, [.int (nI 12), .ref i1, .ref i2, .ref i3, .ref i4, .ref i5, .ref i6, .ref i7])), (i1, .inl (cI, 12, .inl (qS yi))), (i2, .inl (cZ, 12, .inl (qZ zi))), (i3, .inl (cI, 12, .inl (qS lin))), (i4, .inl (cI, 4, .inl (qS si))), (i5, .inl (cI, 4, .inl (qN ai))), (i6, .inl (cI, 4, .inl (qS ci))), (i7, .inl (cI, 4, .inl (qS vi)))]) (w1 := [(i0, .inr (2, [.int (nI 12), .ref i1, .ref i2, .ref i3, .ref i4, .ref i5, .ref i6, .ref i7])), (i1, .inl (cI, 12, .inl (qS (qm_bw v yi 8)))), (i2, .inl (cZ, 12, .inl (qZ zi))), (i3, .inl (cI, 12, .inl (qS lin))), (i4, .inl (cI, 4, .inl (qS si))), (i5, .inl (cI, 4, .inl (qN ai))), (i6, .inl (cI, 4, .inl (qS ci))), (i7, .inl (cI, 4, .inl (qS vi)))]) hP hD [1, 2, 3, 4, 5, 6, 7, 8] rfl rfl hk1 hP1
  generalize H1 = H at hP hS ⊢
  have hP : va_P (dC, dI) vwCl (qW2 [(x0, .inr (4, [.ref i0, .ref d0, .ref w0, .ref r0])), (i0, .inr (2, [.int (nI 12), .ref i1, .ref i2, .ref i3, .ref i4, .ref i5, .ref i6, .ref i7])), (i1, .inl (cI, 12, .inl (qS (qm_bw v yi 8)))), (i2, .inl (cZ, 12, .inl (qZ zi))), (i3, .inl (cI, 12, .inl (qS lin))), (i4, .inl (cI, 4, .inl (qS si))), (i5, .inl (cI, 4, .inl (qN ai))), (i6, .inl (cI, 4, .inl (qS ci))), (i7, .inl (cI, 4, .inl (qS vi))), (o0, .inr (2, [.int (nI 16), .ref o1, .ref o2, .ref o3, .ref o4, .ref o5, .ref o6, .ref o7])), (o1, .inl (cI, 16, .inl (qS yo))), (o2, .inl (cZ, 16, .inl (qZ zo))), (o3, .inl (cI, 16, .inl (qS lou))), (o4, .inl (cI, 4, .inl (qS so))), (o5, .inl (cI, 4, .inl (qN ao))), (o6, .inl (cI, 4, .inl (qS co))), (o7, .inl (cI, 4, .inl (qS vo))), (d0, .inr (0, [.ref d1, .int (nI tw), .int (nI tr)])), (d1, .inl (cI, 768, .inl (qS dd))), (w0, .inr (3, [.ref d0, .ref i0, .ref o0, .ref w1, .ref w2])), (w1, .inl (cG, 48, .inr (.inr (.inr (.inr (fun i => some (ra i))))))), (w2, .inl (cI, 16, .inl (qS ob))), (r0, .inr (1, [.ref d0, .ref i0, .ref o0, .ref r1, .ref r2, .ref r3, .ref r4, .int (nI me), .int (nI du), .int (nI fi), .int (nI le)])), (r1, .inl (cG, 48, .inr (.inr (.inr (.inr (fun i => some (rb i))))))), (r2, .inl (cZ, 48, .inl (qZ od))), (r3, .inl (cI, 384, .inl (qS ou))), (r4, .inl (cZ, 48, .inl (qZ lt)))] (qP cI ra IW) (qP cI rb OW)) H := hP
  have hD : va_D A (qW2 [(x0, .inr (4, [.ref i0, .ref d0, .ref w0, .ref r0])), (i0, .inr (2, [.int (nI 12), .ref i1, .ref i2, .ref i3, .ref i4, .ref i5, .ref i6, .ref i7])), (i1, .inl (cI, 12, .inl (qS (qm_bw v yi 8)))), (i2, .inl (cZ, 12, .inl (qZ zi))), (i3, .inl (cI, 12, .inl (qS lin))), (i4, .inl (cI, 4, .inl (qS si))), (i5, .inl (cI, 4, .inl (qN ai))), (i6, .inl (cI, 4, .inl (qS ci))), (i7, .inl (cI, 4, .inl (qS vi))), (o0, .inr (2, [.int (nI 16), .ref o1, .ref o2, .ref o3, .ref o4, .ref o5, .ref o6, .ref o7])), (o1, .inl (cI, 16, .inl (qS yo))), (o2, .inl (cZ, 16, .inl (qZ zo))), (o3, .inl (cI, 16, .inl (qS lou))), (o4, .inl (cI, 4, .inl (qS so))), (o5, .inl (cI, 4, .inl (qN ao))), (o6, .inl (cI, 4, .inl (qS co))), (o7, .inl (cI, 4, .inl (qS vo))), (d0, .inr (0, [.ref d1, .int (nI tw), .int (nI tr)])), (d1, .inl (cI, 768, .inl (qS dd))), (w0, .inr (3, [.ref d0, .ref i0, .ref o0, .ref w1, .ref w2])), (w1, .inl (cG, 48, .inr (.inr (.inr (.inr (fun i => some (ra i))))))), (w2, .inl (cI, 16, .inl (qS ob))), (r0, .inr (1, [.ref d0, .ref i0, .ref o0, .ref r1, .ref r2, .ref r3, .ref r4, .int (nI me), .int (nI du), .int (nI fi), .int (nI le)])), (r1, .inl (cG, 48, .inr (.inr (.inr (.inr (fun i => some (rb i))))))), (r2, .inl (cZ, 48, .inl (qZ od))), (r3, .inl (cI, 384, .inl (qS ou))), (r4, .inl (cZ, 48, .inl (qZ lt)))] (qP cI ra IW) (qP cI rb OW)) := hD
  refine lv_aload_n hx hb dX4_makeInner_8 rfl (lv_at hl 0 rfl) ?_
  refine va_get (D := (dC, dI)) (ci := 3) (v := .ref i0) (C := RX4) (T := TX4) (N := 5) hx hb hts i_X4 hown hK hP 19 rfl rfl 1 (by decide) k_15 (fun _ h9 => h9) rfl dX4_makeInner_9 ?_
  have hPc := hP.sub (ws' := [(i0, .inr (2, [.int (nI 12), .ref i1, .ref i2, .ref i3, .ref i4, .ref i5, .ref i6, .ref i7])), (i1, .inl (cI, 12, .inl (qS (qm_bw v yi 8)))), (i2, .inl (cZ, 12, .inl (qZ zi))), (i3, .inl (cI, 12, .inl (qS lin))), (i4, .inl (cI, 4, .inl (qS si))), (i5, .inl (cI, 4, .inl (qN ai))), (i6, .inl (cI, 4, .inl (qS ci))), (i7, .inl (cI, 4, .inl (qS vi)))]) [1, 2, 3, 4, 5, 6, 7, 8] rfl
  have hDc := hD.sub (ws' := [(i0, .inr (2, [.int (nI 12), .ref i1, .ref i2, .ref i3, .ref i4, .ref i5, .ref i6, .ref i7])), (i1, .inl (cI, 12, .inl (qS (qm_bw v yi 8)))), (i2, .inl (cZ, 12, .inl (qZ zi))), (i3, .inl (cI, 12, .inl (qS lin))), (i4, .inl (cI, 4, .inl (qS si))), (i5, .inl (cI, 4, .inl (qN ai))), (i6, .inl (cI, 4, .inl (qS ci))), (i7, .inl (cI, 4, .inl (qS vi)))]) [1, 2, 3, 4, 5, 6, 7, 8] (by decide) rfl
  have hKc := hK.sub (tys' := [(cI, .int), (cZ, .boolean)]) [0, 1] rfl
  have hFc := va_free (wc := [(i0, .inr (2, [.int (nI 12), .ref i1, .ref i2, .ref i3, .ref i4, .ref i5, .ref i6, .ref i7])), (i1, .inl (cI, 12, .inl (qS (qm_bw v yi 8)))), (i2, .inl (cZ, 12, .inl (qZ zi))), (i3, .inl (cI, 12, .inl (qS lin))), (i4, .inl (cI, 4, .inl (qS si))), (i5, .inl (cI, 4, .inl (qN ai))), (i6, .inl (cI, 4, .inl (qS ci))), (i7, .inl (cI, 4, .inl (qS vi)))]) hD hS hA [1, 2, 3, 4, 5, 6, 7, 8] rfl
  refine va_callv (va_runV (As := []) (rest := []) ⟨hx, hb, hml, hown, hts⟩ (qc_checks l dC dI cI cZ i0 i1 i2 i3 i4 i5 i6 i7 12 (qm_bw v yi 8) zi lin si ai ci vi H.size (by omega) hli (by omega)) (cwV 0 hts gX4_makeInner_X3_makeChecks rfl rfl rfl (by decide +kernel) ⟨Nat.le_of_ble_eq_true rfl, Nat.le_of_ble_eq_true rfl⟩) ⟨fun a U g mk q => by obtain ⟨q0, q1, qP, qK, qD⟩ := q; exact ⟨q0, q1, qP, va_K.moved (u := U) (U := U.calling g mk a) (Vm.Alike.refl U.vm) qK, qD⟩, (va_recv (q0 := 1) (ci := 2) hK hP rfl rfl), fun U hU hW => ⟨rfl, by rw [hU], by rw [hU]; exact hPc, va_K.moved hW.alike hKc, hDc.weaken (fun _ _ _ _ => trivial)⟩⟩ rfl rfl hl.1 rfl (lv_room (Nat.le_of_ble_eq_true rfl)) dX4_makeInner_12 ⟨Nat.le_of_ble_eq_true rfl, Nat.le_of_ble_eq_true rfl⟩) hS (fun q _ h => hFc q h) hFc (fun u t H1 locs ht hvm hr12 hB hz1 hk1 hS => ?_)
  obtain ⟨su2_12, da2_12, ch2_12, we2_12⟩ := u
  dsimp only at hr12 hB
  obtain ⟨hP1, hK1, hD1⟩ := hB
  rw [ht] at hP1
  have hP1 : va_P (dC, dI) vwCl [(i0, .inr (2, [.int (nI 12), .ref i1, .ref i2, .ref i3, .ref i4, .ref i5, .ref i6, .ref i7])), (i1, .inl (cI, 12, .inl (qS (qw_a (qm_bw v yi 8) (qd_d (qm_mc 12 zi 12) ai 12) (qk_ch 12 (qm_mc 12 zi 12) ai (qm_bw v yi 8)) 4)))), (i2, .inl (cZ, 12, .inl (qZ (qm_mc 12 zi 12)))), (i3, .inl (cI, 12, .inl (qS lin))), (i4, .inl (cI, 4, .inl (qS su2_12))), (i5, .inl (cI, 4, .inl (qN da2_12))), (i6, .inl (cI, 4, .inl (qS ch2_12))), (i7, .inl (cI, 4, .inl (qS we2_12)))] H1 := hP1
  obtain ⟨hP, hD⟩ := qj_join (wc := [(i0, .inr (2, [.int (nI 12), .ref i1, .ref i2, .ref i3, .ref i4, .ref i5, .ref i6, .ref i7])), (i1, .inl (cI, 12, .inl (qS (qm_bw v yi 8)))), (i2, .inl (cZ, 12, .inl (qZ zi))), (i3, .inl (cI, 12, .inl (qS lin))), (i4, .inl (cI, 4, .inl (qS si))), (i5, .inl (cI, 4, .inl (qN ai))), (i6, .inl (cI, 4, .inl (qS ci))), (i7, .inl (cI, 4, .inl (qS vi)))]) (w1 := [(i0, .inr (2, [.int (nI 12), .ref i1, .ref i2, .ref i3, .ref i4, .ref i5, .ref i6, .ref i7])), (i1, .inl (cI, 12, .inl (qS (qw_a (qm_bw v yi 8) (qd_d (qm_mc 12 zi 12) ai 12) (qk_ch 12 (qm_mc 12 zi 12) ai (qm_bw v yi 8)) 4)))), (i2, .inl (cZ, 12, .inl (qZ (qm_mc 12 zi 12)))), (i3, .inl (cI, 12, .inl (qS lin))), (i4, .inl (cI, 4, .inl (qS su2_12))), (i5, .inl (cI, 4, .inl (qN da2_12))), (i6, .inl (cI, 4, .inl (qS ch2_12))), (i7, .inl (cI, 4, .inl (qS we2_12)))]) hP hD [1, 2, 3, 4, 5, 6, 7, 8] rfl rfl hk1 hP1
  generalize H1 = H at hP hS ⊢
  have hP : va_P (dC, dI) vwCl (qW2 [(x0, .inr (4, [.ref i0, .ref d0, .ref w0, .ref r0])), (i0, .inr (2, [.int (nI 12), .ref i1, .ref i2, .ref i3, .ref i4, .ref i5, .ref i6, .ref i7])), (i1, .inl (cI, 12, .inl (qS (qw_a (qm_bw v yi 8) (qd_d (qm_mc 12 zi 12) ai 12) (qk_ch 12 (qm_mc 12 zi 12) ai (qm_bw v yi 8)) 4)))), (i2, .inl (cZ, 12, .inl (qZ (qm_mc 12 zi 12)))), (i3, .inl (cI, 12, .inl (qS lin))), (i4, .inl (cI, 4, .inl (qS su2_12))), (i5, .inl (cI, 4, .inl (qN da2_12))), (i6, .inl (cI, 4, .inl (qS ch2_12))), (i7, .inl (cI, 4, .inl (qS we2_12))), (o0, .inr (2, [.int (nI 16), .ref o1, .ref o2, .ref o3, .ref o4, .ref o5, .ref o6, .ref o7])), (o1, .inl (cI, 16, .inl (qS yo))), (o2, .inl (cZ, 16, .inl (qZ zo))), (o3, .inl (cI, 16, .inl (qS lou))), (o4, .inl (cI, 4, .inl (qS so))), (o5, .inl (cI, 4, .inl (qN ao))), (o6, .inl (cI, 4, .inl (qS co))), (o7, .inl (cI, 4, .inl (qS vo))), (d0, .inr (0, [.ref d1, .int (nI tw), .int (nI tr)])), (d1, .inl (cI, 768, .inl (qS dd))), (w0, .inr (3, [.ref d0, .ref i0, .ref o0, .ref w1, .ref w2])), (w1, .inl (cG, 48, .inr (.inr (.inr (.inr (fun i => some (ra i))))))), (w2, .inl (cI, 16, .inl (qS ob))), (r0, .inr (1, [.ref d0, .ref i0, .ref o0, .ref r1, .ref r2, .ref r3, .ref r4, .int (nI me), .int (nI du), .int (nI fi), .int (nI le)])), (r1, .inl (cG, 48, .inr (.inr (.inr (.inr (fun i => some (rb i))))))), (r2, .inl (cZ, 48, .inl (qZ od))), (r3, .inl (cI, 384, .inl (qS ou))), (r4, .inl (cZ, 48, .inl (qZ lt)))] (qP cI ra IW) (qP cI rb OW)) H := hP
  have hD : va_D A (qW2 [(x0, .inr (4, [.ref i0, .ref d0, .ref w0, .ref r0])), (i0, .inr (2, [.int (nI 12), .ref i1, .ref i2, .ref i3, .ref i4, .ref i5, .ref i6, .ref i7])), (i1, .inl (cI, 12, .inl (qS (qw_a (qm_bw v yi 8) (qd_d (qm_mc 12 zi 12) ai 12) (qk_ch 12 (qm_mc 12 zi 12) ai (qm_bw v yi 8)) 4)))), (i2, .inl (cZ, 12, .inl (qZ (qm_mc 12 zi 12)))), (i3, .inl (cI, 12, .inl (qS lin))), (i4, .inl (cI, 4, .inl (qS su2_12))), (i5, .inl (cI, 4, .inl (qN da2_12))), (i6, .inl (cI, 4, .inl (qS ch2_12))), (i7, .inl (cI, 4, .inl (qS we2_12))), (o0, .inr (2, [.int (nI 16), .ref o1, .ref o2, .ref o3, .ref o4, .ref o5, .ref o6, .ref o7])), (o1, .inl (cI, 16, .inl (qS yo))), (o2, .inl (cZ, 16, .inl (qZ zo))), (o3, .inl (cI, 16, .inl (qS lou))), (o4, .inl (cI, 4, .inl (qS so))), (o5, .inl (cI, 4, .inl (qN ao))), (o6, .inl (cI, 4, .inl (qS co))), (o7, .inl (cI, 4, .inl (qS vo))), (d0, .inr (0, [.ref d1, .int (nI tw), .int (nI tr)])), (d1, .inl (cI, 768, .inl (qS dd))), (w0, .inr (3, [.ref d0, .ref i0, .ref o0, .ref w1, .ref w2])), (w1, .inl (cG, 48, .inr (.inr (.inr (.inr (fun i => some (ra i))))))), (w2, .inl (cI, 16, .inl (qS ob))), (r0, .inr (1, [.ref d0, .ref i0, .ref o0, .ref r1, .ref r2, .ref r3, .ref r4, .int (nI me), .int (nI du), .int (nI fi), .int (nI le)])), (r1, .inl (cG, 48, .inr (.inr (.inr (.inr (fun i => some (rb i))))))), (r2, .inl (cZ, 48, .inl (qZ od))), (r3, .inl (cI, 384, .inl (qS ou))), (r4, .inl (cZ, 48, .inl (qZ lt)))] (qP cI ra IW) (qP cI rb OW)) := hD
  refine lv_iconst (v := nI 0) hx hb dX4_makeInner_15 (by decide) ?_
  refine lv_istore (lv' := [(4, .int (nI 0)), (0, .ref w0), (1, .int (nI x)), (2, .long v)]) hx hb dX4_makeInner_16 hl (by decide) rfl (fun ls hl => ?_)
  obtain ⟨hP, hD⟩ := qp_same1 (N := va_up IW x (qm_cs (IW x) (qw_a (qm_bw v yi 8) (qd_d (qm_mc 12 zi 12) ai 12) (qk_ch 12 (qm_mc 12 zi 12) ai (qm_bw v yi 8)) 4) 0)) hP hD (qs_up0 IW x (qw_a (qm_bw v yi 8) (qd_d (qm_mc 12 zi 12) ai 12) (qk_ch 12 (qm_mc 12 zi 12) ai (qm_bw v yi 8)) 4))
  have hP : va_P (dC, dI) vwCl (qW2 [(x0, .inr (4, [.ref i0, .ref d0, .ref w0, .ref r0])), (i0, .inr (2, [.int (nI 12), .ref i1, .ref i2, .ref i3, .ref i4, .ref i5, .ref i6, .ref i7])), (i1, .inl (cI, 12, .inl (qS (qw_a (qm_bw v yi 8) (qd_d (qm_mc 12 zi 12) ai 12) (qk_ch 12 (qm_mc 12 zi 12) ai (qm_bw v yi 8)) 4)))), (i2, .inl (cZ, 12, .inl (qZ (qm_mc 12 zi 12)))), (i3, .inl (cI, 12, .inl (qS lin))), (i4, .inl (cI, 4, .inl (qS su2_12))), (i5, .inl (cI, 4, .inl (qN da2_12))), (i6, .inl (cI, 4, .inl (qS ch2_12))), (i7, .inl (cI, 4, .inl (qS we2_12))), (o0, .inr (2, [.int (nI 16), .ref o1, .ref o2, .ref o3, .ref o4, .ref o5, .ref o6, .ref o7])), (o1, .inl (cI, 16, .inl (qS yo))), (o2, .inl (cZ, 16, .inl (qZ zo))), (o3, .inl (cI, 16, .inl (qS lou))), (o4, .inl (cI, 4, .inl (qS so))), (o5, .inl (cI, 4, .inl (qN ao))), (o6, .inl (cI, 4, .inl (qS co))), (o7, .inl (cI, 4, .inl (qS vo))), (d0, .inr (0, [.ref d1, .int (nI tw), .int (nI tr)])), (d1, .inl (cI, 768, .inl (qS dd))), (w0, .inr (3, [.ref d0, .ref i0, .ref o0, .ref w1, .ref w2])), (w1, .inl (cG, 48, .inr (.inr (.inr (.inr (fun i => some (ra i))))))), (w2, .inl (cI, 16, .inl (qS ob))), (r0, .inr (1, [.ref d0, .ref i0, .ref o0, .ref r1, .ref r2, .ref r3, .ref r4, .int (nI me), .int (nI du), .int (nI fi), .int (nI le)])), (r1, .inl (cG, 48, .inr (.inr (.inr (.inr (fun i => some (rb i))))))), (r2, .inl (cZ, 48, .inl (qZ od))), (r3, .inl (cI, 384, .inl (qS ou))), (r4, .inl (cZ, 48, .inl (qZ lt)))] (qP cI ra (va_up IW x (qm_cs (IW x) (qw_a (qm_bw v yi 8) (qd_d (qm_mc 12 zi 12) ai 12) (qk_ch 12 (qm_mc 12 zi 12) ai (qm_bw v yi 8)) 4) 0))) (qP cI rb OW)) H := hP
  have hD : va_D A (qW2 [(x0, .inr (4, [.ref i0, .ref d0, .ref w0, .ref r0])), (i0, .inr (2, [.int (nI 12), .ref i1, .ref i2, .ref i3, .ref i4, .ref i5, .ref i6, .ref i7])), (i1, .inl (cI, 12, .inl (qS (qw_a (qm_bw v yi 8) (qd_d (qm_mc 12 zi 12) ai 12) (qk_ch 12 (qm_mc 12 zi 12) ai (qm_bw v yi 8)) 4)))), (i2, .inl (cZ, 12, .inl (qZ (qm_mc 12 zi 12)))), (i3, .inl (cI, 12, .inl (qS lin))), (i4, .inl (cI, 4, .inl (qS su2_12))), (i5, .inl (cI, 4, .inl (qN da2_12))), (i6, .inl (cI, 4, .inl (qS ch2_12))), (i7, .inl (cI, 4, .inl (qS we2_12))), (o0, .inr (2, [.int (nI 16), .ref o1, .ref o2, .ref o3, .ref o4, .ref o5, .ref o6, .ref o7])), (o1, .inl (cI, 16, .inl (qS yo))), (o2, .inl (cZ, 16, .inl (qZ zo))), (o3, .inl (cI, 16, .inl (qS lou))), (o4, .inl (cI, 4, .inl (qS so))), (o5, .inl (cI, 4, .inl (qN ao))), (o6, .inl (cI, 4, .inl (qS co))), (o7, .inl (cI, 4, .inl (qS vo))), (d0, .inr (0, [.ref d1, .int (nI tw), .int (nI tr)])), (d1, .inl (cI, 768, .inl (qS dd))), (w0, .inr (3, [.ref d0, .ref i0, .ref o0, .ref w1, .ref w2])), (w1, .inl (cG, 48, .inr (.inr (.inr (.inr (fun i => some (ra i))))))), (w2, .inl (cI, 16, .inl (qS ob))), (r0, .inr (1, [.ref d0, .ref i0, .ref o0, .ref r1, .ref r2, .ref r3, .ref r4, .int (nI me), .int (nI du), .int (nI fi), .int (nI le)])), (r1, .inl (cG, 48, .inr (.inr (.inr (.inr (fun i => some (rb i))))))), (r2, .inl (cZ, 48, .inl (qZ od))), (r3, .inl (cI, 384, .inl (qS ou))), (r4, .inl (cZ, 48, .inl (qZ lt)))] (qP cI ra (va_up IW x (qm_cs (IW x) (qw_a (qm_bw v yi 8) (qd_d (qm_mc 12 zi 12) ai 12) (qk_ch 12 (qm_mc 12 zi 12) ai (qm_bw v yi 8)) 4) 0))) (qP cI rb OW)) := hD
  have lp18 : ∀ (q j : Nat), j + q = 12 → ∀  (ls : Array Slot) (H : Heap) (locs : List Loc), lv_has ls 5 [(0, .ref w0), (1, .int (nI x)), (2, .long v), (4, .int (nI j))] → va_P (dC, dI) vwCl (qW2 [(x0, .inr (4, [.ref i0, .ref d0, .ref w0, .ref r0])), (i0, .inr (2, [.int (nI 12), .ref i1, .ref i2, .ref i3, .ref i4, .ref i5, .ref i6, .ref i7])), (i1, .inl (cI, 12, .inl (qS (qw_a (qm_bw v yi 8) (qd_d (qm_mc 12 zi 12) ai 12) (qk_ch 12 (qm_mc 12 zi 12) ai (qm_bw v yi 8)) 4)))), (i2, .inl (cZ, 12, .inl (qZ (qm_mc 12 zi 12)))), (i3, .inl (cI, 12, .inl (qS lin))), (i4, .inl (cI, 4, .inl (qS su2_12))), (i5, .inl (cI, 4, .inl (qN da2_12))), (i6, .inl (cI, 4, .inl (qS ch2_12))), (i7, .inl (cI, 4, .inl (qS we2_12))), (o0, .inr (2, [.int (nI 16), .ref o1, .ref o2, .ref o3, .ref o4, .ref o5, .ref o6, .ref o7])), (o1, .inl (cI, 16, .inl (qS yo))), (o2, .inl (cZ, 16, .inl (qZ zo))), (o3, .inl (cI, 16, .inl (qS lou))), (o4, .inl (cI, 4, .inl (qS so))), (o5, .inl (cI, 4, .inl (qN ao))), (o6, .inl (cI, 4, .inl (qS co))), (o7, .inl (cI, 4, .inl (qS vo))), (d0, .inr (0, [.ref d1, .int (nI tw), .int (nI tr)])), (d1, .inl (cI, 768, .inl (qS dd))), (w0, .inr (3, [.ref d0, .ref i0, .ref o0, .ref w1, .ref w2])), (w1, .inl (cG, 48, .inr (.inr (.inr (.inr (fun i => some (ra i))))))), (w2, .inl (cI, 16, .inl (qS ob))), (r0, .inr (1, [.ref d0, .ref i0, .ref o0, .ref r1, .ref r2, .ref r3, .ref r4, .int (nI me), .int (nI du), .int (nI fi), .int (nI le)])), (r1, .inl (cG, 48, .inr (.inr (.inr (.inr (fun i => some (rb i))))))), (r2, .inl (cZ, 48, .inl (qZ od))), (r3, .inl (cI, 384, .inl (qS ou))), (r4, .inl (cZ, 48, .inl (qZ lt)))] (qP cI ra (va_up IW x (qm_cs (IW x) (qw_a (qm_bw v yi 8) (qd_d (qm_mc 12 zi 12) ai 12) (qk_ch 12 (qm_mc 12 zi 12) ai (qm_bw v yi 8)) 4) j))) (qP cI rb OW)) H → va_D A (qW2 [(x0, .inr (4, [.ref i0, .ref d0, .ref w0, .ref r0])), (i0, .inr (2, [.int (nI 12), .ref i1, .ref i2, .ref i3, .ref i4, .ref i5, .ref i6, .ref i7])), (i1, .inl (cI, 12, .inl (qS (qw_a (qm_bw v yi 8) (qd_d (qm_mc 12 zi 12) ai 12) (qk_ch 12 (qm_mc 12 zi 12) ai (qm_bw v yi 8)) 4)))), (i2, .inl (cZ, 12, .inl (qZ (qm_mc 12 zi 12)))), (i3, .inl (cI, 12, .inl (qS lin))), (i4, .inl (cI, 4, .inl (qS su2_12))), (i5, .inl (cI, 4, .inl (qN da2_12))), (i6, .inl (cI, 4, .inl (qS ch2_12))), (i7, .inl (cI, 4, .inl (qS we2_12))), (o0, .inr (2, [.int (nI 16), .ref o1, .ref o2, .ref o3, .ref o4, .ref o5, .ref o6, .ref o7])), (o1, .inl (cI, 16, .inl (qS yo))), (o2, .inl (cZ, 16, .inl (qZ zo))), (o3, .inl (cI, 16, .inl (qS lou))), (o4, .inl (cI, 4, .inl (qS so))), (o5, .inl (cI, 4, .inl (qN ao))), (o6, .inl (cI, 4, .inl (qS co))), (o7, .inl (cI, 4, .inl (qS vo))), (d0, .inr (0, [.ref d1, .int (nI tw), .int (nI tr)])), (d1, .inl (cI, 768, .inl (qS dd))), (w0, .inr (3, [.ref d0, .ref i0, .ref o0, .ref w1, .ref w2])), (w1, .inl (cG, 48, .inr (.inr (.inr (.inr (fun i => some (ra i))))))), (w2, .inl (cI, 16, .inl (qS ob))), (r0, .inr (1, [.ref d0, .ref i0, .ref o0, .ref r1, .ref r2, .ref r3, .ref r4, .int (nI me), .int (nI du), .int (nI fi), .int (nI le)])), (r1, .inl (cG, 48, .inr (.inr (.inr (.inr (fun i => some (rb i))))))), (r2, .inl (cZ, 48, .inl (qZ od))), (r3, .inl (cI, 384, .inl (qS ou))), (r4, .inl (cZ, 48, .inl (qZ lt)))] (qP cI ra (va_up IW x (qm_cs (IW x) (qw_a (qm_bw v yi 8) (qd_d (qm_mc 12 zi 12) ai 12) (qk_ch 12 (qm_mc 12 zi 12) ai (qm_bw v yi 8)) 4) j))) (qP cI rb OW)) → va_S A s.heap H locs → W p l e (headSpec wsX4_makeInner ({ frames := 5, cells := 0, slots := 0, locals := 116 } : Room)).room s m ([.ref w0, .int (nI x), .long v] : List Value).toArray below meth c H locs 0 0 Q (F0 m 18 ls []) := by
    intro q
    induction q with
    | zero =>
      intro j hj  ls H locs hl hP hD hS
      have e9 : 12 = j := by omega
      subst e9
      refine lv_iload hx hb dX4_makeInner_18 (lv_at hl 3 rfl) ?_
      refine lv_bipush (v := nI 12) hx hb dX4_makeInner_20 (by decide) ?_
      refine qr_ge (tgt := 50) hx hb dX4_makeInner_22 rfl (by omega) (by omega) (fun b22 => ?_) (fun h => absurd h (by omega))
      obtain ⟨hP, hD⟩ := qp_same1 (N := va_up IW x (qs_iw v)) hP hD (qs_upr IW x (fun j hj => (qm_cs_at hj).trans (qs_class (by omega) (by omega) (fun i hi => qm_bw_at (by omega)) hj)))
      have hP : va_P (dC, dI) vwCl (qW2 [(x0, .inr (4, [.ref i0, .ref d0, .ref w0, .ref r0])), (i0, .inr (2, [.int (nI 12), .ref i1, .ref i2, .ref i3, .ref i4, .ref i5, .ref i6, .ref i7])), (i1, .inl (cI, 12, .inl (qS (qw_a (qm_bw v yi 8) (qd_d (qm_mc 12 zi 12) ai 12) (qk_ch 12 (qm_mc 12 zi 12) ai (qm_bw v yi 8)) 4)))), (i2, .inl (cZ, 12, .inl (qZ (qm_mc 12 zi 12)))), (i3, .inl (cI, 12, .inl (qS lin))), (i4, .inl (cI, 4, .inl (qS su2_12))), (i5, .inl (cI, 4, .inl (qN da2_12))), (i6, .inl (cI, 4, .inl (qS ch2_12))), (i7, .inl (cI, 4, .inl (qS we2_12))), (o0, .inr (2, [.int (nI 16), .ref o1, .ref o2, .ref o3, .ref o4, .ref o5, .ref o6, .ref o7])), (o1, .inl (cI, 16, .inl (qS yo))), (o2, .inl (cZ, 16, .inl (qZ zo))), (o3, .inl (cI, 16, .inl (qS lou))), (o4, .inl (cI, 4, .inl (qS so))), (o5, .inl (cI, 4, .inl (qN ao))), (o6, .inl (cI, 4, .inl (qS co))), (o7, .inl (cI, 4, .inl (qS vo))), (d0, .inr (0, [.ref d1, .int (nI tw), .int (nI tr)])), (d1, .inl (cI, 768, .inl (qS dd))), (w0, .inr (3, [.ref d0, .ref i0, .ref o0, .ref w1, .ref w2])), (w1, .inl (cG, 48, .inr (.inr (.inr (.inr (fun i => some (ra i))))))), (w2, .inl (cI, 16, .inl (qS ob))), (r0, .inr (1, [.ref d0, .ref i0, .ref o0, .ref r1, .ref r2, .ref r3, .ref r4, .int (nI me), .int (nI du), .int (nI fi), .int (nI le)])), (r1, .inl (cG, 48, .inr (.inr (.inr (.inr (fun i => some (rb i))))))), (r2, .inl (cZ, 48, .inl (qZ od))), (r3, .inl (cI, 384, .inl (qS ou))), (r4, .inl (cZ, 48, .inl (qZ lt)))] (qP cI ra (va_up IW x (qs_iw v))) (qP cI rb OW)) H := hP
      have hD : va_D A (qW2 [(x0, .inr (4, [.ref i0, .ref d0, .ref w0, .ref r0])), (i0, .inr (2, [.int (nI 12), .ref i1, .ref i2, .ref i3, .ref i4, .ref i5, .ref i6, .ref i7])), (i1, .inl (cI, 12, .inl (qS (qw_a (qm_bw v yi 8) (qd_d (qm_mc 12 zi 12) ai 12) (qk_ch 12 (qm_mc 12 zi 12) ai (qm_bw v yi 8)) 4)))), (i2, .inl (cZ, 12, .inl (qZ (qm_mc 12 zi 12)))), (i3, .inl (cI, 12, .inl (qS lin))), (i4, .inl (cI, 4, .inl (qS su2_12))), (i5, .inl (cI, 4, .inl (qN da2_12))), (i6, .inl (cI, 4, .inl (qS ch2_12))), (i7, .inl (cI, 4, .inl (qS we2_12))), (o0, .inr (2, [.int (nI 16), .ref o1, .ref o2, .ref o3, .ref o4, .ref o5, .ref o6, .ref o7])), (o1, .inl (cI, 16, .inl (qS yo))), (o2, .inl (cZ, 16, .inl (qZ zo))), (o3, .inl (cI, 16, .inl (qS lou))), (o4, .inl (cI, 4, .inl (qS so))), (o5, .inl (cI, 4, .inl (qN ao))), (o6, .inl (cI, 4, .inl (qS co))), (o7, .inl (cI, 4, .inl (qS vo))), (d0, .inr (0, [.ref d1, .int (nI tw), .int (nI tr)])), (d1, .inl (cI, 768, .inl (qS dd))), (w0, .inr (3, [.ref d0, .ref i0, .ref o0, .ref w1, .ref w2])), (w1, .inl (cG, 48, .inr (.inr (.inr (.inr (fun i => some (ra i))))))), (w2, .inl (cI, 16, .inl (qS ob))), (r0, .inr (1, [.ref d0, .ref i0, .ref o0, .ref r1, .ref r2, .ref r3, .ref r4, .int (nI me), .int (nI du), .int (nI fi), .int (nI le)])), (r1, .inl (cG, 48, .inr (.inr (.inr (.inr (fun i => some (rb i))))))), (r2, .inl (cZ, 48, .inl (qZ od))), (r3, .inl (cI, 384, .inl (qS ou))), (r4, .inl (cZ, 48, .inl (qZ lt)))] (qP cI ra (va_up IW x (qs_iw v))) (qP cI rb OW)) := hD
      subst hQ
      exact W.vret hx hb hr (fun t ht hW => ⟨⟨(qw_a (qm_bw v yi 8) (qd_d (qm_mc 12 zi 12) ai 12) (qk_ch 12 (qm_mc 12 zi 12) ai (qm_bw v yi 8)) 4, qm_mc 12 zi 12, su2_12, da2_12, ch2_12, we2_12), rfl, trivial, by rw [ht]; exact hP, va_K.moved hW.alike hK, hD⟩, hS.F ht⟩) hS.2.2 dX4_makeInner_50
    | succ q ih =>
      intro j hj  ls H locs hl hP hD hS
      have lj : j < 12 := by omega
      refine lv_iload hx hb dX4_makeInner_18 (lv_at hl 3 rfl) ?_
      refine lv_bipush (v := nI 12) hx hb dX4_makeInner_20 (by decide) ?_
      refine qr_ge (tgt := 50) hx hb dX4_makeInner_22 rfl (by omega) (by omega) (fun h => absurd h (by omega)) (fun b22 => ?_)
      refine lv_aload_n hx hb dX4_makeInner_25 rfl (lv_at hl 0 rfl) ?_
      refine va_get (D := (dC, dI)) (ci := 3) (v := .ref w1) (C := RX4) (T := TX4) (N := 5) hx hb hts i_X4 hown hK hP 19 rfl rfl 3 (by decide) k_24 (fun _ h9 => h9) rfl dX4_makeInner_26 ?_
      refine lv_iload_n hx hb dX4_makeInner_29 rfl (lv_at hl 1 rfl) ?_
      refine qr_ald hx hb hK hP 20 2 rfl rfl (by omega) (by omega) dX4_makeInner_30 ?_
      refine lv_iload hx hb dX4_makeInner_31 (lv_at hl 3 rfl) ?_
      refine lv_aload_n hx hb dX4_makeInner_33 rfl (lv_at hl 0 rfl) ?_
      refine va_get (D := (dC, dI)) (ci := 3) (v := .ref i0) (C := RX4) (T := TX4) (N := 5) hx hb hts i_X4 hown hK hP 19 rfl rfl 1 (by decide) k_15 (fun _ h9 => h9) rfl dX4_makeInner_34 ?_
      refine va_getN (D := (dC, dI)) (ci := 2) (v := .ref i1) (C := RX3) (T := TX3) (N := 8) hx hb hts i_X3 hown hK hP 1 rfl rfl 1 (by decide) (va_Nw.use rfl (hN (.fieldLinkNest "DiscCoder$Writer" 57 "DiscCoder$Word" "symbols" "[I" "DiscCoder") (by decide +kernel))) (fun _ h9 => h9) rfl dX4_makeInner_37 ?_
      refine lv_iload hx hb dX4_makeInner_40 (lv_at hl 3 rfl) ?_
      refine qr_ildS hx hb hK hP 2 0 rfl rfl (by omega) (by omega) dX4_makeInner_42 ?_
      refine qp_st1 (x := (qw_a (qm_bw v yi 8) (qd_d (qm_mc 12 zi 12) ai 12) (qk_ch 12 (qm_mc 12 zi 12) ai (qm_bw v yi 8)) 4) j) hx hb hK hP hD hS 0 rfl (by omega) (by omega) dX4_makeInner_43 (fun H locs hP hD hS => ?_)
      have hP : va_P (dC, dI) vwCl (qW2 [(x0, .inr (4, [.ref i0, .ref d0, .ref w0, .ref r0])), (i0, .inr (2, [.int (nI 12), .ref i1, .ref i2, .ref i3, .ref i4, .ref i5, .ref i6, .ref i7])), (i1, .inl (cI, 12, .inl (qS (qw_a (qm_bw v yi 8) (qd_d (qm_mc 12 zi 12) ai 12) (qk_ch 12 (qm_mc 12 zi 12) ai (qm_bw v yi 8)) 4)))), (i2, .inl (cZ, 12, .inl (qZ (qm_mc 12 zi 12)))), (i3, .inl (cI, 12, .inl (qS lin))), (i4, .inl (cI, 4, .inl (qS su2_12))), (i5, .inl (cI, 4, .inl (qN da2_12))), (i6, .inl (cI, 4, .inl (qS ch2_12))), (i7, .inl (cI, 4, .inl (qS we2_12))), (o0, .inr (2, [.int (nI 16), .ref o1, .ref o2, .ref o3, .ref o4, .ref o5, .ref o6, .ref o7])), (o1, .inl (cI, 16, .inl (qS yo))), (o2, .inl (cZ, 16, .inl (qZ zo))), (o3, .inl (cI, 16, .inl (qS lou))), (o4, .inl (cI, 4, .inl (qS so))), (o5, .inl (cI, 4, .inl (qN ao))), (o6, .inl (cI, 4, .inl (qS co))), (o7, .inl (cI, 4, .inl (qS vo))), (d0, .inr (0, [.ref d1, .int (nI tw), .int (nI tr)])), (d1, .inl (cI, 768, .inl (qS dd))), (w0, .inr (3, [.ref d0, .ref i0, .ref o0, .ref w1, .ref w2])), (w1, .inl (cG, 48, .inr (.inr (.inr (.inr (fun i => some (ra i))))))), (w2, .inl (cI, 16, .inl (qS ob))), (r0, .inr (1, [.ref d0, .ref i0, .ref o0, .ref r1, .ref r2, .ref r3, .ref r4, .int (nI me), .int (nI du), .int (nI fi), .int (nI le)])), (r1, .inl (cG, 48, .inr (.inr (.inr (.inr (fun i => some (rb i))))))), (r2, .inl (cZ, 48, .inl (qZ od))), (r3, .inl (cI, 384, .inl (qS ou))), (r4, .inl (cZ, 48, .inl (qZ lt)))] (qP cI ra (va_up (va_up IW x (qm_cs (IW x) (qw_a (qm_bw v yi 8) (qd_d (qm_mc 12 zi 12) ai 12) (qk_ch 12 (qm_mc 12 zi 12) ai (qm_bw v yi 8)) 4) j)) x (va_up ((va_up IW x (qm_cs (IW x) (qw_a (qm_bw v yi 8) (qd_d (qm_mc 12 zi 12) ai 12) (qk_ch 12 (qm_mc 12 zi 12) ai (qm_bw v yi 8)) 4) j)) x) j ((qw_a (qm_bw v yi 8) (qd_d (qm_mc 12 zi 12) ai 12) (qk_ch 12 (qm_mc 12 zi 12) ai (qm_bw v yi 8)) 4) j)))) (qP cI rb OW)) H := hP
      have hD : va_D A (qW2 [(x0, .inr (4, [.ref i0, .ref d0, .ref w0, .ref r0])), (i0, .inr (2, [.int (nI 12), .ref i1, .ref i2, .ref i3, .ref i4, .ref i5, .ref i6, .ref i7])), (i1, .inl (cI, 12, .inl (qS (qw_a (qm_bw v yi 8) (qd_d (qm_mc 12 zi 12) ai 12) (qk_ch 12 (qm_mc 12 zi 12) ai (qm_bw v yi 8)) 4)))), (i2, .inl (cZ, 12, .inl (qZ (qm_mc 12 zi 12)))), (i3, .inl (cI, 12, .inl (qS lin))), (i4, .inl (cI, 4, .inl (qS su2_12))), (i5, .inl (cI, 4, .inl (qN da2_12))), (i6, .inl (cI, 4, .inl (qS ch2_12))), (i7, .inl (cI, 4, .inl (qS we2_12))), (o0, .inr (2, [.int (nI 16), .ref o1, .ref o2, .ref o3, .ref o4, .ref o5, .ref o6, .ref o7])), (o1, .inl (cI, 16, .inl (qS yo))), (o2, .inl (cZ, 16, .inl (qZ zo))), (o3, .inl (cI, 16, .inl (qS lou))), (o4, .inl (cI, 4, .inl (qS so))), (o5, .inl (cI, 4, .inl (qN ao))), (o6, .inl (cI, 4, .inl (qS co))), (o7, .inl (cI, 4, .inl (qS vo))), (d0, .inr (0, [.ref d1, .int (nI tw), .int (nI tr)])), (d1, .inl (cI, 768, .inl (qS dd))), (w0, .inr (3, [.ref d0, .ref i0, .ref o0, .ref w1, .ref w2])), (w1, .inl (cG, 48, .inr (.inr (.inr (.inr (fun i => some (ra i))))))), (w2, .inl (cI, 16, .inl (qS ob))), (r0, .inr (1, [.ref d0, .ref i0, .ref o0, .ref r1, .ref r2, .ref r3, .ref r4, .int (nI me), .int (nI du), .int (nI fi), .int (nI le)])), (r1, .inl (cG, 48, .inr (.inr (.inr (.inr (fun i => some (rb i))))))), (r2, .inl (cZ, 48, .inl (qZ od))), (r3, .inl (cI, 384, .inl (qS ou))), (r4, .inl (cZ, 48, .inl (qZ lt)))] (qP cI ra (va_up (va_up IW x (qm_cs (IW x) (qw_a (qm_bw v yi 8) (qd_d (qm_mc 12 zi 12) ai 12) (qk_ch 12 (qm_mc 12 zi 12) ai (qm_bw v yi 8)) 4) j)) x (va_up ((va_up IW x (qm_cs (IW x) (qw_a (qm_bw v yi 8) (qd_d (qm_mc 12 zi 12) ai 12) (qk_ch 12 (qm_mc 12 zi 12) ai (qm_bw v yi 8)) 4) j)) x) j ((qw_a (qm_bw v yi 8) (qd_d (qm_mc 12 zi 12) ai 12) (qk_ch 12 (qm_mc 12 zi 12) ai (qm_bw v yi 8)) 4) j)))) (qP cI rb OW)) := hD
      refine lv_iinc (k := 3) (v := nI (j + 1)) (lv' := [(4, .int (nI (j + 1))), (0, .ref w0), (1, .int (nI x)), (2, .long v)]) hx hb dX4_makeInner_44 hl rfl (qr_inc _) (by decide) rfl (fun ls hl => ?_)
      refine lv_goto (tgt := 18) hx hb dX4_makeInner_47 rfl ?_
      have hl := lv_sub (l' := [(0, .ref w0), (1, .int (nI x)), (2, .long v), (4, .int (nI (j + 1)))]) hl [1, 2, 3, 0] rfl
      have e1 : va_up IW x (qm_cs (IW x) (qw_a (qm_bw v yi 8) (qd_d (qm_mc 12 zi 12) ai 12) (qk_ch 12 (qm_mc 12 zi 12) ai (qm_bw v yi 8)) 4) (j + 1)) = va_up (va_up IW x (qm_cs (IW x) (qw_a (qm_bw v yi 8) (qd_d (qm_mc 12 zi 12) ai 12) (qk_ch 12 (qm_mc 12 zi 12) ai (qm_bw v yi 8)) 4) j)) x (va_up ((va_up IW x (qm_cs (IW x) (qw_a (qm_bw v yi 8) (qd_d (qm_mc 12 zi 12) ai 12) (qk_ch 12 (qm_mc 12 zi 12) ai (qm_bw v yi 8)) 4) j)) x) j ((qw_a (qm_bw v yi 8) (qd_d (qm_mc 12 zi 12) ai 12) (qk_ch 12 (qm_mc 12 zi 12) ai (qm_bw v yi 8)) 4) j)) := by rw [va_up_self, bx_uu]; rfl
      exact ih (j + 1) (by omega)  ls H _ (by exact hl) (by rw [e1]; exact hP) (by rw [e1]; exact hD) hS 
  have hl := lv_sub (l' := [(0, .ref w0), (1, .int (nI x)), (2, .long v), (4, .int (nI 0))]) hl [1, 2, 3, 0] rfl
  exact lp18 12 0 (by omega)  ls H _ hl hP hD hS 
set_option maxHeartbeats 4000000 in
set_option maxRecDepth 100000 in
/-- Writer.makeOuter -/
theorem qc_mkOut (l : Launch) (dC : Nat → ClassId) (dI : Nat → Nat → Nat) (cI cZ cG : ClassId) (x0 i0 i1 i2 i3 i4 i5 i6 i7 o0 o1 o2 o3 o4 o5 o6 o7 d0 d1 w0 w1 w2 r0 r1 r2 r3 r4 tw tr me du fi le : Nat) (ra rb : Nat → Nat) (yi : Nat → BitVec 8) (zi : Nat → Bool) (lin si : Nat → BitVec 8) (ai : Nat → Nat) (ci vi : Nat → BitVec 8) (yo : Nat → BitVec 8) (zo : Nat → Bool) (lou so : Nat → BitVec 8) (ao : Nat → Nat) (co vo : Nat → BitVec 8) (dd ob : Nat → BitVec 8) (od : Nat → Bool) (ou : Nat → BitVec 8) (lt : Nat → Bool) (IW OW : Nat → Nat → BitVec 8) (x : Nat) (sz : Nat) (hli : ∀ i, i < 12 → lin i = qw_X 12 i) (hlo : ∀ i, i < 16 → lou i = qw_X 16 i) (hx0 : x < 48) : Met l yX4_makeOuter wsX4_makeOuter ({ frames := 5, cells := 0, slots := 0, locals := 116 } : Room) (va_Pc [.ref w0, .int (nI x)] (fun U => U.heap.size = sz ∧ va_P (dC, dI) vwCl (qW2 [(x0, .inr (4, [.ref i0, .ref d0, .ref w0, .ref r0])), (i0, .inr (2, [.int (nI 12), .ref i1, .ref i2, .ref i3, .ref i4, .ref i5, .ref i6, .ref i7])), (i1, .inl (cI, 12, .inl (qS yi))), (i2, .inl (cZ, 12, .inl (qZ zi))), (i3, .inl (cI, 12, .inl (qS lin))), (i4, .inl (cI, 4, .inl (qS si))), (i5, .inl (cI, 4, .inl (qN ai))), (i6, .inl (cI, 4, .inl (qS ci))), (i7, .inl (cI, 4, .inl (qS vi))), (o0, .inr (2, [.int (nI 16), .ref o1, .ref o2, .ref o3, .ref o4, .ref o5, .ref o6, .ref o7])), (o1, .inl (cI, 16, .inl (qS yo))), (o2, .inl (cZ, 16, .inl (qZ zo))), (o3, .inl (cI, 16, .inl (qS lou))), (o4, .inl (cI, 4, .inl (qS so))), (o5, .inl (cI, 4, .inl (qN ao))), (o6, .inl (cI, 4, .inl (qS co))), (o7, .inl (cI, 4, .inl (qS vo))), (d0, .inr (0, [.ref d1, .int (nI tw), .int (nI tr)])), (d1, .inl (cI, 768, .inl (qS dd))), (w0, .inr (3, [.ref d0, .ref i0, .ref o0, .ref w1, .ref w2])), (w1, .inl (cG, 48, .inr (.inr (.inr (.inr (fun i => some (ra i))))))), (w2, .inl (cI, 16, .inl (qS ob))), (r0, .inr (1, [.ref d0, .ref i0, .ref o0, .ref r1, .ref r2, .ref r3, .ref r4, .int (nI me), .int (nI du), .int (nI fi), .int (nI le)])), (r1, .inl (cG, 48, .inr (.inr (.inr (.inr (fun i => some (rb i))))))), (r2, .inl (cZ, 48, .inl (qZ od))), (r3, .inl (cI, 384, .inl (qS ou))), (r4, .inl (cZ, 48, .inl (qZ lt)))] (qP cI ra IW) (qP cI rb OW)) U.heap ∧ va_K (dC, dI) vwCl [(cI, .int), (cZ, .boolean), (cG, .array .int)] U ∧ va_D (fun _ => True) (qW2 [(x0, .inr (4, [.ref i0, .ref d0, .ref w0, .ref r0])), (i0, .inr (2, [.int (nI 12), .ref i1, .ref i2, .ref i3, .ref i4, .ref i5, .ref i6, .ref i7])), (i1, .inl (cI, 12, .inl (qS yi))), (i2, .inl (cZ, 12, .inl (qZ zi))), (i3, .inl (cI, 12, .inl (qS lin))), (i4, .inl (cI, 4, .inl (qS si))), (i5, .inl (cI, 4, .inl (qN ai))), (i6, .inl (cI, 4, .inl (qS ci))), (i7, .inl (cI, 4, .inl (qS vi))), (o0, .inr (2, [.int (nI 16), .ref o1, .ref o2, .ref o3, .ref o4, .ref o5, .ref o6, .ref o7])), (o1, .inl (cI, 16, .inl (qS yo))), (o2, .inl (cZ, 16, .inl (qZ zo))), (o3, .inl (cI, 16, .inl (qS lou))), (o4, .inl (cI, 4, .inl (qS so))), (o5, .inl (cI, 4, .inl (qN ao))), (o6, .inl (cI, 4, .inl (qS co))), (o7, .inl (cI, 4, .inl (qS vo))), (d0, .inr (0, [.ref d1, .int (nI tw), .int (nI tr)])), (d1, .inl (cI, 768, .inl (qS dd))), (w0, .inr (3, [.ref d0, .ref i0, .ref o0, .ref w1, .ref w2])), (w1, .inl (cG, 48, .inr (.inr (.inr (.inr (fun i => some (ra i))))))), (w2, .inl (cI, 16, .inl (qS ob))), (r0, .inr (1, [.ref d0, .ref i0, .ref o0, .ref r1, .ref r2, .ref r3, .ref r4, .int (nI me), .int (nI du), .int (nI fi), .int (nI le)])), (r1, .inl (cG, 48, .inr (.inr (.inr (.inr (fun i => some (rb i))))))), (r2, .inl (cZ, 48, .inl (qZ od))), (r3, .inl (cI, 384, .inl (qS ou))), (r4, .inl (cZ, 48, .inl (qZ lt)))] (qP cI ra IW) (qP cI rb OW)) ∧ qn_N U)) (va_Qv (fun (u : (Nat → Bool) × (Nat → BitVec 8) × (Nat → Nat) × (Nat → BitVec 8) × (Nat → BitVec 8)) => True) (fun u t => va_P (dC, dI) vwCl (qW2 [(x0, .inr (4, [.ref i0, .ref d0, .ref w0, .ref r0])), (i0, .inr (2, [.int (nI 12), .ref i1, .ref i2, .ref i3, .ref i4, .ref i5, .ref i6, .ref i7])), (i1, .inl (cI, 12, .inl (qS yi))), (i2, .inl (cZ, 12, .inl (qZ zi))), (i3, .inl (cI, 12, .inl (qS lin))), (i4, .inl (cI, 4, .inl (qS si))), (i5, .inl (cI, 4, .inl (qN ai))), (i6, .inl (cI, 4, .inl (qS ci))), (i7, .inl (cI, 4, .inl (qS vi))), (o0, .inr (2, [.int (nI 16), .ref o1, .ref o2, .ref o3, .ref o4, .ref o5, .ref o6, .ref o7])), (o1, .inl (cI, 16, .inl (qS (qs_ow IW x)))), (o2, .inl (cZ, 16, .inl (qZ u.1))), (o3, .inl (cI, 16, .inl (qS lou))), (o4, .inl (cI, 4, .inl (qS u.2.1))), (o5, .inl (cI, 4, .inl (qN u.2.2.1))), (o6, .inl (cI, 4, .inl (qS u.2.2.2.1))), (o7, .inl (cI, 4, .inl (qS u.2.2.2.2))), (d0, .inr (0, [.ref d1, .int (nI tw), .int (nI tr)])), (d1, .inl (cI, 768, .inl (qS dd))), (w0, .inr (3, [.ref d0, .ref i0, .ref o0, .ref w1, .ref w2])), (w1, .inl (cG, 48, .inr (.inr (.inr (.inr (fun i => some (ra i))))))), (w2, .inl (cI, 16, .inl (qS ob))), (r0, .inr (1, [.ref d0, .ref i0, .ref o0, .ref r1, .ref r2, .ref r3, .ref r4, .int (nI me), .int (nI du), .int (nI fi), .int (nI le)])), (r1, .inl (cG, 48, .inr (.inr (.inr (.inr (fun i => some (rb i))))))), (r2, .inl (cZ, 48, .inl (qZ od))), (r3, .inl (cI, 384, .inl (qS ou))), (r4, .inl (cZ, 48, .inl (qZ lt)))] (qP cI ra IW) (qP cI rb OW)) t.heap ∧ va_K (dC, dI) vwCl [(cI, .int), (cZ, .boolean), (cG, .array .int)] t ∧ va_D (va_A (qW2 [(x0, .inr (4, [.ref i0, .ref d0, .ref w0, .ref r0])), (i0, .inr (2, [.int (nI 12), .ref i1, .ref i2, .ref i3, .ref i4, .ref i5, .ref i6, .ref i7])), (i1, .inl (cI, 12, .inl (qS yi))), (i2, .inl (cZ, 12, .inl (qZ zi))), (i3, .inl (cI, 12, .inl (qS lin))), (i4, .inl (cI, 4, .inl (qS si))), (i5, .inl (cI, 4, .inl (qN ai))), (i6, .inl (cI, 4, .inl (qS ci))), (i7, .inl (cI, 4, .inl (qS vi))), (o0, .inr (2, [.int (nI 16), .ref o1, .ref o2, .ref o3, .ref o4, .ref o5, .ref o6, .ref o7])), (o1, .inl (cI, 16, .inl (qS yo))), (o2, .inl (cZ, 16, .inl (qZ zo))), (o3, .inl (cI, 16, .inl (qS lou))), (o4, .inl (cI, 4, .inl (qS so))), (o5, .inl (cI, 4, .inl (qN ao))), (o6, .inl (cI, 4, .inl (qS co))), (o7, .inl (cI, 4, .inl (qS vo))), (d0, .inr (0, [.ref d1, .int (nI tw), .int (nI tr)])), (d1, .inl (cI, 768, .inl (qS dd))), (w0, .inr (3, [.ref d0, .ref i0, .ref o0, .ref w1, .ref w2])), (w1, .inl (cG, 48, .inr (.inr (.inr (.inr (fun i => some (ra i))))))), (w2, .inl (cI, 16, .inl (qS ob))), (r0, .inr (1, [.ref d0, .ref i0, .ref o0, .ref r1, .ref r2, .ref r3, .ref r4, .int (nI me), .int (nI du), .int (nI fi), .int (nI le)])), (r1, .inl (cG, 48, .inr (.inr (.inr (.inr (fun i => some (rb i))))))), (r2, .inl (cZ, 48, .inl (qZ od))), (r3, .inl (cI, 384, .inl (qS ou))), (r4, .inl (cZ, 48, .inl (qZ lt)))] (qP cI ra IW) (qP cI rb OW)) sz) (qW2 [(x0, .inr (4, [.ref i0, .ref d0, .ref w0, .ref r0])), (i0, .inr (2, [.int (nI 12), .ref i1, .ref i2, .ref i3, .ref i4, .ref i5, .ref i6, .ref i7])), (i1, .inl (cI, 12, .inl (qS yi))), (i2, .inl (cZ, 12, .inl (qZ zi))), (i3, .inl (cI, 12, .inl (qS lin))), (i4, .inl (cI, 4, .inl (qS si))), (i5, .inl (cI, 4, .inl (qN ai))), (i6, .inl (cI, 4, .inl (qS ci))), (i7, .inl (cI, 4, .inl (qS vi))), (o0, .inr (2, [.int (nI 16), .ref o1, .ref o2, .ref o3, .ref o4, .ref o5, .ref o6, .ref o7])), (o1, .inl (cI, 16, .inl (qS (qs_ow IW x)))), (o2, .inl (cZ, 16, .inl (qZ u.1))), (o3, .inl (cI, 16, .inl (qS lou))), (o4, .inl (cI, 4, .inl (qS u.2.1))), (o5, .inl (cI, 4, .inl (qN u.2.2.1))), (o6, .inl (cI, 4, .inl (qS u.2.2.2.1))), (o7, .inl (cI, 4, .inl (qS u.2.2.2.2))), (d0, .inr (0, [.ref d1, .int (nI tw), .int (nI tr)])), (d1, .inl (cI, 768, .inl (qS dd))), (w0, .inr (3, [.ref d0, .ref i0, .ref o0, .ref w1, .ref w2])), (w1, .inl (cG, 48, .inr (.inr (.inr (.inr (fun i => some (ra i))))))), (w2, .inl (cI, 16, .inl (qS ob))), (r0, .inr (1, [.ref d0, .ref i0, .ref o0, .ref r1, .ref r2, .ref r3, .ref r4, .int (nI me), .int (nI du), .int (nI fi), .int (nI le)])), (r1, .inl (cG, 48, .inr (.inr (.inr (.inr (fun i => some (rb i))))))), (r2, .inl (cZ, 48, .inl (qZ od))), (r3, .inl (cI, 384, .inl (qS ou))), (r4, .inl (cZ, 48, .inl (qZ lt)))] (qP cI ra IW) (qP cI rb OW))) (va_A (qW2 [(x0, .inr (4, [.ref i0, .ref d0, .ref w0, .ref r0])), (i0, .inr (2, [.int (nI 12), .ref i1, .ref i2, .ref i3, .ref i4, .ref i5, .ref i6, .ref i7])), (i1, .inl (cI, 12, .inl (qS yi))), (i2, .inl (cZ, 12, .inl (qZ zi))), (i3, .inl (cI, 12, .inl (qS lin))), (i4, .inl (cI, 4, .inl (qS si))), (i5, .inl (cI, 4, .inl (qN ai))), (i6, .inl (cI, 4, .inl (qS ci))), (i7, .inl (cI, 4, .inl (qS vi))), (o0, .inr (2, [.int (nI 16), .ref o1, .ref o2, .ref o3, .ref o4, .ref o5, .ref o6, .ref o7])), (o1, .inl (cI, 16, .inl (qS yo))), (o2, .inl (cZ, 16, .inl (qZ zo))), (o3, .inl (cI, 16, .inl (qS lou))), (o4, .inl (cI, 4, .inl (qS so))), (o5, .inl (cI, 4, .inl (qN ao))), (o6, .inl (cI, 4, .inl (qS co))), (o7, .inl (cI, 4, .inl (qS vo))), (d0, .inr (0, [.ref d1, .int (nI tw), .int (nI tr)])), (d1, .inl (cI, 768, .inl (qS dd))), (w0, .inr (3, [.ref d0, .ref i0, .ref o0, .ref w1, .ref w2])), (w1, .inl (cG, 48, .inr (.inr (.inr (.inr (fun i => some (ra i))))))), (w2, .inl (cI, 16, .inl (qS ob))), (r0, .inr (1, [.ref d0, .ref i0, .ref o0, .ref r1, .ref r2, .ref r3, .ref r4, .int (nI me), .int (nI du), .int (nI fi), .int (nI le)])), (r1, .inl (cG, 48, .inr (.inr (.inr (.inr (fun i => some (rb i))))))), (r2, .inl (cZ, 48, .inl (qZ od))), (r3, .inl (cI, 384, .inl (qS ou))), (r4, .inl (cZ, 48, .inl (qZ lt)))] (qP cI ra IW) (qP cI rb OW)) sz)) 0 0 (va_A (qW2 [(x0, .inr (4, [.ref i0, .ref d0, .ref w0, .ref r0])), (i0, .inr (2, [.int (nI 12), .ref i1, .ref i2, .ref i3, .ref i4, .ref i5, .ref i6, .ref i7])), (i1, .inl (cI, 12, .inl (qS yi))), (i2, .inl (cZ, 12, .inl (qZ zi))), (i3, .inl (cI, 12, .inl (qS lin))), (i4, .inl (cI, 4, .inl (qS si))), (i5, .inl (cI, 4, .inl (qN ai))), (i6, .inl (cI, 4, .inl (qS ci))), (i7, .inl (cI, 4, .inl (qS vi))), (o0, .inr (2, [.int (nI 16), .ref o1, .ref o2, .ref o3, .ref o4, .ref o5, .ref o6, .ref o7])), (o1, .inl (cI, 16, .inl (qS yo))), (o2, .inl (cZ, 16, .inl (qZ zo))), (o3, .inl (cI, 16, .inl (qS lou))), (o4, .inl (cI, 4, .inl (qS so))), (o5, .inl (cI, 4, .inl (qN ao))), (o6, .inl (cI, 4, .inl (qS co))), (o7, .inl (cI, 4, .inl (qS vo))), (d0, .inr (0, [.ref d1, .int (nI tw), .int (nI tr)])), (d1, .inl (cI, 768, .inl (qS dd))), (w0, .inr (3, [.ref d0, .ref i0, .ref o0, .ref w1, .ref w2])), (w1, .inl (cG, 48, .inr (.inr (.inr (.inr (fun i => some (ra i))))))), (w2, .inl (cI, 16, .inl (qS ob))), (r0, .inr (1, [.ref d0, .ref i0, .ref o0, .ref r1, .ref r2, .ref r3, .ref r4, .int (nI me), .int (nI du), .int (nI fi), .int (nI le)])), (r1, .inl (cG, 48, .inr (.inr (.inr (.inr (fun i => some (rb i))))))), (r2, .inl (cZ, 48, .inl (qZ od))), (r3, .inl (cI, 384, .inl (qS ou))), (r4, .inl (cZ, 48, .inl (qZ lt)))] (qP cI ra IW) (qP cI rb OW)) sz) := by
  refine Met.ofW (cc := cX4_makeOuter) (maxL := 3) (ret := none) (by decide) rfl ?_
  intro p e s m args below meth c s₁ B hml hv
  obtain ⟨rfl, hsz, hP, hK, hD0, hN⟩ := hv
  have hx := B.exec
  have hb := B.bytes
  have hr := B.returns
  have hts := atoms_spec (ws := wsX4_makeOuter) B.pre
  have hown : s.vm.findClass RX4 = some m.cls := findClass_of_methodNamed B.named
  have hlocks := B.notSynchronized
  subst hsz
  have hD := hD0.self (sz := s.heap.size)
  generalize hAe : va_A (qW2 [(x0, .inr (4, [.ref i0, .ref d0, .ref w0, .ref r0])), (i0, .inr (2, [.int (nI 12), .ref i1, .ref i2, .ref i3, .ref i4, .ref i5, .ref i6, .ref i7])), (i1, .inl (cI, 12, .inl (qS yi))), (i2, .inl (cZ, 12, .inl (qZ zi))), (i3, .inl (cI, 12, .inl (qS lin))), (i4, .inl (cI, 4, .inl (qS si))), (i5, .inl (cI, 4, .inl (qN ai))), (i6, .inl (cI, 4, .inl (qS ci))), (i7, .inl (cI, 4, .inl (qS vi))), (o0, .inr (2, [.int (nI 16), .ref o1, .ref o2, .ref o3, .ref o4, .ref o5, .ref o6, .ref o7])), (o1, .inl (cI, 16, .inl (qS yo))), (o2, .inl (cZ, 16, .inl (qZ zo))), (o3, .inl (cI, 16, .inl (qS lou))), (o4, .inl (cI, 4, .inl (qS so))), (o5, .inl (cI, 4, .inl (qN ao))), (o6, .inl (cI, 4, .inl (qS co))), (o7, .inl (cI, 4, .inl (qS vo))), (d0, .inr (0, [.ref d1, .int (nI tw), .int (nI tr)])), (d1, .inl (cI, 768, .inl (qS dd))), (w0, .inr (3, [.ref d0, .ref i0, .ref o0, .ref w1, .ref w2])), (w1, .inl (cG, 48, .inr (.inr (.inr (.inr (fun i => some (ra i))))))), (w2, .inl (cI, 16, .inl (qS ob))), (r0, .inr (1, [.ref d0, .ref i0, .ref o0, .ref r1, .ref r2, .ref r3, .ref r4, .int (nI me), .int (nI du), .int (nI fi), .int (nI le)])), (r1, .inl (cG, 48, .inr (.inr (.inr (.inr (fun i => some (rb i))))))), (r2, .inl (cZ, 48, .inl (qZ od))), (r3, .inl (cI, 384, .inl (qS ou))), (r4, .inl (cZ, 48, .inl (qZ lt)))] (qP cI ra IW) (qP cI rb OW)) s.heap.size = A at hD ⊢
  have hA : ∀ q : Nat, s.heap.size ≤ q → A q := fun q h => by rw [← hAe]; exact Or.inr h
  have hS : va_S A s.heap s.heap [] := va_S.rf
  have hP : va_P (dC, dI) vwCl (qW2 [(x0, .inr (4, [.ref i0, .ref d0, .ref w0, .ref r0])), (i0, .inr (2, [.int (nI 12), .ref i1, .ref i2, .ref i3, .ref i4, .ref i5, .ref i6, .ref i7])), (i1, .inl (cI, 12, .inl (qS yi))), (i2, .inl (cZ, 12, .inl (qZ zi))), (i3, .inl (cI, 12, .inl (qS lin))), (i4, .inl (cI, 4, .inl (qS si))), (i5, .inl (cI, 4, .inl (qN ai))), (i6, .inl (cI, 4, .inl (qS ci))), (i7, .inl (cI, 4, .inl (qS vi))), (o0, .inr (2, [.int (nI 16), .ref o1, .ref o2, .ref o3, .ref o4, .ref o5, .ref o6, .ref o7])), (o1, .inl (cI, 16, .inl (qS yo))), (o2, .inl (cZ, 16, .inl (qZ zo))), (o3, .inl (cI, 16, .inl (qS lou))), (o4, .inl (cI, 4, .inl (qS so))), (o5, .inl (cI, 4, .inl (qN ao))), (o6, .inl (cI, 4, .inl (qS co))), (o7, .inl (cI, 4, .inl (qS vo))), (d0, .inr (0, [.ref d1, .int (nI tw), .int (nI tr)])), (d1, .inl (cI, 768, .inl (qS dd))), (w0, .inr (3, [.ref d0, .ref i0, .ref o0, .ref w1, .ref w2])), (w1, .inl (cG, 48, .inr (.inr (.inr (.inr (fun i => some (ra i))))))), (w2, .inl (cI, 16, .inl (qS ob))), (r0, .inr (1, [.ref d0, .ref i0, .ref o0, .ref r1, .ref r2, .ref r3, .ref r4, .int (nI me), .int (nI du), .int (nI fi), .int (nI le)])), (r1, .inl (cG, 48, .inr (.inr (.inr (.inr (fun i => some (rb i))))))), (r2, .inl (cZ, 48, .inl (qZ od))), (r3, .inl (cI, 384, .inl (qS ou))), (r4, .inl (cZ, 48, .inl (qZ lt)))] (qP cI ra IW) (qP cI rb OW)) s.heap := hP
  have hl := lv_entry ([.ref w0, .int (nI x)]) (n := 3) (Nat.le_of_ble_eq_true rfl)
  rw [lg_entry_eq]
  generalize (lg_sl ([.ref w0, .int (nI x)]) ++ List.replicate (3 - (lg_sl ([.ref w0, .int (nI x)])).length) Slot.unset).toArray = ls at hl ⊢
  have hl : lv_has ls 3 [(0, .ref w0), (1, .int (nI x))] := hl
  have k_19 := hts (.fieldLink RX4 19 "DiscCoder$Writer" "outer" "LDiscCoder$Word;") (by decide +kernel)
  have k_24 := hts (.fieldLink RX4 24 "DiscCoder$Writer" "innerWords" "[[I") (by decide +kernel)
  have i_X3 : ∀ w ∈ u_ws RX3 TX3 8, w ∈ wsX4_makeOuter := by decide +kernel
  have i_X4 : ∀ w ∈ u_ws RX4 TX4 5, w ∈ wsX4_makeOuter := by decide +kernel
  refine qr_nm (fun Q hQ => ?_)
  refine lv_iconst (v := nI 0) hx hb dX4_makeOuter_0 (by decide) ?_
  refine lv_istore_n (lv' := [(2, .int (nI 0)), (0, .ref w0), (1, .int (nI x))]) hx hb dX4_makeOuter_1 rfl hl (by decide) rfl (fun ls hl => ?_)
  have lp2 : ∀ (q j : Nat), j + q = 12 → ∀  (ls : Array Slot) (H : Heap) (locs : List Loc), lv_has ls 3 [(0, .ref w0), (1, .int (nI x)), (2, .int (nI j))] → va_P (dC, dI) vwCl (qW2 [(x0, .inr (4, [.ref i0, .ref d0, .ref w0, .ref r0])), (i0, .inr (2, [.int (nI 12), .ref i1, .ref i2, .ref i3, .ref i4, .ref i5, .ref i6, .ref i7])), (i1, .inl (cI, 12, .inl (qS yi))), (i2, .inl (cZ, 12, .inl (qZ zi))), (i3, .inl (cI, 12, .inl (qS lin))), (i4, .inl (cI, 4, .inl (qS si))), (i5, .inl (cI, 4, .inl (qN ai))), (i6, .inl (cI, 4, .inl (qS ci))), (i7, .inl (cI, 4, .inl (qS vi))), (o0, .inr (2, [.int (nI 16), .ref o1, .ref o2, .ref o3, .ref o4, .ref o5, .ref o6, .ref o7])), (o1, .inl (cI, 16, .inl (qS (qm_cs yo (qs_os IW x) j)))), (o2, .inl (cZ, 16, .inl (qZ zo))), (o3, .inl (cI, 16, .inl (qS lou))), (o4, .inl (cI, 4, .inl (qS so))), (o5, .inl (cI, 4, .inl (qN ao))), (o6, .inl (cI, 4, .inl (qS co))), (o7, .inl (cI, 4, .inl (qS vo))), (d0, .inr (0, [.ref d1, .int (nI tw), .int (nI tr)])), (d1, .inl (cI, 768, .inl (qS dd))), (w0, .inr (3, [.ref d0, .ref i0, .ref o0, .ref w1, .ref w2])), (w1, .inl (cG, 48, .inr (.inr (.inr (.inr (fun i => some (ra i))))))), (w2, .inl (cI, 16, .inl (qS ob))), (r0, .inr (1, [.ref d0, .ref i0, .ref o0, .ref r1, .ref r2, .ref r3, .ref r4, .int (nI me), .int (nI du), .int (nI fi), .int (nI le)])), (r1, .inl (cG, 48, .inr (.inr (.inr (.inr (fun i => some (rb i))))))), (r2, .inl (cZ, 48, .inl (qZ od))), (r3, .inl (cI, 384, .inl (qS ou))), (r4, .inl (cZ, 48, .inl (qZ lt)))] (qP cI ra IW) (qP cI rb OW)) H → va_D A (qW2 [(x0, .inr (4, [.ref i0, .ref d0, .ref w0, .ref r0])), (i0, .inr (2, [.int (nI 12), .ref i1, .ref i2, .ref i3, .ref i4, .ref i5, .ref i6, .ref i7])), (i1, .inl (cI, 12, .inl (qS yi))), (i2, .inl (cZ, 12, .inl (qZ zi))), (i3, .inl (cI, 12, .inl (qS lin))), (i4, .inl (cI, 4, .inl (qS si))), (i5, .inl (cI, 4, .inl (qN ai))), (i6, .inl (cI, 4, .inl (qS ci))), (i7, .inl (cI, 4, .inl (qS vi))), (o0, .inr (2, [.int (nI 16), .ref o1, .ref o2, .ref o3, .ref o4, .ref o5, .ref o6, .ref o7])), (o1, .inl (cI, 16, .inl (qS (qm_cs yo (qs_os IW x) j)))), (o2, .inl (cZ, 16, .inl (qZ zo))), (o3, .inl (cI, 16, .inl (qS lou))), (o4, .inl (cI, 4, .inl (qS so))), (o5, .inl (cI, 4, .inl (qN ao))), (o6, .inl (cI, 4, .inl (qS co))), (o7, .inl (cI, 4, .inl (qS vo))), (d0, .inr (0, [.ref d1, .int (nI tw), .int (nI tr)])), (d1, .inl (cI, 768, .inl (qS dd))), (w0, .inr (3, [.ref d0, .ref i0, .ref o0, .ref w1, .ref w2])), (w1, .inl (cG, 48, .inr (.inr (.inr (.inr (fun i => some (ra i))))))), (w2, .inl (cI, 16, .inl (qS ob))), (r0, .inr (1, [.ref d0, .ref i0, .ref o0, .ref r1, .ref r2, .ref r3, .ref r4, .int (nI me), .int (nI du), .int (nI fi), .int (nI le)])), (r1, .inl (cG, 48, .inr (.inr (.inr (.inr (fun i => some (rb i))))))), (r2, .inl (cZ, 48, .inl (qZ od))), (r3, .inl (cI, 384, .inl (qS ou))), (r4, .inl (cZ, 48, .inl (qZ lt)))] (qP cI ra IW) (qP cI rb OW)) → va_S A s.heap H locs → W p l e (headSpec wsX4_makeOuter ({ frames := 5, cells := 0, slots := 0, locals := 116 } : Room)).room s m ([.ref w0, .int (nI x)] : List Value).toArray below meth c H locs 0 0 Q (F0 m 2 ls []) := by
    intro q
    induction q with
    | zero =>
      intro j hj  ls H locs hl hP hD hS
      have e9 : 12 = j := by omega
      subst e9
      refine lv_iload_n hx hb dX4_makeOuter_2 rfl (lv_at hl 2 rfl) ?_
      refine lv_bipush (v := nI 12) hx hb dX4_makeOuter_3 (by decide) ?_
      refine qr_ge (tgt := 42) hx hb dX4_makeOuter_5 rfl (by omega) (by omega) (fun b5 => ?_) (fun h => absurd h (by omega))
      refine lv_aload_n hx hb dX4_makeOuter_42 rfl (lv_at hl 0 rfl) ?_
      refine va_get (D := (dC, dI)) (ci := 3) (v := .ref o0) (C := RX4) (T := TX4) (N := 5) hx hb hts i_X4 hown hK hP 19 rfl rfl 2 (by decide) k_19 (fun _ h9 => h9) rfl dX4_makeOuter_43 ?_
      have hPc := hP.sub (ws' := [(o0, .inr (2, [.int (nI 16), .ref o1, .ref o2, .ref o3, .ref o4, .ref o5, .ref o6, .ref o7])), (o1, .inl (cI, 16, .inl (qS (qm_cs yo (qs_os IW x) 12)))), (o2, .inl (cZ, 16, .inl (qZ zo))), (o3, .inl (cI, 16, .inl (qS lou))), (o4, .inl (cI, 4, .inl (qS so))), (o5, .inl (cI, 4, .inl (qN ao))), (o6, .inl (cI, 4, .inl (qS co))), (o7, .inl (cI, 4, .inl (qS vo)))]) [9, 10, 11, 12, 13, 14, 15, 16] rfl
      have hDc := hD.sub (ws' := [(o0, .inr (2, [.int (nI 16), .ref o1, .ref o2, .ref o3, .ref o4, .ref o5, .ref o6, .ref o7])), (o1, .inl (cI, 16, .inl (qS (qm_cs yo (qs_os IW x) 12)))), (o2, .inl (cZ, 16, .inl (qZ zo))), (o3, .inl (cI, 16, .inl (qS lou))), (o4, .inl (cI, 4, .inl (qS so))), (o5, .inl (cI, 4, .inl (qN ao))), (o6, .inl (cI, 4, .inl (qS co))), (o7, .inl (cI, 4, .inl (qS vo)))]) [9, 10, 11, 12, 13, 14, 15, 16] (by decide) rfl
      have hKc := hK.sub (tys' := [(cI, .int), (cZ, .boolean)]) [0, 1] rfl
      have hFc := va_free (wc := [(o0, .inr (2, [.int (nI 16), .ref o1, .ref o2, .ref o3, .ref o4, .ref o5, .ref o6, .ref o7])), (o1, .inl (cI, 16, .inl (qS (qm_cs yo (qs_os IW x) 12)))), (o2, .inl (cZ, 16, .inl (qZ zo))), (o3, .inl (cI, 16, .inl (qS lou))), (o4, .inl (cI, 4, .inl (qS so))), (o5, .inl (cI, 4, .inl (qN ao))), (o6, .inl (cI, 4, .inl (qS co))), (o7, .inl (cI, 4, .inl (qS vo)))]) hD hS hA [9, 10, 11, 12, 13, 14, 15, 16] rfl
      refine va_callv (va_runV (As := []) (rest := []) ⟨hx, hb, hml, hown, hts⟩ (qc_checks l dC dI cI cZ o0 o1 o2 o3 o4 o5 o6 o7 16 (qm_cs yo (qs_os IW x) 12) zo lou so ao co vo H.size (by omega) hlo (by omega)) (cwV 0 hts gX4_makeOuter_X3_makeChecks rfl rfl rfl (by decide +kernel) ⟨Nat.le_of_ble_eq_true rfl, Nat.le_of_ble_eq_true rfl⟩) ⟨fun a U g mk q => by obtain ⟨q0, q1, qP, qK, qD⟩ := q; exact ⟨q0, q1, qP, va_K.moved (u := U) (U := U.calling g mk a) (Vm.Alike.refl U.vm) qK, qD⟩, (va_recv (q0 := 9) (ci := 2) hK hP rfl rfl), fun U hU hW => ⟨rfl, by rw [hU], by rw [hU]; exact hPc, va_K.moved hW.alike hKc, hDc.weaken (fun _ _ _ _ => trivial)⟩⟩ rfl rfl hl.1 rfl (lv_room (Nat.le_of_ble_eq_true rfl)) dX4_makeOuter_46 ⟨Nat.le_of_ble_eq_true rfl, Nat.le_of_ble_eq_true rfl⟩) hS (fun q _ h => hFc q h) hFc (fun u t H1 locs ht hvm hr46 hB hz1 hk1 hS => ?_)
      obtain ⟨su2_46, da2_46, ch2_46, we2_46⟩ := u
      dsimp only at hr46 hB
      obtain ⟨hP1, hK1, hD1⟩ := hB
      rw [ht] at hP1
      have hP1 : va_P (dC, dI) vwCl [(o0, .inr (2, [.int (nI 16), .ref o1, .ref o2, .ref o3, .ref o4, .ref o5, .ref o6, .ref o7])), (o1, .inl (cI, 16, .inl (qS (qw_a (qm_cs yo (qs_os IW x) 12) (qd_d (qm_mc 16 zo 16) ao 16) (qk_ch 16 (qm_mc 16 zo 16) ao (qm_cs yo (qs_os IW x) 12)) 4)))), (o2, .inl (cZ, 16, .inl (qZ (qm_mc 16 zo 16)))), (o3, .inl (cI, 16, .inl (qS lou))), (o4, .inl (cI, 4, .inl (qS su2_46))), (o5, .inl (cI, 4, .inl (qN da2_46))), (o6, .inl (cI, 4, .inl (qS ch2_46))), (o7, .inl (cI, 4, .inl (qS we2_46)))] H1 := hP1
      obtain ⟨hP, hD⟩ := qj_join (wc := [(o0, .inr (2, [.int (nI 16), .ref o1, .ref o2, .ref o3, .ref o4, .ref o5, .ref o6, .ref o7])), (o1, .inl (cI, 16, .inl (qS (qm_cs yo (qs_os IW x) 12)))), (o2, .inl (cZ, 16, .inl (qZ zo))), (o3, .inl (cI, 16, .inl (qS lou))), (o4, .inl (cI, 4, .inl (qS so))), (o5, .inl (cI, 4, .inl (qN ao))), (o6, .inl (cI, 4, .inl (qS co))), (o7, .inl (cI, 4, .inl (qS vo)))]) (w1 := [(o0, .inr (2, [.int (nI 16), .ref o1, .ref o2, .ref o3, .ref o4, .ref o5, .ref o6, .ref o7])), (o1, .inl (cI, 16, .inl (qS (qw_a (qm_cs yo (qs_os IW x) 12) (qd_d (qm_mc 16 zo 16) ao 16) (qk_ch 16 (qm_mc 16 zo 16) ao (qm_cs yo (qs_os IW x) 12)) 4)))), (o2, .inl (cZ, 16, .inl (qZ (qm_mc 16 zo 16)))), (o3, .inl (cI, 16, .inl (qS lou))), (o4, .inl (cI, 4, .inl (qS su2_46))), (o5, .inl (cI, 4, .inl (qN da2_46))), (o6, .inl (cI, 4, .inl (qS ch2_46))), (o7, .inl (cI, 4, .inl (qS we2_46)))]) hP hD [9, 10, 11, 12, 13, 14, 15, 16] rfl rfl hk1 hP1
      generalize H1 = H at hP hS ⊢
      have hP : va_P (dC, dI) vwCl (qW2 [(x0, .inr (4, [.ref i0, .ref d0, .ref w0, .ref r0])), (i0, .inr (2, [.int (nI 12), .ref i1, .ref i2, .ref i3, .ref i4, .ref i5, .ref i6, .ref i7])), (i1, .inl (cI, 12, .inl (qS yi))), (i2, .inl (cZ, 12, .inl (qZ zi))), (i3, .inl (cI, 12, .inl (qS lin))), (i4, .inl (cI, 4, .inl (qS si))), (i5, .inl (cI, 4, .inl (qN ai))), (i6, .inl (cI, 4, .inl (qS ci))), (i7, .inl (cI, 4, .inl (qS vi))), (o0, .inr (2, [.int (nI 16), .ref o1, .ref o2, .ref o3, .ref o4, .ref o5, .ref o6, .ref o7])), (o1, .inl (cI, 16, .inl (qS (qw_a (qm_cs yo (qs_os IW x) 12) (qd_d (qm_mc 16 zo 16) ao 16) (qk_ch 16 (qm_mc 16 zo 16) ao (qm_cs yo (qs_os IW x) 12)) 4)))), (o2, .inl (cZ, 16, .inl (qZ (qm_mc 16 zo 16)))), (o3, .inl (cI, 16, .inl (qS lou))), (o4, .inl (cI, 4, .inl (qS su2_46))), (o5, .inl (cI, 4, .inl (qN da2_46))), (o6, .inl (cI, 4, .inl (qS ch2_46))), (o7, .inl (cI, 4, .inl (qS we2_46))), (d0, .inr (0, [.ref d1, .int (nI tw), .int (nI tr)])), (d1, .inl (cI, 768, .inl (qS dd))), (w0, .inr (3, [.ref d0, .ref i0, .ref o0, .ref w1, .ref w2])), (w1, .inl (cG, 48, .inr (.inr (.inr (.inr (fun i => some (ra i))))))), (w2, .inl (cI, 16, .inl (qS ob))), (r0, .inr (1, [.ref d0, .ref i0, .ref o0, .ref r1, .ref r2, .ref r3, .ref r4, .int (nI me), .int (nI du), .int (nI fi), .int (nI le)])), (r1, .inl (cG, 48, .inr (.inr (.inr (.inr (fun i => some (rb i))))))), (r2, .inl (cZ, 48, .inl (qZ od))), (r3, .inl (cI, 384, .inl (qS ou))), (r4, .inl (cZ, 48, .inl (qZ lt)))] (qP cI ra IW) (qP cI rb OW)) H := hP
      have hD : va_D A (qW2 [(x0, .inr (4, [.ref i0, .ref d0, .ref w0, .ref r0])), (i0, .inr (2, [.int (nI 12), .ref i1, .ref i2, .ref i3, .ref i4, .ref i5, .ref i6, .ref i7])), (i1, .inl (cI, 12, .inl (qS yi))), (i2, .inl (cZ, 12, .inl (qZ zi))), (i3, .inl (cI, 12, .inl (qS lin))), (i4, .inl (cI, 4, .inl (qS si))), (i5, .inl (cI, 4, .inl (qN ai))), (i6, .inl (cI, 4, .inl (qS ci))), (i7, .inl (cI, 4, .inl (qS vi))), (o0, .inr (2, [.int (nI 16), .ref o1, .ref o2, .ref o3, .ref o4, .ref o5, .ref o6, .ref o7])), (o1, .inl (cI, 16, .inl (qS (qw_a (qm_cs yo (qs_os IW x) 12) (qd_d (qm_mc 16 zo 16) ao 16) (qk_ch 16 (qm_mc 16 zo 16) ao (qm_cs yo (qs_os IW x) 12)) 4)))), (o2, .inl (cZ, 16, .inl (qZ (qm_mc 16 zo 16)))), (o3, .inl (cI, 16, .inl (qS lou))), (o4, .inl (cI, 4, .inl (qS su2_46))), (o5, .inl (cI, 4, .inl (qN da2_46))), (o6, .inl (cI, 4, .inl (qS ch2_46))), (o7, .inl (cI, 4, .inl (qS we2_46))), (d0, .inr (0, [.ref d1, .int (nI tw), .int (nI tr)])), (d1, .inl (cI, 768, .inl (qS dd))), (w0, .inr (3, [.ref d0, .ref i0, .ref o0, .ref w1, .ref w2])), (w1, .inl (cG, 48, .inr (.inr (.inr (.inr (fun i => some (ra i))))))), (w2, .inl (cI, 16, .inl (qS ob))), (r0, .inr (1, [.ref d0, .ref i0, .ref o0, .ref r1, .ref r2, .ref r3, .ref r4, .int (nI me), .int (nI du), .int (nI fi), .int (nI le)])), (r1, .inl (cG, 48, .inr (.inr (.inr (.inr (fun i => some (rb i))))))), (r2, .inl (cZ, 48, .inl (qZ od))), (r3, .inl (cI, 384, .inl (qS ou))), (r4, .inl (cZ, 48, .inl (qZ lt)))] (qP cI ra IW) (qP cI rb OW)) := hD
      obtain ⟨hP, hD⟩ := qr_same (g := qS (qs_ow IW x)) hP hD 10 rfl (fun j hj => congrArg sI (qs_class (by omega) (by omega) (fun i hi => qm_cs_at (by omega)) hj))
      have hP : va_P (dC, dI) vwCl (qW2 [(x0, .inr (4, [.ref i0, .ref d0, .ref w0, .ref r0])), (i0, .inr (2, [.int (nI 12), .ref i1, .ref i2, .ref i3, .ref i4, .ref i5, .ref i6, .ref i7])), (i1, .inl (cI, 12, .inl (qS yi))), (i2, .inl (cZ, 12, .inl (qZ zi))), (i3, .inl (cI, 12, .inl (qS lin))), (i4, .inl (cI, 4, .inl (qS si))), (i5, .inl (cI, 4, .inl (qN ai))), (i6, .inl (cI, 4, .inl (qS ci))), (i7, .inl (cI, 4, .inl (qS vi))), (o0, .inr (2, [.int (nI 16), .ref o1, .ref o2, .ref o3, .ref o4, .ref o5, .ref o6, .ref o7])), (o1, .inl (cI, 16, .inl (qS (qs_ow IW x)))), (o2, .inl (cZ, 16, .inl (qZ (qm_mc 16 zo 16)))), (o3, .inl (cI, 16, .inl (qS lou))), (o4, .inl (cI, 4, .inl (qS su2_46))), (o5, .inl (cI, 4, .inl (qN da2_46))), (o6, .inl (cI, 4, .inl (qS ch2_46))), (o7, .inl (cI, 4, .inl (qS we2_46))), (d0, .inr (0, [.ref d1, .int (nI tw), .int (nI tr)])), (d1, .inl (cI, 768, .inl (qS dd))), (w0, .inr (3, [.ref d0, .ref i0, .ref o0, .ref w1, .ref w2])), (w1, .inl (cG, 48, .inr (.inr (.inr (.inr (fun i => some (ra i))))))), (w2, .inl (cI, 16, .inl (qS ob))), (r0, .inr (1, [.ref d0, .ref i0, .ref o0, .ref r1, .ref r2, .ref r3, .ref r4, .int (nI me), .int (nI du), .int (nI fi), .int (nI le)])), (r1, .inl (cG, 48, .inr (.inr (.inr (.inr (fun i => some (rb i))))))), (r2, .inl (cZ, 48, .inl (qZ od))), (r3, .inl (cI, 384, .inl (qS ou))), (r4, .inl (cZ, 48, .inl (qZ lt)))] (qP cI ra IW) (qP cI rb OW)) H := hP
      have hD : va_D A (qW2 [(x0, .inr (4, [.ref i0, .ref d0, .ref w0, .ref r0])), (i0, .inr (2, [.int (nI 12), .ref i1, .ref i2, .ref i3, .ref i4, .ref i5, .ref i6, .ref i7])), (i1, .inl (cI, 12, .inl (qS yi))), (i2, .inl (cZ, 12, .inl (qZ zi))), (i3, .inl (cI, 12, .inl (qS lin))), (i4, .inl (cI, 4, .inl (qS si))), (i5, .inl (cI, 4, .inl (qN ai))), (i6, .inl (cI, 4, .inl (qS ci))), (i7, .inl (cI, 4, .inl (qS vi))), (o0, .inr (2, [.int (nI 16), .ref o1, .ref o2, .ref o3, .ref o4, .ref o5, .ref o6, .ref o7])), (o1, .inl (cI, 16, .inl (qS (qs_ow IW x)))), (o2, .inl (cZ, 16, .inl (qZ (qm_mc 16 zo 16)))), (o3, .inl (cI, 16, .inl (qS lou))), (o4, .inl (cI, 4, .inl (qS su2_46))), (o5, .inl (cI, 4, .inl (qN da2_46))), (o6, .inl (cI, 4, .inl (qS ch2_46))), (o7, .inl (cI, 4, .inl (qS we2_46))), (d0, .inr (0, [.ref d1, .int (nI tw), .int (nI tr)])), (d1, .inl (cI, 768, .inl (qS dd))), (w0, .inr (3, [.ref d0, .ref i0, .ref o0, .ref w1, .ref w2])), (w1, .inl (cG, 48, .inr (.inr (.inr (.inr (fun i => some (ra i))))))), (w2, .inl (cI, 16, .inl (qS ob))), (r0, .inr (1, [.ref d0, .ref i0, .ref o0, .ref r1, .ref r2, .ref r3, .ref r4, .int (nI me), .int (nI du), .int (nI fi), .int (nI le)])), (r1, .inl (cG, 48, .inr (.inr (.inr (.inr (fun i => some (rb i))))))), (r2, .inl (cZ, 48, .inl (qZ od))), (r3, .inl (cI, 384, .inl (qS ou))), (r4, .inl (cZ, 48, .inl (qZ lt)))] (qP cI ra IW) (qP cI rb OW)) := hD
      subst hQ
      exact W.vret hx hb hr (fun t ht hW => ⟨⟨(qm_mc 16 zo 16, su2_46, da2_46, ch2_46, we2_46), rfl, trivial, by rw [ht]; exact hP, va_K.moved hW.alike hK, hD⟩, hS.F ht⟩) hS.2.2 dX4_makeOuter_49
    | succ q ih =>
      intro j hj  ls H locs hl hP hD hS
      have lj : j < 12 := by omega
      refine lv_iload_n hx hb dX4_makeOuter_2 rfl (lv_at hl 2 rfl) ?_
      refine lv_bipush (v := nI 12) hx hb dX4_makeOuter_3 (by decide) ?_
      refine qr_ge (tgt := 42) hx hb dX4_makeOuter_5 rfl (by omega) (by omega) (fun h => absurd h (by omega)) (fun b5 => ?_)
      refine lv_aload_n hx hb dX4_makeOuter_8 rfl (lv_at hl 0 rfl) ?_
      refine va_get (D := (dC, dI)) (ci := 3) (v := .ref o0) (C := RX4) (T := TX4) (N := 5) hx hb hts i_X4 hown hK hP 19 rfl rfl 2 (by decide) k_19 (fun _ h9 => h9) rfl dX4_makeOuter_9 ?_
      refine va_getN (D := (dC, dI)) (ci := 2) (v := .ref o1) (C := RX3) (T := TX3) (N := 8) hx hb hts i_X3 hown hK hP 9 rfl rfl 1 (by decide) (va_Nw.use rfl (hN (.fieldLinkNest "DiscCoder$Writer" 57 "DiscCoder$Word" "symbols" "[I" "DiscCoder") (by decide +kernel))) (fun _ h9 => h9) rfl dX4_makeOuter_12 ?_
      refine lv_iload_n hx hb dX4_makeOuter_15 rfl (lv_at hl 2 rfl) ?_
      refine lv_iload_n hx hb dX4_makeOuter_16 rfl (lv_at hl 1 rfl) ?_
      refine lv_iload_n hx hb dX4_makeOuter_17 rfl (lv_at hl 2 rfl) ?_
      refine qr_lt (tgt := 34) hx hb dX4_makeOuter_18 rfl (by omega) (by omega) (fun b18 => ?_) (fun b18 => ?_)
      · refine lv_iconst (v := sI 0#8) hx hb dX4_makeOuter_34 (by decide) ?_
        refine qr_istS (x := 0#8) hx hb hK hP hD hS 10 0 rfl rfl (by omega) (by omega) dX4_makeOuter_35 (fun H locs hP hD hS => ?_)
        have hP : va_P (dC, dI) vwCl (qW2 [(x0, .inr (4, [.ref i0, .ref d0, .ref w0, .ref r0])), (i0, .inr (2, [.int (nI 12), .ref i1, .ref i2, .ref i3, .ref i4, .ref i5, .ref i6, .ref i7])), (i1, .inl (cI, 12, .inl (qS yi))), (i2, .inl (cZ, 12, .inl (qZ zi))), (i3, .inl (cI, 12, .inl (qS lin))), (i4, .inl (cI, 4, .inl (qS si))), (i5, .inl (cI, 4, .inl (qN ai))), (i6, .inl (cI, 4, .inl (qS ci))), (i7, .inl (cI, 4, .inl (qS vi))), (o0, .inr (2, [.int (nI 16), .ref o1, .ref o2, .ref o3, .ref o4, .ref o5, .ref o6, .ref o7])), (o1, .inl (cI, 16, .inl (qS (va_up (qm_cs yo (qs_os IW x) j) j 0#8)))), (o2, .inl (cZ, 16, .inl (qZ zo))), (o3, .inl (cI, 16, .inl (qS lou))), (o4, .inl (cI, 4, .inl (qS so))), (o5, .inl (cI, 4, .inl (qN ao))), (o6, .inl (cI, 4, .inl (qS co))), (o7, .inl (cI, 4, .inl (qS vo))), (d0, .inr (0, [.ref d1, .int (nI tw), .int (nI tr)])), (d1, .inl (cI, 768, .inl (qS dd))), (w0, .inr (3, [.ref d0, .ref i0, .ref o0, .ref w1, .ref w2])), (w1, .inl (cG, 48, .inr (.inr (.inr (.inr (fun i => some (ra i))))))), (w2, .inl (cI, 16, .inl (qS ob))), (r0, .inr (1, [.ref d0, .ref i0, .ref o0, .ref r1, .ref r2, .ref r3, .ref r4, .int (nI me), .int (nI du), .int (nI fi), .int (nI le)])), (r1, .inl (cG, 48, .inr (.inr (.inr (.inr (fun i => some (rb i))))))), (r2, .inl (cZ, 48, .inl (qZ od))), (r3, .inl (cI, 384, .inl (qS ou))), (r4, .inl (cZ, 48, .inl (qZ lt)))] (qP cI ra IW) (qP cI rb OW)) H := hP
        have hD : va_D A (qW2 [(x0, .inr (4, [.ref i0, .ref d0, .ref w0, .ref r0])), (i0, .inr (2, [.int (nI 12), .ref i1, .ref i2, .ref i3, .ref i4, .ref i5, .ref i6, .ref i7])), (i1, .inl (cI, 12, .inl (qS yi))), (i2, .inl (cZ, 12, .inl (qZ zi))), (i3, .inl (cI, 12, .inl (qS lin))), (i4, .inl (cI, 4, .inl (qS si))), (i5, .inl (cI, 4, .inl (qN ai))), (i6, .inl (cI, 4, .inl (qS ci))), (i7, .inl (cI, 4, .inl (qS vi))), (o0, .inr (2, [.int (nI 16), .ref o1, .ref o2, .ref o3, .ref o4, .ref o5, .ref o6, .ref o7])), (o1, .inl (cI, 16, .inl (qS (va_up (qm_cs yo (qs_os IW x) j) j 0#8)))), (o2, .inl (cZ, 16, .inl (qZ zo))), (o3, .inl (cI, 16, .inl (qS lou))), (o4, .inl (cI, 4, .inl (qS so))), (o5, .inl (cI, 4, .inl (qN ao))), (o6, .inl (cI, 4, .inl (qS co))), (o7, .inl (cI, 4, .inl (qS vo))), (d0, .inr (0, [.ref d1, .int (nI tw), .int (nI tr)])), (d1, .inl (cI, 768, .inl (qS dd))), (w0, .inr (3, [.ref d0, .ref i0, .ref o0, .ref w1, .ref w2])), (w1, .inl (cG, 48, .inr (.inr (.inr (.inr (fun i => some (ra i))))))), (w2, .inl (cI, 16, .inl (qS ob))), (r0, .inr (1, [.ref d0, .ref i0, .ref o0, .ref r1, .ref r2, .ref r3, .ref r4, .int (nI me), .int (nI du), .int (nI fi), .int (nI le)])), (r1, .inl (cG, 48, .inr (.inr (.inr (.inr (fun i => some (rb i))))))), (r2, .inl (cZ, 48, .inl (qZ od))), (r3, .inl (cI, 384, .inl (qS ou))), (r4, .inl (cZ, 48, .inl (qZ lt)))] (qP cI ra IW) (qP cI rb OW)) := hD
        refine lv_iinc (k := 2) (v := nI (j + 1)) (lv' := [(2, .int (nI (j + 1))), (0, .ref w0), (1, .int (nI x))]) hx hb dX4_makeOuter_36 hl rfl (qr_inc _) (by decide) rfl (fun ls hl => ?_)
        refine lv_goto (tgt := 2) hx hb dX4_makeOuter_39 rfl ?_
        have hl := lv_sub (l' := [(0, .ref w0), (1, .int (nI x)), (2, .int (nI (j + 1)))]) hl [1, 2, 0] rfl
        have e1 : qm_cs yo (qs_os IW x) (j + 1) = va_up (qm_cs yo (qs_os IW x) j) j 0#8 := by rw [qm_cs, show qs_os IW x j = 0#8 from if_neg (by omega)]
        exact ih (j + 1) (by omega)  ls H _ (by exact hl) (by rw [e1]; exact hP) (by rw [e1]; exact hD) hS 
      · refine lv_aload_n hx hb dX4_makeOuter_21 rfl (lv_at hl 0 rfl) ?_
        refine va_get (D := (dC, dI)) (ci := 3) (v := .ref w1) (C := RX4) (T := TX4) (N := 5) hx hb hts i_X4 hown hK hP 19 rfl rfl 3 (by decide) k_24 (fun _ h9 => h9) rfl dX4_makeOuter_22 ?_
        refine lv_iload_n hx hb dX4_makeOuter_25 rfl (lv_at hl 1 rfl) ?_
        refine lv_iload_n hx hb dX4_makeOuter_26 rfl (lv_at hl 2 rfl) ?_
        refine qr_isub (z := nI (x - j)) hx hb dX4_makeOuter_27 (pk_sub (by omega)) ?_
        refine qr_ald hx hb hK hP 20 2 rfl rfl (by omega) (by omega) dX4_makeOuter_28 ?_
        refine lv_iload_n hx hb dX4_makeOuter_29 rfl (lv_at hl 2 rfl) ?_
        refine qp_ld1 hx hb hK hP 0 rfl (by omega) (by omega) dX4_makeOuter_30 ?_
        refine lv_goto (tgt := 35) hx hb dX4_makeOuter_31 rfl ?_
        refine qr_istS (x := IW (x - j) j) hx hb hK hP hD hS 10 0 rfl rfl (by omega) (by omega) dX4_makeOuter_35 (fun H locs hP hD hS => ?_)
        have hP : va_P (dC, dI) vwCl (qW2 [(x0, .inr (4, [.ref i0, .ref d0, .ref w0, .ref r0])), (i0, .inr (2, [.int (nI 12), .ref i1, .ref i2, .ref i3, .ref i4, .ref i5, .ref i6, .ref i7])), (i1, .inl (cI, 12, .inl (qS yi))), (i2, .inl (cZ, 12, .inl (qZ zi))), (i3, .inl (cI, 12, .inl (qS lin))), (i4, .inl (cI, 4, .inl (qS si))), (i5, .inl (cI, 4, .inl (qN ai))), (i6, .inl (cI, 4, .inl (qS ci))), (i7, .inl (cI, 4, .inl (qS vi))), (o0, .inr (2, [.int (nI 16), .ref o1, .ref o2, .ref o3, .ref o4, .ref o5, .ref o6, .ref o7])), (o1, .inl (cI, 16, .inl (qS (va_up (qm_cs yo (qs_os IW x) j) j (IW (x - j) j))))), (o2, .inl (cZ, 16, .inl (qZ zo))), (o3, .inl (cI, 16, .inl (qS lou))), (o4, .inl (cI, 4, .inl (qS so))), (o5, .inl (cI, 4, .inl (qN ao))), (o6, .inl (cI, 4, .inl (qS co))), (o7, .inl (cI, 4, .inl (qS vo))), (d0, .inr (0, [.ref d1, .int (nI tw), .int (nI tr)])), (d1, .inl (cI, 768, .inl (qS dd))), (w0, .inr (3, [.ref d0, .ref i0, .ref o0, .ref w1, .ref w2])), (w1, .inl (cG, 48, .inr (.inr (.inr (.inr (fun i => some (ra i))))))), (w2, .inl (cI, 16, .inl (qS ob))), (r0, .inr (1, [.ref d0, .ref i0, .ref o0, .ref r1, .ref r2, .ref r3, .ref r4, .int (nI me), .int (nI du), .int (nI fi), .int (nI le)])), (r1, .inl (cG, 48, .inr (.inr (.inr (.inr (fun i => some (rb i))))))), (r2, .inl (cZ, 48, .inl (qZ od))), (r3, .inl (cI, 384, .inl (qS ou))), (r4, .inl (cZ, 48, .inl (qZ lt)))] (qP cI ra IW) (qP cI rb OW)) H := hP
        have hD : va_D A (qW2 [(x0, .inr (4, [.ref i0, .ref d0, .ref w0, .ref r0])), (i0, .inr (2, [.int (nI 12), .ref i1, .ref i2, .ref i3, .ref i4, .ref i5, .ref i6, .ref i7])), (i1, .inl (cI, 12, .inl (qS yi))), (i2, .inl (cZ, 12, .inl (qZ zi))), (i3, .inl (cI, 12, .inl (qS lin))), (i4, .inl (cI, 4, .inl (qS si))), (i5, .inl (cI, 4, .inl (qN ai))), (i6, .inl (cI, 4, .inl (qS ci))), (i7, .inl (cI, 4, .inl (qS vi))), (o0, .inr (2, [.int (nI 16), .ref o1, .ref o2, .ref o3, .ref o4, .ref o5, .ref o6, .ref o7])), (o1, .inl (cI, 16, .inl (qS (va_up (qm_cs yo (qs_os IW x) j) j (IW (x - j) j))))), (o2, .inl (cZ, 16, .inl (qZ zo))), (o3, .inl (cI, 16, .inl (qS lou))), (o4, .inl (cI, 4, .inl (qS so))), (o5, .inl (cI, 4, .inl (qN ao))), (o6, .inl (cI, 4, .inl (qS co))), (o7, .inl (cI, 4, .inl (qS vo))), (d0, .inr (0, [.ref d1, .int (nI tw), .int (nI tr)])), (d1, .inl (cI, 768, .inl (qS dd))), (w0, .inr (3, [.ref d0, .ref i0, .ref o0, .ref w1, .ref w2])), (w1, .inl (cG, 48, .inr (.inr (.inr (.inr (fun i => some (ra i))))))), (w2, .inl (cI, 16, .inl (qS ob))), (r0, .inr (1, [.ref d0, .ref i0, .ref o0, .ref r1, .ref r2, .ref r3, .ref r4, .int (nI me), .int (nI du), .int (nI fi), .int (nI le)])), (r1, .inl (cG, 48, .inr (.inr (.inr (.inr (fun i => some (rb i))))))), (r2, .inl (cZ, 48, .inl (qZ od))), (r3, .inl (cI, 384, .inl (qS ou))), (r4, .inl (cZ, 48, .inl (qZ lt)))] (qP cI ra IW) (qP cI rb OW)) := hD
        refine lv_iinc (k := 2) (v := nI (j + 1)) (lv' := [(2, .int (nI (j + 1))), (0, .ref w0), (1, .int (nI x))]) hx hb dX4_makeOuter_36 hl rfl (qr_inc _) (by decide) rfl (fun ls hl => ?_)
        refine lv_goto (tgt := 2) hx hb dX4_makeOuter_39 rfl ?_
        have hl := lv_sub (l' := [(0, .ref w0), (1, .int (nI x)), (2, .int (nI (j + 1)))]) hl [1, 2, 0] rfl
        have e2 : qm_cs yo (qs_os IW x) (j + 1) = va_up (qm_cs yo (qs_os IW x) j) j (IW (x - j) j) := by rw [qm_cs, show qs_os IW x j = IW (x - j) j from if_pos b18]
        exact ih (j + 1) (by omega)  ls H _ (by exact hl) (by rw [e2]; exact hP) (by rw [e2]; exact hD) hS 
  have hl := lv_sub (l' := [(0, .ref w0), (1, .int (nI x)), (2, .int (nI 0))]) hl [1, 2, 0] rfl
  exact lp2 12 0 (by omega)  ls s.heap _ hl hP hD hS 
set_option maxHeartbeats 4000000 in
set_option maxRecDepth 100000 in
/-- Writer.writeRow -/
theorem qc_wrRow (l : Launch) (dC : Nat → ClassId) (dI : Nat → Nat → Nat) (cI cZ cG : ClassId) (x0 i0 i1 i2 i3 i4 i5 i6 i7 o0 o1 o2 o3 o4 o5 o6 o7 d0 d1 w0 w1 w2 r0 r1 r2 r3 r4 tw tr me du fi le : Nat) (ra rb : Nat → Nat) (yi : Nat → BitVec 8) (zi : Nat → Bool) (lin si : Nat → BitVec 8) (ai : Nat → Nat) (ci vi : Nat → BitVec 8) (yo : Nat → BitVec 8) (zo : Nat → Bool) (lou so : Nat → BitVec 8) (ao : Nat → Nat) (co vo : Nat → BitVec 8) (dd ob : Nat → BitVec 8) (od : Nat → Bool) (ou : Nat → BitVec 8) (lt : Nat → Bool) (IW OW : Nat → Nat → BitVec 8) (x : Nat) (sz : Nat) (hx0 : x < 48) : Met l yX4_writeRow wsX4_writeRow ({ frames := 2, cells := 0, slots := 0, locals := 44 } : Room) (va_Pc [.ref w0, .int (nI x)] (fun U => U.heap.size = sz ∧ va_P (dC, dI) vwCl (qW2 [(x0, .inr (4, [.ref i0, .ref d0, .ref w0, .ref r0])), (i0, .inr (2, [.int (nI 12), .ref i1, .ref i2, .ref i3, .ref i4, .ref i5, .ref i6, .ref i7])), (i1, .inl (cI, 12, .inl (qS yi))), (i2, .inl (cZ, 12, .inl (qZ zi))), (i3, .inl (cI, 12, .inl (qS lin))), (i4, .inl (cI, 4, .inl (qS si))), (i5, .inl (cI, 4, .inl (qN ai))), (i6, .inl (cI, 4, .inl (qS ci))), (i7, .inl (cI, 4, .inl (qS vi))), (o0, .inr (2, [.int (nI 16), .ref o1, .ref o2, .ref o3, .ref o4, .ref o5, .ref o6, .ref o7])), (o1, .inl (cI, 16, .inl (qS yo))), (o2, .inl (cZ, 16, .inl (qZ zo))), (o3, .inl (cI, 16, .inl (qS lou))), (o4, .inl (cI, 4, .inl (qS so))), (o5, .inl (cI, 4, .inl (qN ao))), (o6, .inl (cI, 4, .inl (qS co))), (o7, .inl (cI, 4, .inl (qS vo))), (d0, .inr (0, [.ref d1, .int (nI tw), .int (nI tr)])), (d1, .inl (cI, 768, .inl (qS dd))), (w0, .inr (3, [.ref d0, .ref i0, .ref o0, .ref w1, .ref w2])), (w1, .inl (cG, 48, .inr (.inr (.inr (.inr (fun i => some (ra i))))))), (w2, .inl (cI, 16, .inl (qS ob))), (r0, .inr (1, [.ref d0, .ref i0, .ref o0, .ref r1, .ref r2, .ref r3, .ref r4, .int (nI me), .int (nI du), .int (nI fi), .int (nI le)])), (r1, .inl (cG, 48, .inr (.inr (.inr (.inr (fun i => some (rb i))))))), (r2, .inl (cZ, 48, .inl (qZ od))), (r3, .inl (cI, 384, .inl (qS ou))), (r4, .inl (cZ, 48, .inl (qZ lt)))] (qP cI ra IW) (qP cI rb OW)) U.heap ∧ va_K (dC, dI) vwCl [(cI, .int), (cZ, .boolean), (cG, .array .int)] U ∧ va_D (fun _ => True) (qW2 [(x0, .inr (4, [.ref i0, .ref d0, .ref w0, .ref r0])), (i0, .inr (2, [.int (nI 12), .ref i1, .ref i2, .ref i3, .ref i4, .ref i5, .ref i6, .ref i7])), (i1, .inl (cI, 12, .inl (qS yi))), (i2, .inl (cZ, 12, .inl (qZ zi))), (i3, .inl (cI, 12, .inl (qS lin))), (i4, .inl (cI, 4, .inl (qS si))), (i5, .inl (cI, 4, .inl (qN ai))), (i6, .inl (cI, 4, .inl (qS ci))), (i7, .inl (cI, 4, .inl (qS vi))), (o0, .inr (2, [.int (nI 16), .ref o1, .ref o2, .ref o3, .ref o4, .ref o5, .ref o6, .ref o7])), (o1, .inl (cI, 16, .inl (qS yo))), (o2, .inl (cZ, 16, .inl (qZ zo))), (o3, .inl (cI, 16, .inl (qS lou))), (o4, .inl (cI, 4, .inl (qS so))), (o5, .inl (cI, 4, .inl (qN ao))), (o6, .inl (cI, 4, .inl (qS co))), (o7, .inl (cI, 4, .inl (qS vo))), (d0, .inr (0, [.ref d1, .int (nI tw), .int (nI tr)])), (d1, .inl (cI, 768, .inl (qS dd))), (w0, .inr (3, [.ref d0, .ref i0, .ref o0, .ref w1, .ref w2])), (w1, .inl (cG, 48, .inr (.inr (.inr (.inr (fun i => some (ra i))))))), (w2, .inl (cI, 16, .inl (qS ob))), (r0, .inr (1, [.ref d0, .ref i0, .ref o0, .ref r1, .ref r2, .ref r3, .ref r4, .int (nI me), .int (nI du), .int (nI fi), .int (nI le)])), (r1, .inl (cG, 48, .inr (.inr (.inr (.inr (fun i => some (rb i))))))), (r2, .inl (cZ, 48, .inl (qZ od))), (r3, .inl (cI, 384, .inl (qS ou))), (r4, .inl (cZ, 48, .inl (qZ lt)))] (qP cI ra IW) (qP cI rb OW)) ∧ qn_N U)) (va_Qv (fun (_ : Unit) => True) (fun _ t => va_P (dC, dI) vwCl (qW2 [(x0, .inr (4, [.ref i0, .ref d0, .ref w0, .ref r0])), (i0, .inr (2, [.int (nI 12), .ref i1, .ref i2, .ref i3, .ref i4, .ref i5, .ref i6, .ref i7])), (i1, .inl (cI, 12, .inl (qS yi))), (i2, .inl (cZ, 12, .inl (qZ zi))), (i3, .inl (cI, 12, .inl (qS lin))), (i4, .inl (cI, 4, .inl (qS si))), (i5, .inl (cI, 4, .inl (qN ai))), (i6, .inl (cI, 4, .inl (qS ci))), (i7, .inl (cI, 4, .inl (qS vi))), (o0, .inr (2, [.int (nI 16), .ref o1, .ref o2, .ref o3, .ref o4, .ref o5, .ref o6, .ref o7])), (o1, .inl (cI, 16, .inl (qS yo))), (o2, .inl (cZ, 16, .inl (qZ zo))), (o3, .inl (cI, 16, .inl (qS lou))), (o4, .inl (cI, 4, .inl (qS so))), (o5, .inl (cI, 4, .inl (qN ao))), (o6, .inl (cI, 4, .inl (qS co))), (o7, .inl (cI, 4, .inl (qS vo))), (d0, .inr (0, [.ref d1, .int (nI tw), .int (nI tr)])), (d1, .inl (cI, 768, .inl (qS (qs_wr dd x yo ob 16)))), (w0, .inr (3, [.ref d0, .ref i0, .ref o0, .ref w1, .ref w2])), (w1, .inl (cG, 48, .inr (.inr (.inr (.inr (fun i => some (ra i))))))), (w2, .inl (cI, 16, .inl (qS yo))), (r0, .inr (1, [.ref d0, .ref i0, .ref o0, .ref r1, .ref r2, .ref r3, .ref r4, .int (nI me), .int (nI du), .int (nI fi), .int (nI le)])), (r1, .inl (cG, 48, .inr (.inr (.inr (.inr (fun i => some (rb i))))))), (r2, .inl (cZ, 48, .inl (qZ od))), (r3, .inl (cI, 384, .inl (qS ou))), (r4, .inl (cZ, 48, .inl (qZ lt)))] (qP cI ra IW) (qP cI rb OW)) t.heap ∧ va_K (dC, dI) vwCl [(cI, .int), (cZ, .boolean), (cG, .array .int)] t ∧ va_D (va_A (qW2 [(x0, .inr (4, [.ref i0, .ref d0, .ref w0, .ref r0])), (i0, .inr (2, [.int (nI 12), .ref i1, .ref i2, .ref i3, .ref i4, .ref i5, .ref i6, .ref i7])), (i1, .inl (cI, 12, .inl (qS yi))), (i2, .inl (cZ, 12, .inl (qZ zi))), (i3, .inl (cI, 12, .inl (qS lin))), (i4, .inl (cI, 4, .inl (qS si))), (i5, .inl (cI, 4, .inl (qN ai))), (i6, .inl (cI, 4, .inl (qS ci))), (i7, .inl (cI, 4, .inl (qS vi))), (o0, .inr (2, [.int (nI 16), .ref o1, .ref o2, .ref o3, .ref o4, .ref o5, .ref o6, .ref o7])), (o1, .inl (cI, 16, .inl (qS yo))), (o2, .inl (cZ, 16, .inl (qZ zo))), (o3, .inl (cI, 16, .inl (qS lou))), (o4, .inl (cI, 4, .inl (qS so))), (o5, .inl (cI, 4, .inl (qN ao))), (o6, .inl (cI, 4, .inl (qS co))), (o7, .inl (cI, 4, .inl (qS vo))), (d0, .inr (0, [.ref d1, .int (nI tw), .int (nI tr)])), (d1, .inl (cI, 768, .inl (qS dd))), (w0, .inr (3, [.ref d0, .ref i0, .ref o0, .ref w1, .ref w2])), (w1, .inl (cG, 48, .inr (.inr (.inr (.inr (fun i => some (ra i))))))), (w2, .inl (cI, 16, .inl (qS ob))), (r0, .inr (1, [.ref d0, .ref i0, .ref o0, .ref r1, .ref r2, .ref r3, .ref r4, .int (nI me), .int (nI du), .int (nI fi), .int (nI le)])), (r1, .inl (cG, 48, .inr (.inr (.inr (.inr (fun i => some (rb i))))))), (r2, .inl (cZ, 48, .inl (qZ od))), (r3, .inl (cI, 384, .inl (qS ou))), (r4, .inl (cZ, 48, .inl (qZ lt)))] (qP cI ra IW) (qP cI rb OW)) sz) (qW2 [(x0, .inr (4, [.ref i0, .ref d0, .ref w0, .ref r0])), (i0, .inr (2, [.int (nI 12), .ref i1, .ref i2, .ref i3, .ref i4, .ref i5, .ref i6, .ref i7])), (i1, .inl (cI, 12, .inl (qS yi))), (i2, .inl (cZ, 12, .inl (qZ zi))), (i3, .inl (cI, 12, .inl (qS lin))), (i4, .inl (cI, 4, .inl (qS si))), (i5, .inl (cI, 4, .inl (qN ai))), (i6, .inl (cI, 4, .inl (qS ci))), (i7, .inl (cI, 4, .inl (qS vi))), (o0, .inr (2, [.int (nI 16), .ref o1, .ref o2, .ref o3, .ref o4, .ref o5, .ref o6, .ref o7])), (o1, .inl (cI, 16, .inl (qS yo))), (o2, .inl (cZ, 16, .inl (qZ zo))), (o3, .inl (cI, 16, .inl (qS lou))), (o4, .inl (cI, 4, .inl (qS so))), (o5, .inl (cI, 4, .inl (qN ao))), (o6, .inl (cI, 4, .inl (qS co))), (o7, .inl (cI, 4, .inl (qS vo))), (d0, .inr (0, [.ref d1, .int (nI tw), .int (nI tr)])), (d1, .inl (cI, 768, .inl (qS (qs_wr dd x yo ob 16)))), (w0, .inr (3, [.ref d0, .ref i0, .ref o0, .ref w1, .ref w2])), (w1, .inl (cG, 48, .inr (.inr (.inr (.inr (fun i => some (ra i))))))), (w2, .inl (cI, 16, .inl (qS yo))), (r0, .inr (1, [.ref d0, .ref i0, .ref o0, .ref r1, .ref r2, .ref r3, .ref r4, .int (nI me), .int (nI du), .int (nI fi), .int (nI le)])), (r1, .inl (cG, 48, .inr (.inr (.inr (.inr (fun i => some (rb i))))))), (r2, .inl (cZ, 48, .inl (qZ od))), (r3, .inl (cI, 384, .inl (qS ou))), (r4, .inl (cZ, 48, .inl (qZ lt)))] (qP cI ra IW) (qP cI rb OW))) (va_A (qW2 [(x0, .inr (4, [.ref i0, .ref d0, .ref w0, .ref r0])), (i0, .inr (2, [.int (nI 12), .ref i1, .ref i2, .ref i3, .ref i4, .ref i5, .ref i6, .ref i7])), (i1, .inl (cI, 12, .inl (qS yi))), (i2, .inl (cZ, 12, .inl (qZ zi))), (i3, .inl (cI, 12, .inl (qS lin))), (i4, .inl (cI, 4, .inl (qS si))), (i5, .inl (cI, 4, .inl (qN ai))), (i6, .inl (cI, 4, .inl (qS ci))), (i7, .inl (cI, 4, .inl (qS vi))), (o0, .inr (2, [.int (nI 16), .ref o1, .ref o2, .ref o3, .ref o4, .ref o5, .ref o6, .ref o7])), (o1, .inl (cI, 16, .inl (qS yo))), (o2, .inl (cZ, 16, .inl (qZ zo))), (o3, .inl (cI, 16, .inl (qS lou))), (o4, .inl (cI, 4, .inl (qS so))), (o5, .inl (cI, 4, .inl (qN ao))), (o6, .inl (cI, 4, .inl (qS co))), (o7, .inl (cI, 4, .inl (qS vo))), (d0, .inr (0, [.ref d1, .int (nI tw), .int (nI tr)])), (d1, .inl (cI, 768, .inl (qS dd))), (w0, .inr (3, [.ref d0, .ref i0, .ref o0, .ref w1, .ref w2])), (w1, .inl (cG, 48, .inr (.inr (.inr (.inr (fun i => some (ra i))))))), (w2, .inl (cI, 16, .inl (qS ob))), (r0, .inr (1, [.ref d0, .ref i0, .ref o0, .ref r1, .ref r2, .ref r3, .ref r4, .int (nI me), .int (nI du), .int (nI fi), .int (nI le)])), (r1, .inl (cG, 48, .inr (.inr (.inr (.inr (fun i => some (rb i))))))), (r2, .inl (cZ, 48, .inl (qZ od))), (r3, .inl (cI, 384, .inl (qS ou))), (r4, .inl (cZ, 48, .inl (qZ lt)))] (qP cI ra IW) (qP cI rb OW)) sz)) 0 0 (va_A (qW2 [(x0, .inr (4, [.ref i0, .ref d0, .ref w0, .ref r0])), (i0, .inr (2, [.int (nI 12), .ref i1, .ref i2, .ref i3, .ref i4, .ref i5, .ref i6, .ref i7])), (i1, .inl (cI, 12, .inl (qS yi))), (i2, .inl (cZ, 12, .inl (qZ zi))), (i3, .inl (cI, 12, .inl (qS lin))), (i4, .inl (cI, 4, .inl (qS si))), (i5, .inl (cI, 4, .inl (qN ai))), (i6, .inl (cI, 4, .inl (qS ci))), (i7, .inl (cI, 4, .inl (qS vi))), (o0, .inr (2, [.int (nI 16), .ref o1, .ref o2, .ref o3, .ref o4, .ref o5, .ref o6, .ref o7])), (o1, .inl (cI, 16, .inl (qS yo))), (o2, .inl (cZ, 16, .inl (qZ zo))), (o3, .inl (cI, 16, .inl (qS lou))), (o4, .inl (cI, 4, .inl (qS so))), (o5, .inl (cI, 4, .inl (qN ao))), (o6, .inl (cI, 4, .inl (qS co))), (o7, .inl (cI, 4, .inl (qS vo))), (d0, .inr (0, [.ref d1, .int (nI tw), .int (nI tr)])), (d1, .inl (cI, 768, .inl (qS dd))), (w0, .inr (3, [.ref d0, .ref i0, .ref o0, .ref w1, .ref w2])), (w1, .inl (cG, 48, .inr (.inr (.inr (.inr (fun i => some (ra i))))))), (w2, .inl (cI, 16, .inl (qS ob))), (r0, .inr (1, [.ref d0, .ref i0, .ref o0, .ref r1, .ref r2, .ref r3, .ref r4, .int (nI me), .int (nI du), .int (nI fi), .int (nI le)])), (r1, .inl (cG, 48, .inr (.inr (.inr (.inr (fun i => some (rb i))))))), (r2, .inl (cZ, 48, .inl (qZ od))), (r3, .inl (cI, 384, .inl (qS ou))), (r4, .inl (cZ, 48, .inl (qZ lt)))] (qP cI ra IW) (qP cI rb OW)) sz) := by
  refine Met.ofW (cc := cX4_writeRow) (maxL := 3) (ret := none) (by decide) rfl ?_
  intro p e s m args below meth c s₁ B hml hv
  obtain ⟨rfl, hsz, hP, hK, hD0, hN⟩ := hv
  have hx := B.exec
  have hb := B.bytes
  have hr := B.returns
  have hts := atoms_spec (ws := wsX4_writeRow) B.pre
  have hown : s.vm.findClass RX4 = some m.cls := findClass_of_methodNamed B.named
  have hlocks := B.notSynchronized
  subst hsz
  have hD := hD0.self (sz := s.heap.size)
  generalize hAe : va_A (qW2 [(x0, .inr (4, [.ref i0, .ref d0, .ref w0, .ref r0])), (i0, .inr (2, [.int (nI 12), .ref i1, .ref i2, .ref i3, .ref i4, .ref i5, .ref i6, .ref i7])), (i1, .inl (cI, 12, .inl (qS yi))), (i2, .inl (cZ, 12, .inl (qZ zi))), (i3, .inl (cI, 12, .inl (qS lin))), (i4, .inl (cI, 4, .inl (qS si))), (i5, .inl (cI, 4, .inl (qN ai))), (i6, .inl (cI, 4, .inl (qS ci))), (i7, .inl (cI, 4, .inl (qS vi))), (o0, .inr (2, [.int (nI 16), .ref o1, .ref o2, .ref o3, .ref o4, .ref o5, .ref o6, .ref o7])), (o1, .inl (cI, 16, .inl (qS yo))), (o2, .inl (cZ, 16, .inl (qZ zo))), (o3, .inl (cI, 16, .inl (qS lou))), (o4, .inl (cI, 4, .inl (qS so))), (o5, .inl (cI, 4, .inl (qN ao))), (o6, .inl (cI, 4, .inl (qS co))), (o7, .inl (cI, 4, .inl (qS vo))), (d0, .inr (0, [.ref d1, .int (nI tw), .int (nI tr)])), (d1, .inl (cI, 768, .inl (qS dd))), (w0, .inr (3, [.ref d0, .ref i0, .ref o0, .ref w1, .ref w2])), (w1, .inl (cG, 48, .inr (.inr (.inr (.inr (fun i => some (ra i))))))), (w2, .inl (cI, 16, .inl (qS ob))), (r0, .inr (1, [.ref d0, .ref i0, .ref o0, .ref r1, .ref r2, .ref r3, .ref r4, .int (nI me), .int (nI du), .int (nI fi), .int (nI le)])), (r1, .inl (cG, 48, .inr (.inr (.inr (.inr (fun i => some (rb i))))))), (r2, .inl (cZ, 48, .inl (qZ od))), (r3, .inl (cI, 384, .inl (qS ou))), (r4, .inl (cZ, 48, .inl (qZ lt)))] (qP cI ra IW) (qP cI rb OW)) s.heap.size = A at hD ⊢
  have hA : ∀ q : Nat, s.heap.size ≤ q → A q := fun q h => by rw [← hAe]; exact Or.inr h
  have hS : va_S A s.heap s.heap [] := va_S.rf
  have hP : va_P (dC, dI) vwCl (qW2 [(x0, .inr (4, [.ref i0, .ref d0, .ref w0, .ref r0])), (i0, .inr (2, [.int (nI 12), .ref i1, .ref i2, .ref i3, .ref i4, .ref i5, .ref i6, .ref i7])), (i1, .inl (cI, 12, .inl (qS yi))), (i2, .inl (cZ, 12, .inl (qZ zi))), (i3, .inl (cI, 12, .inl (qS lin))), (i4, .inl (cI, 4, .inl (qS si))), (i5, .inl (cI, 4, .inl (qN ai))), (i6, .inl (cI, 4, .inl (qS ci))), (i7, .inl (cI, 4, .inl (qS vi))), (o0, .inr (2, [.int (nI 16), .ref o1, .ref o2, .ref o3, .ref o4, .ref o5, .ref o6, .ref o7])), (o1, .inl (cI, 16, .inl (qS yo))), (o2, .inl (cZ, 16, .inl (qZ zo))), (o3, .inl (cI, 16, .inl (qS lou))), (o4, .inl (cI, 4, .inl (qS so))), (o5, .inl (cI, 4, .inl (qN ao))), (o6, .inl (cI, 4, .inl (qS co))), (o7, .inl (cI, 4, .inl (qS vo))), (d0, .inr (0, [.ref d1, .int (nI tw), .int (nI tr)])), (d1, .inl (cI, 768, .inl (qS dd))), (w0, .inr (3, [.ref d0, .ref i0, .ref o0, .ref w1, .ref w2])), (w1, .inl (cG, 48, .inr (.inr (.inr (.inr (fun i => some (ra i))))))), (w2, .inl (cI, 16, .inl (qS ob))), (r0, .inr (1, [.ref d0, .ref i0, .ref o0, .ref r1, .ref r2, .ref r3, .ref r4, .int (nI me), .int (nI du), .int (nI fi), .int (nI le)])), (r1, .inl (cG, 48, .inr (.inr (.inr (.inr (fun i => some (rb i))))))), (r2, .inl (cZ, 48, .inl (qZ od))), (r3, .inl (cI, 384, .inl (qS ou))), (r4, .inl (cZ, 48, .inl (qZ lt)))] (qP cI ra IW) (qP cI rb OW)) s.heap := hP
  have hl := lv_entry ([.ref w0, .int (nI x)]) (n := 3) (Nat.le_of_ble_eq_true rfl)
  rw [lg_entry_eq]
  generalize (lg_sl ([.ref w0, .int (nI x)]) ++ List.replicate (3 - (lg_sl ([.ref w0, .int (nI x)])).length) Slot.unset).toArray = ls at hl ⊢
  have hl : lv_has ls 3 [(0, .ref w0), (1, .int (nI x))] := hl
  have k_9 := hts (.fieldLink RX4 9 "DiscCoder$Writer" "disc" "LDiscCoder$Disc;") (by decide +kernel)
  have k_19 := hts (.fieldLink RX4 19 "DiscCoder$Writer" "outer" "LDiscCoder$Word;") (by decide +kernel)
  have k_27 := hts (.fieldLink RX4 27 "DiscCoder$Writer" "outerBefore" "[I") (by decide +kernel)
  have i_X3 : ∀ w ∈ u_ws RX3 TX3 8, w ∈ wsX4_writeRow := by decide +kernel
  have i_X4 : ∀ w ∈ u_ws RX4 TX4 5, w ∈ wsX4_writeRow := by decide +kernel
  refine qr_nm (fun Q hQ => ?_)
  refine lv_iconst (v := nI 0) hx hb dX4_writeRow_0 (by decide) ?_
  refine lv_istore_n (lv' := [(2, .int (nI 0)), (0, .ref w0), (1, .int (nI x))]) hx hb dX4_writeRow_1 rfl hl (by decide) rfl (fun ls hl => ?_)
  have lp2 : ∀ (q i : Nat), i + q = 16 → ∀  (ls : Array Slot) (H : Heap) (locs : List Loc), lv_has ls 3 [(0, .ref w0), (1, .int (nI x)), (2, .int (nI i))] → va_P (dC, dI) vwCl (qW2 [(x0, .inr (4, [.ref i0, .ref d0, .ref w0, .ref r0])), (i0, .inr (2, [.int (nI 12), .ref i1, .ref i2, .ref i3, .ref i4, .ref i5, .ref i6, .ref i7])), (i1, .inl (cI, 12, .inl (qS yi))), (i2, .inl (cZ, 12, .inl (qZ zi))), (i3, .inl (cI, 12, .inl (qS lin))), (i4, .inl (cI, 4, .inl (qS si))), (i5, .inl (cI, 4, .inl (qN ai))), (i6, .inl (cI, 4, .inl (qS ci))), (i7, .inl (cI, 4, .inl (qS vi))), (o0, .inr (2, [.int (nI 16), .ref o1, .ref o2, .ref o3, .ref o4, .ref o5, .ref o6, .ref o7])), (o1, .inl (cI, 16, .inl (qS yo))), (o2, .inl (cZ, 16, .inl (qZ zo))), (o3, .inl (cI, 16, .inl (qS lou))), (o4, .inl (cI, 4, .inl (qS so))), (o5, .inl (cI, 4, .inl (qN ao))), (o6, .inl (cI, 4, .inl (qS co))), (o7, .inl (cI, 4, .inl (qS vo))), (d0, .inr (0, [.ref d1, .int (nI tw), .int (nI tr)])), (d1, .inl (cI, 768, .inl (qS (qs_wr dd x yo ob i)))), (w0, .inr (3, [.ref d0, .ref i0, .ref o0, .ref w1, .ref w2])), (w1, .inl (cG, 48, .inr (.inr (.inr (.inr (fun i => some (ra i))))))), (w2, .inl (cI, 16, .inl (qS (qm_cs ob yo i)))), (r0, .inr (1, [.ref d0, .ref i0, .ref o0, .ref r1, .ref r2, .ref r3, .ref r4, .int (nI me), .int (nI du), .int (nI fi), .int (nI le)])), (r1, .inl (cG, 48, .inr (.inr (.inr (.inr (fun i => some (rb i))))))), (r2, .inl (cZ, 48, .inl (qZ od))), (r3, .inl (cI, 384, .inl (qS ou))), (r4, .inl (cZ, 48, .inl (qZ lt)))] (qP cI ra IW) (qP cI rb OW)) H → va_D A (qW2 [(x0, .inr (4, [.ref i0, .ref d0, .ref w0, .ref r0])), (i0, .inr (2, [.int (nI 12), .ref i1, .ref i2, .ref i3, .ref i4, .ref i5, .ref i6, .ref i7])), (i1, .inl (cI, 12, .inl (qS yi))), (i2, .inl (cZ, 12, .inl (qZ zi))), (i3, .inl (cI, 12, .inl (qS lin))), (i4, .inl (cI, 4, .inl (qS si))), (i5, .inl (cI, 4, .inl (qN ai))), (i6, .inl (cI, 4, .inl (qS ci))), (i7, .inl (cI, 4, .inl (qS vi))), (o0, .inr (2, [.int (nI 16), .ref o1, .ref o2, .ref o3, .ref o4, .ref o5, .ref o6, .ref o7])), (o1, .inl (cI, 16, .inl (qS yo))), (o2, .inl (cZ, 16, .inl (qZ zo))), (o3, .inl (cI, 16, .inl (qS lou))), (o4, .inl (cI, 4, .inl (qS so))), (o5, .inl (cI, 4, .inl (qN ao))), (o6, .inl (cI, 4, .inl (qS co))), (o7, .inl (cI, 4, .inl (qS vo))), (d0, .inr (0, [.ref d1, .int (nI tw), .int (nI tr)])), (d1, .inl (cI, 768, .inl (qS (qs_wr dd x yo ob i)))), (w0, .inr (3, [.ref d0, .ref i0, .ref o0, .ref w1, .ref w2])), (w1, .inl (cG, 48, .inr (.inr (.inr (.inr (fun i => some (ra i))))))), (w2, .inl (cI, 16, .inl (qS (qm_cs ob yo i)))), (r0, .inr (1, [.ref d0, .ref i0, .ref o0, .ref r1, .ref r2, .ref r3, .ref r4, .int (nI me), .int (nI du), .int (nI fi), .int (nI le)])), (r1, .inl (cG, 48, .inr (.inr (.inr (.inr (fun i => some (rb i))))))), (r2, .inl (cZ, 48, .inl (qZ od))), (r3, .inl (cI, 384, .inl (qS ou))), (r4, .inl (cZ, 48, .inl (qZ lt)))] (qP cI ra IW) (qP cI rb OW)) → va_S A s.heap H locs → W p l e (headSpec wsX4_writeRow ({ frames := 2, cells := 0, slots := 0, locals := 44 } : Room)).room s m ([.ref w0, .int (nI x)] : List Value).toArray below meth c H locs 0 0 Q (F0 m 2 ls []) := by
    intro q
    induction q with
    | zero =>
      intro i hi  ls H locs hl hP hD hS
      have e9 : 16 = i := by omega
      subst e9
      refine lv_iload_n hx hb dX4_writeRow_2 rfl (lv_at hl 2 rfl) ?_
      refine lv_bipush (v := nI 16) hx hb dX4_writeRow_3 (by decide) ?_
      refine qr_ge (tgt := 62) hx hb dX4_writeRow_5 rfl (by omega) (by omega) (fun b5 => ?_) (fun h => absurd h (by omega))
      obtain ⟨hP, hD⟩ := qr_same (g := qS yo) hP hD 21 rfl (fun j hj => congrArg sI (qm_cs_at hj))
      have hP : va_P (dC, dI) vwCl (qW2 [(x0, .inr (4, [.ref i0, .ref d0, .ref w0, .ref r0])), (i0, .inr (2, [.int (nI 12), .ref i1, .ref i2, .ref i3, .ref i4, .ref i5, .ref i6, .ref i7])), (i1, .inl (cI, 12, .inl (qS yi))), (i2, .inl (cZ, 12, .inl (qZ zi))), (i3, .inl (cI, 12, .inl (qS lin))), (i4, .inl (cI, 4, .inl (qS si))), (i5, .inl (cI, 4, .inl (qN ai))), (i6, .inl (cI, 4, .inl (qS ci))), (i7, .inl (cI, 4, .inl (qS vi))), (o0, .inr (2, [.int (nI 16), .ref o1, .ref o2, .ref o3, .ref o4, .ref o5, .ref o6, .ref o7])), (o1, .inl (cI, 16, .inl (qS yo))), (o2, .inl (cZ, 16, .inl (qZ zo))), (o3, .inl (cI, 16, .inl (qS lou))), (o4, .inl (cI, 4, .inl (qS so))), (o5, .inl (cI, 4, .inl (qN ao))), (o6, .inl (cI, 4, .inl (qS co))), (o7, .inl (cI, 4, .inl (qS vo))), (d0, .inr (0, [.ref d1, .int (nI tw), .int (nI tr)])), (d1, .inl (cI, 768, .inl (qS (qs_wr dd x yo ob 16)))), (w0, .inr (3, [.ref d0, .ref i0, .ref o0, .ref w1, .ref w2])), (w1, .inl (cG, 48, .inr (.inr (.inr (.inr (fun i => some (ra i))))))), (w2, .inl (cI, 16, .inl (qS yo))), (r0, .inr (1, [.ref d0, .ref i0, .ref o0, .ref r1, .ref r2, .ref r3, .ref r4, .int (nI me), .int (nI du), .int (nI fi), .int (nI le)])), (r1, .inl (cG, 48, .inr (.inr (.inr (.inr (fun i => some (rb i))))))), (r2, .inl (cZ, 48, .inl (qZ od))), (r3, .inl (cI, 384, .inl (qS ou))), (r4, .inl (cZ, 48, .inl (qZ lt)))] (qP cI ra IW) (qP cI rb OW)) H := hP
      have hD : va_D A (qW2 [(x0, .inr (4, [.ref i0, .ref d0, .ref w0, .ref r0])), (i0, .inr (2, [.int (nI 12), .ref i1, .ref i2, .ref i3, .ref i4, .ref i5, .ref i6, .ref i7])), (i1, .inl (cI, 12, .inl (qS yi))), (i2, .inl (cZ, 12, .inl (qZ zi))), (i3, .inl (cI, 12, .inl (qS lin))), (i4, .inl (cI, 4, .inl (qS si))), (i5, .inl (cI, 4, .inl (qN ai))), (i6, .inl (cI, 4, .inl (qS ci))), (i7, .inl (cI, 4, .inl (qS vi))), (o0, .inr (2, [.int (nI 16), .ref o1, .ref o2, .ref o3, .ref o4, .ref o5, .ref o6, .ref o7])), (o1, .inl (cI, 16, .inl (qS yo))), (o2, .inl (cZ, 16, .inl (qZ zo))), (o3, .inl (cI, 16, .inl (qS lou))), (o4, .inl (cI, 4, .inl (qS so))), (o5, .inl (cI, 4, .inl (qN ao))), (o6, .inl (cI, 4, .inl (qS co))), (o7, .inl (cI, 4, .inl (qS vo))), (d0, .inr (0, [.ref d1, .int (nI tw), .int (nI tr)])), (d1, .inl (cI, 768, .inl (qS (qs_wr dd x yo ob 16)))), (w0, .inr (3, [.ref d0, .ref i0, .ref o0, .ref w1, .ref w2])), (w1, .inl (cG, 48, .inr (.inr (.inr (.inr (fun i => some (ra i))))))), (w2, .inl (cI, 16, .inl (qS yo))), (r0, .inr (1, [.ref d0, .ref i0, .ref o0, .ref r1, .ref r2, .ref r3, .ref r4, .int (nI me), .int (nI du), .int (nI fi), .int (nI le)])), (r1, .inl (cG, 48, .inr (.inr (.inr (.inr (fun i => some (rb i))))))), (r2, .inl (cZ, 48, .inl (qZ od))), (r3, .inl (cI, 384, .inl (qS ou))), (r4, .inl (cZ, 48, .inl (qZ lt)))] (qP cI ra IW) (qP cI rb OW)) := hD
      subst hQ
      exact W.vret hx hb hr (fun t ht hW => ⟨⟨(), rfl, trivial, by rw [ht]; exact hP, va_K.moved hW.alike hK, hD⟩, hS.F ht⟩) hS.2.2 dX4_writeRow_62
    | succ q ih =>
      intro i hi  ls H locs hl hP hD hS
      have li : i < 16 := by omega
      refine lv_iload_n hx hb dX4_writeRow_2 rfl (lv_at hl 2 rfl) ?_
      refine lv_bipush (v := nI 16) hx hb dX4_writeRow_3 (by decide) ?_
      refine qr_ge (tgt := 62) hx hb dX4_writeRow_5 rfl (by omega) (by omega) (fun h => absurd h (by omega)) (fun b5 => ?_)
      refine lv_aload_n hx hb dX4_writeRow_8 rfl (lv_at hl 0 rfl) ?_
      refine va_get (D := (dC, dI)) (ci := 3) (v := .ref d0) (C := RX4) (T := TX4) (N := 5) hx hb hts i_X4 hown hK hP 19 rfl rfl 0 (by decide) k_9 (fun _ h9 => h9) rfl dX4_writeRow_9 ?_
      refine lv_iload_n hx hb dX4_writeRow_12 rfl (lv_at hl 1 rfl) ?_
      refine lv_iload_n hx hb dX4_writeRow_13 rfl (lv_at hl 2 rfl) ?_
      refine lv_iload_n hx hb dX4_writeRow_14 rfl (lv_at hl 2 rfl) ?_
      refine lv_iconst (v := nI 2) hx hb dX4_writeRow_15 (by decide) ?_
      refine qr_irem (z := nI (i % 2)) hx hb dX4_writeRow_16 (by decide) (pk_rem (by omega) (by omega) (by omega)) ?_
      refine qr_ifneN (tgt := 32) hx hb dX4_writeRow_17 rfl (by omega) (fun b17 => ?_) (fun b17 => ?_)
      · refine lv_aload_n hx hb dX4_writeRow_32 rfl (lv_at hl 0 rfl) ?_
        refine va_get (D := (dC, dI)) (ci := 3) (v := .ref w2) (C := RX4) (T := TX4) (N := 5) hx hb hts i_X4 hown hK hP 19 rfl rfl 4 (by decide) k_27 (fun _ h9 => h9) rfl dX4_writeRow_33 ?_
        refine lv_iload_n hx hb dX4_writeRow_36 rfl (lv_at hl 2 rfl) ?_
        refine qr_ildS hx hb hK hP 21 0 rfl rfl (by omega) (by omega) dX4_writeRow_37 ?_
        have hPc := hP.sub (ws' := [(d0, .inr (0, [.ref d1, .int (nI tw), .int (nI tr)])), (d1, .inl (cI, 768, .inl (qS (qs_wr dd x yo ob i))))]) [17, 18] rfl
        have hDc := hD.sub (ws' := [(d0, .inr (0, [.ref d1, .int (nI tw), .int (nI tr)])), (d1, .inl (cI, 768, .inl (qS (qs_wr dd x yo ob i))))]) [17, 18] (by decide) rfl
        have hKc := hK.sub (tys' := [(cI, .int)]) [0] rfl
        have hFc := va_free (wc := [(d0, .inr (0, [.ref d1, .int (nI tw), .int (nI tr)])), (d1, .inl (cI, 768, .inl (qS (qs_wr dd x yo ob i))))]) hD hS hA [17, 18] rfl
        refine va_callv (va_runV (As := [.int (nI x), .int (nI i), .int (sI ((qm_cs ob yo i) i))]) (rest := []) ⟨hx, hb, hml, hown, hts⟩ (qc_set l dC dI cI d0 d1 tw tr (qs_wr dd x yo ob i) x i ((qm_cs ob yo i) i) H.size hx0 (by omega)) (cwV 3 hts gX4_writeRow_X0_setPlain rfl rfl rfl (by decide +kernel) ⟨Nat.le_of_ble_eq_true rfl, Nat.le_of_ble_eq_true rfl⟩) ⟨fun a U g mk q => by obtain ⟨q0, q1, qP, qK, qD⟩ := q; exact ⟨q0, q1, qP, va_K.moved (u := U) (U := U.calling g mk a) (Vm.Alike.refl U.vm) qK, qD⟩, (va_recv (q0 := 17) (ci := 0) hK hP rfl rfl), fun U hU hW => ⟨rfl, by rw [hU], by rw [hU]; exact hPc, va_K.moved hW.alike hKc, hDc.weaken (fun _ _ _ _ => trivial)⟩⟩ rfl rfl hl.1 rfl (lv_room (Nat.le_of_ble_eq_true rfl)) dX4_writeRow_38 ⟨Nat.le_of_ble_eq_true rfl, Nat.le_of_ble_eq_true rfl⟩) hS (fun q _ h => hFc q h) hFc (fun u t H1 locs ht hvm hr38 hB hz1 hk1 hS => ?_)
        obtain ⟨hP1, hK1, hD1⟩ := hB
        rw [ht] at hP1
        have hP1 : va_P (dC, dI) vwCl [(d0, .inr (0, [.ref d1, .int (nI tw), .int (nI tr)])), (d1, .inl (cI, 768, .inl (qS (va_up (qs_wr dd x yo ob i) (x * 16 + i) (qs_t i ((qm_cs ob yo i) i))))))] H1 := hP1
        obtain ⟨hP, hD⟩ := qj_join (wc := [(d0, .inr (0, [.ref d1, .int (nI tw), .int (nI tr)])), (d1, .inl (cI, 768, .inl (qS (qs_wr dd x yo ob i))))]) (w1 := [(d0, .inr (0, [.ref d1, .int (nI tw), .int (nI tr)])), (d1, .inl (cI, 768, .inl (qS (va_up (qs_wr dd x yo ob i) (x * 16 + i) (qs_t i ((qm_cs ob yo i) i))))))]) hP hD [17, 18] rfl rfl hk1 hP1
        generalize H1 = H at hP hS ⊢
        have hP : va_P (dC, dI) vwCl (qW2 [(x0, .inr (4, [.ref i0, .ref d0, .ref w0, .ref r0])), (i0, .inr (2, [.int (nI 12), .ref i1, .ref i2, .ref i3, .ref i4, .ref i5, .ref i6, .ref i7])), (i1, .inl (cI, 12, .inl (qS yi))), (i2, .inl (cZ, 12, .inl (qZ zi))), (i3, .inl (cI, 12, .inl (qS lin))), (i4, .inl (cI, 4, .inl (qS si))), (i5, .inl (cI, 4, .inl (qN ai))), (i6, .inl (cI, 4, .inl (qS ci))), (i7, .inl (cI, 4, .inl (qS vi))), (o0, .inr (2, [.int (nI 16), .ref o1, .ref o2, .ref o3, .ref o4, .ref o5, .ref o6, .ref o7])), (o1, .inl (cI, 16, .inl (qS yo))), (o2, .inl (cZ, 16, .inl (qZ zo))), (o3, .inl (cI, 16, .inl (qS lou))), (o4, .inl (cI, 4, .inl (qS so))), (o5, .inl (cI, 4, .inl (qN ao))), (o6, .inl (cI, 4, .inl (qS co))), (o7, .inl (cI, 4, .inl (qS vo))), (d0, .inr (0, [.ref d1, .int (nI tw), .int (nI tr)])), (d1, .inl (cI, 768, .inl (qS (va_up (qs_wr dd x yo ob i) (x * 16 + i) (qs_t i ((qm_cs ob yo i) i)))))), (w0, .inr (3, [.ref d0, .ref i0, .ref o0, .ref w1, .ref w2])), (w1, .inl (cG, 48, .inr (.inr (.inr (.inr (fun i => some (ra i))))))), (w2, .inl (cI, 16, .inl (qS (qm_cs ob yo i)))), (r0, .inr (1, [.ref d0, .ref i0, .ref o0, .ref r1, .ref r2, .ref r3, .ref r4, .int (nI me), .int (nI du), .int (nI fi), .int (nI le)])), (r1, .inl (cG, 48, .inr (.inr (.inr (.inr (fun i => some (rb i))))))), (r2, .inl (cZ, 48, .inl (qZ od))), (r3, .inl (cI, 384, .inl (qS ou))), (r4, .inl (cZ, 48, .inl (qZ lt)))] (qP cI ra IW) (qP cI rb OW)) H := hP
        have hD : va_D A (qW2 [(x0, .inr (4, [.ref i0, .ref d0, .ref w0, .ref r0])), (i0, .inr (2, [.int (nI 12), .ref i1, .ref i2, .ref i3, .ref i4, .ref i5, .ref i6, .ref i7])), (i1, .inl (cI, 12, .inl (qS yi))), (i2, .inl (cZ, 12, .inl (qZ zi))), (i3, .inl (cI, 12, .inl (qS lin))), (i4, .inl (cI, 4, .inl (qS si))), (i5, .inl (cI, 4, .inl (qN ai))), (i6, .inl (cI, 4, .inl (qS ci))), (i7, .inl (cI, 4, .inl (qS vi))), (o0, .inr (2, [.int (nI 16), .ref o1, .ref o2, .ref o3, .ref o4, .ref o5, .ref o6, .ref o7])), (o1, .inl (cI, 16, .inl (qS yo))), (o2, .inl (cZ, 16, .inl (qZ zo))), (o3, .inl (cI, 16, .inl (qS lou))), (o4, .inl (cI, 4, .inl (qS so))), (o5, .inl (cI, 4, .inl (qN ao))), (o6, .inl (cI, 4, .inl (qS co))), (o7, .inl (cI, 4, .inl (qS vo))), (d0, .inr (0, [.ref d1, .int (nI tw), .int (nI tr)])), (d1, .inl (cI, 768, .inl (qS (va_up (qs_wr dd x yo ob i) (x * 16 + i) (qs_t i ((qm_cs ob yo i) i)))))), (w0, .inr (3, [.ref d0, .ref i0, .ref o0, .ref w1, .ref w2])), (w1, .inl (cG, 48, .inr (.inr (.inr (.inr (fun i => some (ra i))))))), (w2, .inl (cI, 16, .inl (qS (qm_cs ob yo i)))), (r0, .inr (1, [.ref d0, .ref i0, .ref o0, .ref r1, .ref r2, .ref r3, .ref r4, .int (nI me), .int (nI du), .int (nI fi), .int (nI le)])), (r1, .inl (cG, 48, .inr (.inr (.inr (.inr (fun i => some (rb i))))))), (r2, .inl (cZ, 48, .inl (qZ od))), (r3, .inl (cI, 384, .inl (qS ou))), (r4, .inl (cZ, 48, .inl (qZ lt)))] (qP cI ra IW) (qP cI rb OW)) := hD
        refine lv_aload_n hx hb dX4_writeRow_41 rfl (lv_at hl 0 rfl) ?_
        refine va_get (D := (dC, dI)) (ci := 3) (v := .ref w2) (C := RX4) (T := TX4) (N := 5) hx hb hts i_X4 hown hK hP 19 rfl rfl 4 (by decide) k_27 (fun _ h9 => h9) rfl dX4_writeRow_42 ?_
        refine lv_iload_n hx hb dX4_writeRow_45 rfl (lv_at hl 2 rfl) ?_
        refine lv_aload_n hx hb dX4_writeRow_46 rfl (lv_at hl 0 rfl) ?_
        refine va_get (D := (dC, dI)) (ci := 3) (v := .ref o0) (C := RX4) (T := TX4) (N := 5) hx hb hts i_X4 hown hK hP 19 rfl rfl 2 (by decide) k_19 (fun _ h9 => h9) rfl dX4_writeRow_47 ?_
        refine va_getN (D := (dC, dI)) (ci := 2) (v := .ref o1) (C := RX3) (T := TX3) (N := 8) hx hb hts i_X3 hown hK hP 9 rfl rfl 1 (by decide) (va_Nw.use rfl (hN (.fieldLinkNest "DiscCoder$Writer" 57 "DiscCoder$Word" "symbols" "[I" "DiscCoder") (by decide +kernel))) (fun _ h9 => h9) rfl dX4_writeRow_50 ?_
        refine lv_iload_n hx hb dX4_writeRow_53 rfl (lv_at hl 2 rfl) ?_
        refine qr_ildS hx hb hK hP 10 0 rfl rfl (by omega) (by omega) dX4_writeRow_54 ?_
        refine qr_istS (x := yo i) hx hb hK hP hD hS 21 0 rfl rfl (by omega) (by omega) dX4_writeRow_55 (fun H locs hP hD hS => ?_)
        have hP : va_P (dC, dI) vwCl (qW2 [(x0, .inr (4, [.ref i0, .ref d0, .ref w0, .ref r0])), (i0, .inr (2, [.int (nI 12), .ref i1, .ref i2, .ref i3, .ref i4, .ref i5, .ref i6, .ref i7])), (i1, .inl (cI, 12, .inl (qS yi))), (i2, .inl (cZ, 12, .inl (qZ zi))), (i3, .inl (cI, 12, .inl (qS lin))), (i4, .inl (cI, 4, .inl (qS si))), (i5, .inl (cI, 4, .inl (qN ai))), (i6, .inl (cI, 4, .inl (qS ci))), (i7, .inl (cI, 4, .inl (qS vi))), (o0, .inr (2, [.int (nI 16), .ref o1, .ref o2, .ref o3, .ref o4, .ref o5, .ref o6, .ref o7])), (o1, .inl (cI, 16, .inl (qS yo))), (o2, .inl (cZ, 16, .inl (qZ zo))), (o3, .inl (cI, 16, .inl (qS lou))), (o4, .inl (cI, 4, .inl (qS so))), (o5, .inl (cI, 4, .inl (qN ao))), (o6, .inl (cI, 4, .inl (qS co))), (o7, .inl (cI, 4, .inl (qS vo))), (d0, .inr (0, [.ref d1, .int (nI tw), .int (nI tr)])), (d1, .inl (cI, 768, .inl (qS (va_up (qs_wr dd x yo ob i) (x * 16 + i) (qs_t i ((qm_cs ob yo i) i)))))), (w0, .inr (3, [.ref d0, .ref i0, .ref o0, .ref w1, .ref w2])), (w1, .inl (cG, 48, .inr (.inr (.inr (.inr (fun i => some (ra i))))))), (w2, .inl (cI, 16, .inl (qS (va_up (qm_cs ob yo i) i (yo i))))), (r0, .inr (1, [.ref d0, .ref i0, .ref o0, .ref r1, .ref r2, .ref r3, .ref r4, .int (nI me), .int (nI du), .int (nI fi), .int (nI le)])), (r1, .inl (cG, 48, .inr (.inr (.inr (.inr (fun i => some (rb i))))))), (r2, .inl (cZ, 48, .inl (qZ od))), (r3, .inl (cI, 384, .inl (qS ou))), (r4, .inl (cZ, 48, .inl (qZ lt)))] (qP cI ra IW) (qP cI rb OW)) H := hP
        have hD : va_D A (qW2 [(x0, .inr (4, [.ref i0, .ref d0, .ref w0, .ref r0])), (i0, .inr (2, [.int (nI 12), .ref i1, .ref i2, .ref i3, .ref i4, .ref i5, .ref i6, .ref i7])), (i1, .inl (cI, 12, .inl (qS yi))), (i2, .inl (cZ, 12, .inl (qZ zi))), (i3, .inl (cI, 12, .inl (qS lin))), (i4, .inl (cI, 4, .inl (qS si))), (i5, .inl (cI, 4, .inl (qN ai))), (i6, .inl (cI, 4, .inl (qS ci))), (i7, .inl (cI, 4, .inl (qS vi))), (o0, .inr (2, [.int (nI 16), .ref o1, .ref o2, .ref o3, .ref o4, .ref o5, .ref o6, .ref o7])), (o1, .inl (cI, 16, .inl (qS yo))), (o2, .inl (cZ, 16, .inl (qZ zo))), (o3, .inl (cI, 16, .inl (qS lou))), (o4, .inl (cI, 4, .inl (qS so))), (o5, .inl (cI, 4, .inl (qN ao))), (o6, .inl (cI, 4, .inl (qS co))), (o7, .inl (cI, 4, .inl (qS vo))), (d0, .inr (0, [.ref d1, .int (nI tw), .int (nI tr)])), (d1, .inl (cI, 768, .inl (qS (va_up (qs_wr dd x yo ob i) (x * 16 + i) (qs_t i ((qm_cs ob yo i) i)))))), (w0, .inr (3, [.ref d0, .ref i0, .ref o0, .ref w1, .ref w2])), (w1, .inl (cG, 48, .inr (.inr (.inr (.inr (fun i => some (ra i))))))), (w2, .inl (cI, 16, .inl (qS (va_up (qm_cs ob yo i) i (yo i))))), (r0, .inr (1, [.ref d0, .ref i0, .ref o0, .ref r1, .ref r2, .ref r3, .ref r4, .int (nI me), .int (nI du), .int (nI fi), .int (nI le)])), (r1, .inl (cG, 48, .inr (.inr (.inr (.inr (fun i => some (rb i))))))), (r2, .inl (cZ, 48, .inl (qZ od))), (r3, .inl (cI, 384, .inl (qS ou))), (r4, .inl (cZ, 48, .inl (qZ lt)))] (qP cI ra IW) (qP cI rb OW)) := hD
        refine lv_iinc (k := 2) (v := nI (i + 1)) (lv' := [(2, .int (nI (i + 1))), (0, .ref w0), (1, .int (nI x))]) hx hb dX4_writeRow_56 hl rfl (qr_inc _) (by decide) rfl (fun ls hl => ?_)
        refine lv_goto (tgt := 2) hx hb dX4_writeRow_59 rfl ?_
        have hl := lv_sub (l' := [(0, .ref w0), (1, .int (nI x)), (2, .int (nI (i + 1)))]) hl [1, 2, 0] rfl
        have e1 : qs_wr dd x yo ob (i + 1) = va_up (qs_wr dd x yo ob i) (x * 16 + i) (qs_t i ((qm_cs ob yo i) i)) := by rw [qs_wr, if_neg b17, qm_cs_out (Nat.le_refl i)]
        have e2 : qm_cs ob yo (i + 1) = va_up (qm_cs ob yo i) i (yo i) := rfl
        exact ih (i + 1) (by omega)  ls H _ (by exact hl) (by rw [e1, e2]; exact hP) (by rw [e1, e2]; exact hD) hS 
      · refine lv_aload_n hx hb dX4_writeRow_20 rfl (lv_at hl 0 rfl) ?_
        refine va_get (D := (dC, dI)) (ci := 3) (v := .ref o0) (C := RX4) (T := TX4) (N := 5) hx hb hts i_X4 hown hK hP 19 rfl rfl 2 (by decide) k_19 (fun _ h9 => h9) rfl dX4_writeRow_21 ?_
        refine va_getN (D := (dC, dI)) (ci := 2) (v := .ref o1) (C := RX3) (T := TX3) (N := 8) hx hb hts i_X3 hown hK hP 9 rfl rfl 1 (by decide) (va_Nw.use rfl (hN (.fieldLinkNest "DiscCoder$Writer" 57 "DiscCoder$Word" "symbols" "[I" "DiscCoder") (by decide +kernel))) (fun _ h9 => h9) rfl dX4_writeRow_24 ?_
        refine lv_iload_n hx hb dX4_writeRow_27 rfl (lv_at hl 2 rfl) ?_
        refine qr_ildS hx hb hK hP 10 0 rfl rfl (by omega) (by omega) dX4_writeRow_28 ?_
        refine lv_goto (tgt := 38) hx hb dX4_writeRow_29 rfl ?_
        have hPc := hP.sub (ws' := [(d0, .inr (0, [.ref d1, .int (nI tw), .int (nI tr)])), (d1, .inl (cI, 768, .inl (qS (qs_wr dd x yo ob i))))]) [17, 18] rfl
        have hDc := hD.sub (ws' := [(d0, .inr (0, [.ref d1, .int (nI tw), .int (nI tr)])), (d1, .inl (cI, 768, .inl (qS (qs_wr dd x yo ob i))))]) [17, 18] (by decide) rfl
        have hKc := hK.sub (tys' := [(cI, .int)]) [0] rfl
        have hFc := va_free (wc := [(d0, .inr (0, [.ref d1, .int (nI tw), .int (nI tr)])), (d1, .inl (cI, 768, .inl (qS (qs_wr dd x yo ob i))))]) hD hS hA [17, 18] rfl
        refine va_callv (va_runV (As := [.int (nI x), .int (nI i), .int (sI (yo i))]) (rest := []) ⟨hx, hb, hml, hown, hts⟩ (qc_set l dC dI cI d0 d1 tw tr (qs_wr dd x yo ob i) x i (yo i) H.size hx0 (by omega)) (cwV 3 hts gX4_writeRow_X0_setPlain rfl rfl rfl (by decide +kernel) ⟨Nat.le_of_ble_eq_true rfl, Nat.le_of_ble_eq_true rfl⟩) ⟨fun a U g mk q => by obtain ⟨q0, q1, qP, qK, qD⟩ := q; exact ⟨q0, q1, qP, va_K.moved (u := U) (U := U.calling g mk a) (Vm.Alike.refl U.vm) qK, qD⟩, (va_recv (q0 := 17) (ci := 0) hK hP rfl rfl), fun U hU hW => ⟨rfl, by rw [hU], by rw [hU]; exact hPc, va_K.moved hW.alike hKc, hDc.weaken (fun _ _ _ _ => trivial)⟩⟩ rfl rfl hl.1 rfl (lv_room (Nat.le_of_ble_eq_true rfl)) dX4_writeRow_38 ⟨Nat.le_of_ble_eq_true rfl, Nat.le_of_ble_eq_true rfl⟩) hS (fun q _ h => hFc q h) hFc (fun u t H1 locs ht hvm hr38 hB hz1 hk1 hS => ?_)
        obtain ⟨hP1, hK1, hD1⟩ := hB
        rw [ht] at hP1
        have hP1 : va_P (dC, dI) vwCl [(d0, .inr (0, [.ref d1, .int (nI tw), .int (nI tr)])), (d1, .inl (cI, 768, .inl (qS (va_up (qs_wr dd x yo ob i) (x * 16 + i) (qs_t i (yo i))))))] H1 := hP1
        obtain ⟨hP, hD⟩ := qj_join (wc := [(d0, .inr (0, [.ref d1, .int (nI tw), .int (nI tr)])), (d1, .inl (cI, 768, .inl (qS (qs_wr dd x yo ob i))))]) (w1 := [(d0, .inr (0, [.ref d1, .int (nI tw), .int (nI tr)])), (d1, .inl (cI, 768, .inl (qS (va_up (qs_wr dd x yo ob i) (x * 16 + i) (qs_t i (yo i))))))]) hP hD [17, 18] rfl rfl hk1 hP1
        generalize H1 = H at hP hS ⊢
        have hP : va_P (dC, dI) vwCl (qW2 [(x0, .inr (4, [.ref i0, .ref d0, .ref w0, .ref r0])), (i0, .inr (2, [.int (nI 12), .ref i1, .ref i2, .ref i3, .ref i4, .ref i5, .ref i6, .ref i7])), (i1, .inl (cI, 12, .inl (qS yi))), (i2, .inl (cZ, 12, .inl (qZ zi))), (i3, .inl (cI, 12, .inl (qS lin))), (i4, .inl (cI, 4, .inl (qS si))), (i5, .inl (cI, 4, .inl (qN ai))), (i6, .inl (cI, 4, .inl (qS ci))), (i7, .inl (cI, 4, .inl (qS vi))), (o0, .inr (2, [.int (nI 16), .ref o1, .ref o2, .ref o3, .ref o4, .ref o5, .ref o6, .ref o7])), (o1, .inl (cI, 16, .inl (qS yo))), (o2, .inl (cZ, 16, .inl (qZ zo))), (o3, .inl (cI, 16, .inl (qS lou))), (o4, .inl (cI, 4, .inl (qS so))), (o5, .inl (cI, 4, .inl (qN ao))), (o6, .inl (cI, 4, .inl (qS co))), (o7, .inl (cI, 4, .inl (qS vo))), (d0, .inr (0, [.ref d1, .int (nI tw), .int (nI tr)])), (d1, .inl (cI, 768, .inl (qS (va_up (qs_wr dd x yo ob i) (x * 16 + i) (qs_t i (yo i)))))), (w0, .inr (3, [.ref d0, .ref i0, .ref o0, .ref w1, .ref w2])), (w1, .inl (cG, 48, .inr (.inr (.inr (.inr (fun i => some (ra i))))))), (w2, .inl (cI, 16, .inl (qS (qm_cs ob yo i)))), (r0, .inr (1, [.ref d0, .ref i0, .ref o0, .ref r1, .ref r2, .ref r3, .ref r4, .int (nI me), .int (nI du), .int (nI fi), .int (nI le)])), (r1, .inl (cG, 48, .inr (.inr (.inr (.inr (fun i => some (rb i))))))), (r2, .inl (cZ, 48, .inl (qZ od))), (r3, .inl (cI, 384, .inl (qS ou))), (r4, .inl (cZ, 48, .inl (qZ lt)))] (qP cI ra IW) (qP cI rb OW)) H := hP
        have hD : va_D A (qW2 [(x0, .inr (4, [.ref i0, .ref d0, .ref w0, .ref r0])), (i0, .inr (2, [.int (nI 12), .ref i1, .ref i2, .ref i3, .ref i4, .ref i5, .ref i6, .ref i7])), (i1, .inl (cI, 12, .inl (qS yi))), (i2, .inl (cZ, 12, .inl (qZ zi))), (i3, .inl (cI, 12, .inl (qS lin))), (i4, .inl (cI, 4, .inl (qS si))), (i5, .inl (cI, 4, .inl (qN ai))), (i6, .inl (cI, 4, .inl (qS ci))), (i7, .inl (cI, 4, .inl (qS vi))), (o0, .inr (2, [.int (nI 16), .ref o1, .ref o2, .ref o3, .ref o4, .ref o5, .ref o6, .ref o7])), (o1, .inl (cI, 16, .inl (qS yo))), (o2, .inl (cZ, 16, .inl (qZ zo))), (o3, .inl (cI, 16, .inl (qS lou))), (o4, .inl (cI, 4, .inl (qS so))), (o5, .inl (cI, 4, .inl (qN ao))), (o6, .inl (cI, 4, .inl (qS co))), (o7, .inl (cI, 4, .inl (qS vo))), (d0, .inr (0, [.ref d1, .int (nI tw), .int (nI tr)])), (d1, .inl (cI, 768, .inl (qS (va_up (qs_wr dd x yo ob i) (x * 16 + i) (qs_t i (yo i)))))), (w0, .inr (3, [.ref d0, .ref i0, .ref o0, .ref w1, .ref w2])), (w1, .inl (cG, 48, .inr (.inr (.inr (.inr (fun i => some (ra i))))))), (w2, .inl (cI, 16, .inl (qS (qm_cs ob yo i)))), (r0, .inr (1, [.ref d0, .ref i0, .ref o0, .ref r1, .ref r2, .ref r3, .ref r4, .int (nI me), .int (nI du), .int (nI fi), .int (nI le)])), (r1, .inl (cG, 48, .inr (.inr (.inr (.inr (fun i => some (rb i))))))), (r2, .inl (cZ, 48, .inl (qZ od))), (r3, .inl (cI, 384, .inl (qS ou))), (r4, .inl (cZ, 48, .inl (qZ lt)))] (qP cI ra IW) (qP cI rb OW)) := hD
        refine lv_aload_n hx hb dX4_writeRow_41 rfl (lv_at hl 0 rfl) ?_
        refine va_get (D := (dC, dI)) (ci := 3) (v := .ref w2) (C := RX4) (T := TX4) (N := 5) hx hb hts i_X4 hown hK hP 19 rfl rfl 4 (by decide) k_27 (fun _ h9 => h9) rfl dX4_writeRow_42 ?_
        refine lv_iload_n hx hb dX4_writeRow_45 rfl (lv_at hl 2 rfl) ?_
        refine lv_aload_n hx hb dX4_writeRow_46 rfl (lv_at hl 0 rfl) ?_
        refine va_get (D := (dC, dI)) (ci := 3) (v := .ref o0) (C := RX4) (T := TX4) (N := 5) hx hb hts i_X4 hown hK hP 19 rfl rfl 2 (by decide) k_19 (fun _ h9 => h9) rfl dX4_writeRow_47 ?_
        refine va_getN (D := (dC, dI)) (ci := 2) (v := .ref o1) (C := RX3) (T := TX3) (N := 8) hx hb hts i_X3 hown hK hP 9 rfl rfl 1 (by decide) (va_Nw.use rfl (hN (.fieldLinkNest "DiscCoder$Writer" 57 "DiscCoder$Word" "symbols" "[I" "DiscCoder") (by decide +kernel))) (fun _ h9 => h9) rfl dX4_writeRow_50 ?_
        refine lv_iload_n hx hb dX4_writeRow_53 rfl (lv_at hl 2 rfl) ?_
        refine qr_ildS hx hb hK hP 10 0 rfl rfl (by omega) (by omega) dX4_writeRow_54 ?_
        refine qr_istS (x := yo i) hx hb hK hP hD hS 21 0 rfl rfl (by omega) (by omega) dX4_writeRow_55 (fun H locs hP hD hS => ?_)
        have hP : va_P (dC, dI) vwCl (qW2 [(x0, .inr (4, [.ref i0, .ref d0, .ref w0, .ref r0])), (i0, .inr (2, [.int (nI 12), .ref i1, .ref i2, .ref i3, .ref i4, .ref i5, .ref i6, .ref i7])), (i1, .inl (cI, 12, .inl (qS yi))), (i2, .inl (cZ, 12, .inl (qZ zi))), (i3, .inl (cI, 12, .inl (qS lin))), (i4, .inl (cI, 4, .inl (qS si))), (i5, .inl (cI, 4, .inl (qN ai))), (i6, .inl (cI, 4, .inl (qS ci))), (i7, .inl (cI, 4, .inl (qS vi))), (o0, .inr (2, [.int (nI 16), .ref o1, .ref o2, .ref o3, .ref o4, .ref o5, .ref o6, .ref o7])), (o1, .inl (cI, 16, .inl (qS yo))), (o2, .inl (cZ, 16, .inl (qZ zo))), (o3, .inl (cI, 16, .inl (qS lou))), (o4, .inl (cI, 4, .inl (qS so))), (o5, .inl (cI, 4, .inl (qN ao))), (o6, .inl (cI, 4, .inl (qS co))), (o7, .inl (cI, 4, .inl (qS vo))), (d0, .inr (0, [.ref d1, .int (nI tw), .int (nI tr)])), (d1, .inl (cI, 768, .inl (qS (va_up (qs_wr dd x yo ob i) (x * 16 + i) (qs_t i (yo i)))))), (w0, .inr (3, [.ref d0, .ref i0, .ref o0, .ref w1, .ref w2])), (w1, .inl (cG, 48, .inr (.inr (.inr (.inr (fun i => some (ra i))))))), (w2, .inl (cI, 16, .inl (qS (va_up (qm_cs ob yo i) i (yo i))))), (r0, .inr (1, [.ref d0, .ref i0, .ref o0, .ref r1, .ref r2, .ref r3, .ref r4, .int (nI me), .int (nI du), .int (nI fi), .int (nI le)])), (r1, .inl (cG, 48, .inr (.inr (.inr (.inr (fun i => some (rb i))))))), (r2, .inl (cZ, 48, .inl (qZ od))), (r3, .inl (cI, 384, .inl (qS ou))), (r4, .inl (cZ, 48, .inl (qZ lt)))] (qP cI ra IW) (qP cI rb OW)) H := hP
        have hD : va_D A (qW2 [(x0, .inr (4, [.ref i0, .ref d0, .ref w0, .ref r0])), (i0, .inr (2, [.int (nI 12), .ref i1, .ref i2, .ref i3, .ref i4, .ref i5, .ref i6, .ref i7])), (i1, .inl (cI, 12, .inl (qS yi))), (i2, .inl (cZ, 12, .inl (qZ zi))), (i3, .inl (cI, 12, .inl (qS lin))), (i4, .inl (cI, 4, .inl (qS si))), (i5, .inl (cI, 4, .inl (qN ai))), (i6, .inl (cI, 4, .inl (qS ci))), (i7, .inl (cI, 4, .inl (qS vi))), (o0, .inr (2, [.int (nI 16), .ref o1, .ref o2, .ref o3, .ref o4, .ref o5, .ref o6, .ref o7])), (o1, .inl (cI, 16, .inl (qS yo))), (o2, .inl (cZ, 16, .inl (qZ zo))), (o3, .inl (cI, 16, .inl (qS lou))), (o4, .inl (cI, 4, .inl (qS so))), (o5, .inl (cI, 4, .inl (qN ao))), (o6, .inl (cI, 4, .inl (qS co))), (o7, .inl (cI, 4, .inl (qS vo))), (d0, .inr (0, [.ref d1, .int (nI tw), .int (nI tr)])), (d1, .inl (cI, 768, .inl (qS (va_up (qs_wr dd x yo ob i) (x * 16 + i) (qs_t i (yo i)))))), (w0, .inr (3, [.ref d0, .ref i0, .ref o0, .ref w1, .ref w2])), (w1, .inl (cG, 48, .inr (.inr (.inr (.inr (fun i => some (ra i))))))), (w2, .inl (cI, 16, .inl (qS (va_up (qm_cs ob yo i) i (yo i))))), (r0, .inr (1, [.ref d0, .ref i0, .ref o0, .ref r1, .ref r2, .ref r3, .ref r4, .int (nI me), .int (nI du), .int (nI fi), .int (nI le)])), (r1, .inl (cG, 48, .inr (.inr (.inr (.inr (fun i => some (rb i))))))), (r2, .inl (cZ, 48, .inl (qZ od))), (r3, .inl (cI, 384, .inl (qS ou))), (r4, .inl (cZ, 48, .inl (qZ lt)))] (qP cI ra IW) (qP cI rb OW)) := hD
        refine lv_iinc (k := 2) (v := nI (i + 1)) (lv' := [(2, .int (nI (i + 1))), (0, .ref w0), (1, .int (nI x))]) hx hb dX4_writeRow_56 hl rfl (qr_inc _) (by decide) rfl (fun ls hl => ?_)
        refine lv_goto (tgt := 2) hx hb dX4_writeRow_59 rfl ?_
        have hl := lv_sub (l' := [(0, .ref w0), (1, .int (nI x)), (2, .int (nI (i + 1)))]) hl [1, 2, 0] rfl
        have e3 : qs_wr dd x yo ob (i + 1) = va_up (qs_wr dd x yo ob i) (x * 16 + i) (qs_t i (yo i)) := by rw [qs_wr, if_pos b17]
        have e4 : qm_cs ob yo (i + 1) = va_up (qm_cs ob yo i) i (yo i) := rfl
        exact ih (i + 1) (by omega)  ls H _ (by exact hl) (by rw [e3, e4]; exact hP) (by rw [e3, e4]; exact hD) hS 
  have hl := lv_sub (l' := [(0, .ref w0), (1, .int (nI x)), (2, .int (nI 0))]) hl [1, 2, 0] rfl
  exact lp2 16 0 (by omega)  ls s.heap _ hl hP hD hS 
set_option maxHeartbeats 4000000 in
set_option maxRecDepth 100000 in
/-- Writer.writeFrame -/
theorem qc_wrFrame (l : Launch) (dC : Nat → ClassId) (dI : Nat → Nat → Nat) (cI cZ cG : ClassId) (x0 i0 i1 i2 i3 i4 i5 i6 i7 o0 o1 o2 o3 o4 o5 o6 o7 d0 d1 w0 w1 w2 r0 r1 r2 r3 r4 tw tr me du fi le : Nat) (ra rb : Nat → Nat) (yi : Nat → BitVec 8) (zi : Nat → Bool) (lin si : Nat → BitVec 8) (ai : Nat → Nat) (ci vi : Nat → BitVec 8) (yo : Nat → BitVec 8) (zo : Nat → Bool) (lou so : Nat → BitVec 8) (ao : Nat → Nat) (co vo : Nat → BitVec 8) (dd ob : Nat → BitVec 8) (od : Nat → Bool) (ou : Nat → BitVec 8) (lt : Nat → Bool) (IW OW : Nat → Nat → BitVec 8) (v : Int64) (sz : Nat) (hli : ∀ i, i < 12 → lin i = qw_X 12 i) (hlo : ∀ i, i < 16 → lou i = qw_X 16 i) (htw : tw < 48) : Met l yX4_writeFrame wsX4_writeFrame ({ frames := 6, cells := 0, slots := 0, locals := 140 } : Room) (va_Pc [.ref w0, .long v] (fun U => U.heap.size = sz ∧ va_P (dC, dI) vwCl (qW2 [(x0, .inr (4, [.ref i0, .ref d0, .ref w0, .ref r0])), (i0, .inr (2, [.int (nI 12), .ref i1, .ref i2, .ref i3, .ref i4, .ref i5, .ref i6, .ref i7])), (i1, .inl (cI, 12, .inl (qS yi))), (i2, .inl (cZ, 12, .inl (qZ zi))), (i3, .inl (cI, 12, .inl (qS lin))), (i4, .inl (cI, 4, .inl (qS si))), (i5, .inl (cI, 4, .inl (qN ai))), (i6, .inl (cI, 4, .inl (qS ci))), (i7, .inl (cI, 4, .inl (qS vi))), (o0, .inr (2, [.int (nI 16), .ref o1, .ref o2, .ref o3, .ref o4, .ref o5, .ref o6, .ref o7])), (o1, .inl (cI, 16, .inl (qS yo))), (o2, .inl (cZ, 16, .inl (qZ zo))), (o3, .inl (cI, 16, .inl (qS lou))), (o4, .inl (cI, 4, .inl (qS so))), (o5, .inl (cI, 4, .inl (qN ao))), (o6, .inl (cI, 4, .inl (qS co))), (o7, .inl (cI, 4, .inl (qS vo))), (d0, .inr (0, [.ref d1, .int (nI tw), .int (nI tr)])), (d1, .inl (cI, 768, .inl (qS dd))), (w0, .inr (3, [.ref d0, .ref i0, .ref o0, .ref w1, .ref w2])), (w1, .inl (cG, 48, .inr (.inr (.inr (.inr (fun i => some (ra i))))))), (w2, .inl (cI, 16, .inl (qS ob))), (r0, .inr (1, [.ref d0, .ref i0, .ref o0, .ref r1, .ref r2, .ref r3, .ref r4, .int (nI me), .int (nI du), .int (nI fi), .int (nI le)])), (r1, .inl (cG, 48, .inr (.inr (.inr (.inr (fun i => some (rb i))))))), (r2, .inl (cZ, 48, .inl (qZ od))), (r3, .inl (cI, 384, .inl (qS ou))), (r4, .inl (cZ, 48, .inl (qZ lt)))] (qP cI ra IW) (qP cI rb OW)) U.heap ∧ va_K (dC, dI) vwCl [(cI, .int), (cZ, .boolean), (cG, .array .int)] U ∧ va_D (fun _ => True) (qW2 [(x0, .inr (4, [.ref i0, .ref d0, .ref w0, .ref r0])), (i0, .inr (2, [.int (nI 12), .ref i1, .ref i2, .ref i3, .ref i4, .ref i5, .ref i6, .ref i7])), (i1, .inl (cI, 12, .inl (qS yi))), (i2, .inl (cZ, 12, .inl (qZ zi))), (i3, .inl (cI, 12, .inl (qS lin))), (i4, .inl (cI, 4, .inl (qS si))), (i5, .inl (cI, 4, .inl (qN ai))), (i6, .inl (cI, 4, .inl (qS ci))), (i7, .inl (cI, 4, .inl (qS vi))), (o0, .inr (2, [.int (nI 16), .ref o1, .ref o2, .ref o3, .ref o4, .ref o5, .ref o6, .ref o7])), (o1, .inl (cI, 16, .inl (qS yo))), (o2, .inl (cZ, 16, .inl (qZ zo))), (o3, .inl (cI, 16, .inl (qS lou))), (o4, .inl (cI, 4, .inl (qS so))), (o5, .inl (cI, 4, .inl (qN ao))), (o6, .inl (cI, 4, .inl (qS co))), (o7, .inl (cI, 4, .inl (qS vo))), (d0, .inr (0, [.ref d1, .int (nI tw), .int (nI tr)])), (d1, .inl (cI, 768, .inl (qS dd))), (w0, .inr (3, [.ref d0, .ref i0, .ref o0, .ref w1, .ref w2])), (w1, .inl (cG, 48, .inr (.inr (.inr (.inr (fun i => some (ra i))))))), (w2, .inl (cI, 16, .inl (qS ob))), (r0, .inr (1, [.ref d0, .ref i0, .ref o0, .ref r1, .ref r2, .ref r3, .ref r4, .int (nI me), .int (nI du), .int (nI fi), .int (nI le)])), (r1, .inl (cG, 48, .inr (.inr (.inr (.inr (fun i => some (rb i))))))), (r2, .inl (cZ, 48, .inl (qZ od))), (r3, .inl (cI, 384, .inl (qS ou))), (r4, .inl (cZ, 48, .inl (qZ lt)))] (qP cI ra IW) (qP cI rb OW)) ∧ qn_N U)) (va_Qi (fun (r : Int32) (u : (Nat → BitVec 8) × (Nat → Bool) × (Nat → BitVec 8) × (Nat → Nat) × (Nat → BitVec 8) × (Nat → BitVec 8) × (Nat → Bool) × (Nat → BitVec 8) × (Nat → Nat) × (Nat → BitVec 8) × (Nat → BitVec 8)) => r = nI tw) (fun u t => va_P (dC, dI) vwCl (qW2 [(x0, .inr (4, [.ref i0, .ref d0, .ref w0, .ref r0])), (i0, .inr (2, [.int (nI 12), .ref i1, .ref i2, .ref i3, .ref i4, .ref i5, .ref i6, .ref i7])), (i1, .inl (cI, 12, .inl (qS u.1))), (i2, .inl (cZ, 12, .inl (qZ u.2.1))), (i3, .inl (cI, 12, .inl (qS lin))), (i4, .inl (cI, 4, .inl (qS u.2.2.1))), (i5, .inl (cI, 4, .inl (qN u.2.2.2.1))), (i6, .inl (cI, 4, .inl (qS u.2.2.2.2.1))), (i7, .inl (cI, 4, .inl (qS u.2.2.2.2.2.1))), (o0, .inr (2, [.int (nI 16), .ref o1, .ref o2, .ref o3, .ref o4, .ref o5, .ref o6, .ref o7])), (o1, .inl (cI, 16, .inl (qS (qs_ow (va_up IW tw (qs_iw v)) tw)))), (o2, .inl (cZ, 16, .inl (qZ u.2.2.2.2.2.2.1))), (o3, .inl (cI, 16, .inl (qS lou))), (o4, .inl (cI, 4, .inl (qS u.2.2.2.2.2.2.2.1))), (o5, .inl (cI, 4, .inl (qN u.2.2.2.2.2.2.2.2.1))), (o6, .inl (cI, 4, .inl (qS u.2.2.2.2.2.2.2.2.2.1))), (o7, .inl (cI, 4, .inl (qS u.2.2.2.2.2.2.2.2.2.2))), (d0, .inr (0, [.ref d1, .int (nI (tw + 1)), .int (nI tr)])), (d1, .inl (cI, 768, .inl (qS (qs_wr dd tw (qs_ow (va_up IW tw (qs_iw v)) tw) ob 16)))), (w0, .inr (3, [.ref d0, .ref i0, .ref o0, .ref w1, .ref w2])), (w1, .inl (cG, 48, .inr (.inr (.inr (.inr (fun i => some (ra i))))))), (w2, .inl (cI, 16, .inl (qS (qs_ow (va_up IW tw (qs_iw v)) tw)))), (r0, .inr (1, [.ref d0, .ref i0, .ref o0, .ref r1, .ref r2, .ref r3, .ref r4, .int (nI me), .int (nI du), .int (nI fi), .int (nI le)])), (r1, .inl (cG, 48, .inr (.inr (.inr (.inr (fun i => some (rb i))))))), (r2, .inl (cZ, 48, .inl (qZ od))), (r3, .inl (cI, 384, .inl (qS ou))), (r4, .inl (cZ, 48, .inl (qZ lt)))] (qP cI ra (va_up IW tw (qs_iw v))) (qP cI rb OW)) t.heap ∧ va_K (dC, dI) vwCl [(cI, .int), (cZ, .boolean), (cG, .array .int)] t ∧ va_D (va_A (qW2 [(x0, .inr (4, [.ref i0, .ref d0, .ref w0, .ref r0])), (i0, .inr (2, [.int (nI 12), .ref i1, .ref i2, .ref i3, .ref i4, .ref i5, .ref i6, .ref i7])), (i1, .inl (cI, 12, .inl (qS yi))), (i2, .inl (cZ, 12, .inl (qZ zi))), (i3, .inl (cI, 12, .inl (qS lin))), (i4, .inl (cI, 4, .inl (qS si))), (i5, .inl (cI, 4, .inl (qN ai))), (i6, .inl (cI, 4, .inl (qS ci))), (i7, .inl (cI, 4, .inl (qS vi))), (o0, .inr (2, [.int (nI 16), .ref o1, .ref o2, .ref o3, .ref o4, .ref o5, .ref o6, .ref o7])), (o1, .inl (cI, 16, .inl (qS yo))), (o2, .inl (cZ, 16, .inl (qZ zo))), (o3, .inl (cI, 16, .inl (qS lou))), (o4, .inl (cI, 4, .inl (qS so))), (o5, .inl (cI, 4, .inl (qN ao))), (o6, .inl (cI, 4, .inl (qS co))), (o7, .inl (cI, 4, .inl (qS vo))), (d0, .inr (0, [.ref d1, .int (nI tw), .int (nI tr)])), (d1, .inl (cI, 768, .inl (qS dd))), (w0, .inr (3, [.ref d0, .ref i0, .ref o0, .ref w1, .ref w2])), (w1, .inl (cG, 48, .inr (.inr (.inr (.inr (fun i => some (ra i))))))), (w2, .inl (cI, 16, .inl (qS ob))), (r0, .inr (1, [.ref d0, .ref i0, .ref o0, .ref r1, .ref r2, .ref r3, .ref r4, .int (nI me), .int (nI du), .int (nI fi), .int (nI le)])), (r1, .inl (cG, 48, .inr (.inr (.inr (.inr (fun i => some (rb i))))))), (r2, .inl (cZ, 48, .inl (qZ od))), (r3, .inl (cI, 384, .inl (qS ou))), (r4, .inl (cZ, 48, .inl (qZ lt)))] (qP cI ra IW) (qP cI rb OW)) sz) (qW2 [(x0, .inr (4, [.ref i0, .ref d0, .ref w0, .ref r0])), (i0, .inr (2, [.int (nI 12), .ref i1, .ref i2, .ref i3, .ref i4, .ref i5, .ref i6, .ref i7])), (i1, .inl (cI, 12, .inl (qS u.1))), (i2, .inl (cZ, 12, .inl (qZ u.2.1))), (i3, .inl (cI, 12, .inl (qS lin))), (i4, .inl (cI, 4, .inl (qS u.2.2.1))), (i5, .inl (cI, 4, .inl (qN u.2.2.2.1))), (i6, .inl (cI, 4, .inl (qS u.2.2.2.2.1))), (i7, .inl (cI, 4, .inl (qS u.2.2.2.2.2.1))), (o0, .inr (2, [.int (nI 16), .ref o1, .ref o2, .ref o3, .ref o4, .ref o5, .ref o6, .ref o7])), (o1, .inl (cI, 16, .inl (qS (qs_ow (va_up IW tw (qs_iw v)) tw)))), (o2, .inl (cZ, 16, .inl (qZ u.2.2.2.2.2.2.1))), (o3, .inl (cI, 16, .inl (qS lou))), (o4, .inl (cI, 4, .inl (qS u.2.2.2.2.2.2.2.1))), (o5, .inl (cI, 4, .inl (qN u.2.2.2.2.2.2.2.2.1))), (o6, .inl (cI, 4, .inl (qS u.2.2.2.2.2.2.2.2.2.1))), (o7, .inl (cI, 4, .inl (qS u.2.2.2.2.2.2.2.2.2.2))), (d0, .inr (0, [.ref d1, .int (nI (tw + 1)), .int (nI tr)])), (d1, .inl (cI, 768, .inl (qS (qs_wr dd tw (qs_ow (va_up IW tw (qs_iw v)) tw) ob 16)))), (w0, .inr (3, [.ref d0, .ref i0, .ref o0, .ref w1, .ref w2])), (w1, .inl (cG, 48, .inr (.inr (.inr (.inr (fun i => some (ra i))))))), (w2, .inl (cI, 16, .inl (qS (qs_ow (va_up IW tw (qs_iw v)) tw)))), (r0, .inr (1, [.ref d0, .ref i0, .ref o0, .ref r1, .ref r2, .ref r3, .ref r4, .int (nI me), .int (nI du), .int (nI fi), .int (nI le)])), (r1, .inl (cG, 48, .inr (.inr (.inr (.inr (fun i => some (rb i))))))), (r2, .inl (cZ, 48, .inl (qZ od))), (r3, .inl (cI, 384, .inl (qS ou))), (r4, .inl (cZ, 48, .inl (qZ lt)))] (qP cI ra (va_up IW tw (qs_iw v))) (qP cI rb OW))) (va_A (qW2 [(x0, .inr (4, [.ref i0, .ref d0, .ref w0, .ref r0])), (i0, .inr (2, [.int (nI 12), .ref i1, .ref i2, .ref i3, .ref i4, .ref i5, .ref i6, .ref i7])), (i1, .inl (cI, 12, .inl (qS yi))), (i2, .inl (cZ, 12, .inl (qZ zi))), (i3, .inl (cI, 12, .inl (qS lin))), (i4, .inl (cI, 4, .inl (qS si))), (i5, .inl (cI, 4, .inl (qN ai))), (i6, .inl (cI, 4, .inl (qS ci))), (i7, .inl (cI, 4, .inl (qS vi))), (o0, .inr (2, [.int (nI 16), .ref o1, .ref o2, .ref o3, .ref o4, .ref o5, .ref o6, .ref o7])), (o1, .inl (cI, 16, .inl (qS yo))), (o2, .inl (cZ, 16, .inl (qZ zo))), (o3, .inl (cI, 16, .inl (qS lou))), (o4, .inl (cI, 4, .inl (qS so))), (o5, .inl (cI, 4, .inl (qN ao))), (o6, .inl (cI, 4, .inl (qS co))), (o7, .inl (cI, 4, .inl (qS vo))), (d0, .inr (0, [.ref d1, .int (nI tw), .int (nI tr)])), (d1, .inl (cI, 768, .inl (qS dd))), (w0, .inr (3, [.ref d0, .ref i0, .ref o0, .ref w1, .ref w2])), (w1, .inl (cG, 48, .inr (.inr (.inr (.inr (fun i => some (ra i))))))), (w2, .inl (cI, 16, .inl (qS ob))), (r0, .inr (1, [.ref d0, .ref i0, .ref o0, .ref r1, .ref r2, .ref r3, .ref r4, .int (nI me), .int (nI du), .int (nI fi), .int (nI le)])), (r1, .inl (cG, 48, .inr (.inr (.inr (.inr (fun i => some (rb i))))))), (r2, .inl (cZ, 48, .inl (qZ od))), (r3, .inl (cI, 384, .inl (qS ou))), (r4, .inl (cZ, 48, .inl (qZ lt)))] (qP cI ra IW) (qP cI rb OW)) sz)) 0 0 (va_A (qW2 [(x0, .inr (4, [.ref i0, .ref d0, .ref w0, .ref r0])), (i0, .inr (2, [.int (nI 12), .ref i1, .ref i2, .ref i3, .ref i4, .ref i5, .ref i6, .ref i7])), (i1, .inl (cI, 12, .inl (qS yi))), (i2, .inl (cZ, 12, .inl (qZ zi))), (i3, .inl (cI, 12, .inl (qS lin))), (i4, .inl (cI, 4, .inl (qS si))), (i5, .inl (cI, 4, .inl (qN ai))), (i6, .inl (cI, 4, .inl (qS ci))), (i7, .inl (cI, 4, .inl (qS vi))), (o0, .inr (2, [.int (nI 16), .ref o1, .ref o2, .ref o3, .ref o4, .ref o5, .ref o6, .ref o7])), (o1, .inl (cI, 16, .inl (qS yo))), (o2, .inl (cZ, 16, .inl (qZ zo))), (o3, .inl (cI, 16, .inl (qS lou))), (o4, .inl (cI, 4, .inl (qS so))), (o5, .inl (cI, 4, .inl (qN ao))), (o6, .inl (cI, 4, .inl (qS co))), (o7, .inl (cI, 4, .inl (qS vo))), (d0, .inr (0, [.ref d1, .int (nI tw), .int (nI tr)])), (d1, .inl (cI, 768, .inl (qS dd))), (w0, .inr (3, [.ref d0, .ref i0, .ref o0, .ref w1, .ref w2])), (w1, .inl (cG, 48, .inr (.inr (.inr (.inr (fun i => some (ra i))))))), (w2, .inl (cI, 16, .inl (qS ob))), (r0, .inr (1, [.ref d0, .ref i0, .ref o0, .ref r1, .ref r2, .ref r3, .ref r4, .int (nI me), .int (nI du), .int (nI fi), .int (nI le)])), (r1, .inl (cG, 48, .inr (.inr (.inr (.inr (fun i => some (rb i))))))), (r2, .inl (cZ, 48, .inl (qZ od))), (r3, .inl (cI, 384, .inl (qS ou))), (r4, .inl (cZ, 48, .inl (qZ lt)))] (qP cI ra IW) (qP cI rb OW)) sz) := by
  refine Met.ofW (cc := cX4_writeFrame) (maxL := 4) (ret := (some .int)) (by decide) rfl ?_
  intro p e s m args below meth c s₁ B hml hv
  obtain ⟨rfl, hsz, hP, hK, hD0, hN⟩ := hv
  have hx := B.exec
  have hb := B.bytes
  have hr := B.returns
  have hts := atoms_spec (ws := wsX4_writeFrame) B.pre
  have hown : s.vm.findClass RX4 = some m.cls := findClass_of_methodNamed B.named
  have hlocks := B.notSynchronized
  subst hsz
  have hD := hD0.self (sz := s.heap.size)
  generalize hAe : va_A (qW2 [(x0, .inr (4, [.ref i0, .ref d0, .ref w0, .ref r0])), (i0, .inr (2, [.int (nI 12), .ref i1, .ref i2, .ref i3, .ref i4, .ref i5, .ref i6, .ref i7])), (i1, .inl (cI, 12, .inl (qS yi))), (i2, .inl (cZ, 12, .inl (qZ zi))), (i3, .inl (cI, 12, .inl (qS lin))), (i4, .inl (cI, 4, .inl (qS si))), (i5, .inl (cI, 4, .inl (qN ai))), (i6, .inl (cI, 4, .inl (qS ci))), (i7, .inl (cI, 4, .inl (qS vi))), (o0, .inr (2, [.int (nI 16), .ref o1, .ref o2, .ref o3, .ref o4, .ref o5, .ref o6, .ref o7])), (o1, .inl (cI, 16, .inl (qS yo))), (o2, .inl (cZ, 16, .inl (qZ zo))), (o3, .inl (cI, 16, .inl (qS lou))), (o4, .inl (cI, 4, .inl (qS so))), (o5, .inl (cI, 4, .inl (qN ao))), (o6, .inl (cI, 4, .inl (qS co))), (o7, .inl (cI, 4, .inl (qS vo))), (d0, .inr (0, [.ref d1, .int (nI tw), .int (nI tr)])), (d1, .inl (cI, 768, .inl (qS dd))), (w0, .inr (3, [.ref d0, .ref i0, .ref o0, .ref w1, .ref w2])), (w1, .inl (cG, 48, .inr (.inr (.inr (.inr (fun i => some (ra i))))))), (w2, .inl (cI, 16, .inl (qS ob))), (r0, .inr (1, [.ref d0, .ref i0, .ref o0, .ref r1, .ref r2, .ref r3, .ref r4, .int (nI me), .int (nI du), .int (nI fi), .int (nI le)])), (r1, .inl (cG, 48, .inr (.inr (.inr (.inr (fun i => some (rb i))))))), (r2, .inl (cZ, 48, .inl (qZ od))), (r3, .inl (cI, 384, .inl (qS ou))), (r4, .inl (cZ, 48, .inl (qZ lt)))] (qP cI ra IW) (qP cI rb OW)) s.heap.size = A at hD ⊢
  have hA : ∀ q : Nat, s.heap.size ≤ q → A q := fun q h => by rw [← hAe]; exact Or.inr h
  have hS : va_S A s.heap s.heap [] := va_S.rf
  have hP : va_P (dC, dI) vwCl (qW2 [(x0, .inr (4, [.ref i0, .ref d0, .ref w0, .ref r0])), (i0, .inr (2, [.int (nI 12), .ref i1, .ref i2, .ref i3, .ref i4, .ref i5, .ref i6, .ref i7])), (i1, .inl (cI, 12, .inl (qS yi))), (i2, .inl (cZ, 12, .inl (qZ zi))), (i3, .inl (cI, 12, .inl (qS lin))), (i4, .inl (cI, 4, .inl (qS si))), (i5, .inl (cI, 4, .inl (qN ai))), (i6, .inl (cI, 4, .inl (qS ci))), (i7, .inl (cI, 4, .inl (qS vi))), (o0, .inr (2, [.int (nI 16), .ref o1, .ref o2, .ref o3, .ref o4, .ref o5, .ref o6, .ref o7])), (o1, .inl (cI, 16, .inl (qS yo))), (o2, .inl (cZ, 16, .inl (qZ zo))), (o3, .inl (cI, 16, .inl (qS lou))), (o4, .inl (cI, 4, .inl (qS so))), (o5, .inl (cI, 4, .inl (qN ao))), (o6, .inl (cI, 4, .inl (qS co))), (o7, .inl (cI, 4, .inl (qS vo))), (d0, .inr (0, [.ref d1, .int (nI tw), .int (nI tr)])), (d1, .inl (cI, 768, .inl (qS dd))), (w0, .inr (3, [.ref d0, .ref i0, .ref o0, .ref w1, .ref w2])), (w1, .inl (cG, 48, .inr (.inr (.inr (.inr (fun i => some (ra i))))))), (w2, .inl (cI, 16, .inl (qS ob))), (r0, .inr (1, [.ref d0, .ref i0, .ref o0, .ref r1, .ref r2, .ref r3, .ref r4, .int (nI me), .int (nI du), .int (nI fi), .int (nI le)])), (r1, .inl (cG, 48, .inr (.inr (.inr (.inr (fun i => some (rb i))))))), (r2, .inl (cZ, 48, .inl (qZ od))), (r3, .inl (cI, 384, .inl (qS ou))), (r4, .inl (cZ, 48, .inl (qZ lt)))] (qP cI ra IW) (qP cI rb OW)) s.heap := hP
  have hl := lv_entry ([.ref w0, .long v]) (n := 4) (Nat.le_of_ble_eq_true rfl)
  rw [lg_entry_eq]
  generalize (lg_sl ([.ref w0, .long v]) ++ List.replicate (4 - (lg_sl ([.ref w0, .long v])).length) Slot.unset).toArray = ls at hl ⊢
  have hl : lv_has ls 4 [(0, .ref w0), (1, .long v)] := hl
  have k_9 := hts (.fieldLink RX4 9 "DiscCoder$Writer" "disc" "LDiscCoder$Disc;") (by decide +kernel)
  have i_X0 : ∀ w ∈ u_ws RX0 TX0 3, w ∈ wsX4_writeFrame := by decide +kernel
  have i_X4 : ∀ w ∈ u_ws RX4 TX4 5, w ∈ wsX4_writeFrame := by decide +kernel
  refine qr_nm (fun Q hQ => ?_)
  refine lv_aload_n hx hb dX4_writeFrame_0 rfl (lv_at hl 0 rfl) ?_
  refine va_get (D := (dC, dI)) (ci := 3) (v := .ref d0) (C := RX4) (T := TX4) (N := 5) hx hb hts i_X4 hown hK hP 19 rfl rfl 0 (by decide) k_9 (fun _ h9 => h9) rfl dX4_writeFrame_1 ?_
  refine va_getN (D := (dC, dI)) (ci := 0) (v := .int (nI tw)) (C := RX0) (T := TX0) (N := 3) hx hb hts i_X0 hown hK hP 17 rfl rfl 1 (by decide) (va_Nw.use rfl (hN (.fieldLinkNest "DiscCoder$Writer" 31 "DiscCoder$Disc" "rowsWritten" "I" "DiscCoder") (by decide +kernel))) (fun _ h9 => h9) rfl dX4_writeFrame_4 ?_
  refine lv_istore_n (lv' := [(3, .int (nI tw)), (0, .ref w0), (1, .long v)]) hx hb dX4_writeFrame_7 rfl hl (by decide) rfl (fun ls hl => ?_)
  refine lv_aload_n hx hb dX4_writeFrame_8 rfl (lv_at hl 1 rfl) ?_
  refine lv_iload_n hx hb dX4_writeFrame_9 rfl (lv_at hl 0 rfl) ?_
  refine lv_lload_n hx hb dX4_writeFrame_10 rfl (lv_at hl 2 rfl) ?_
  have hPc := hP
  have hDc := hD
  have hKc := hK
  have hFc := qj_free hD hS hA
  refine va_callv (va_runV (As := [.int (nI tw), .long v]) (rest := []) ⟨hx, hb, hml, hown, hts⟩ (qc_mkIn l dC dI cI cZ cG x0 i0 i1 i2 i3 i4 i5 i6 i7 o0 o1 o2 o3 o4 o5 o6 o7 d0 d1 w0 w1 w2 r0 r1 r2 r3 r4 tw tr me du fi le ra rb yi zi lin si ai ci vi yo zo lou so ao co vo dd ob od ou lt IW OW tw v s.heap.size hli hlo htw) (cwV 2 hts gX4_writeFrame_X4_makeInner rfl rfl rfl (by decide +kernel) ⟨Nat.le_of_ble_eq_true rfl, Nat.le_of_ble_eq_true rfl⟩) ⟨fun a U g mk q => by obtain ⟨q0, q1, qP, qK, qD, qN⟩ := q; exact ⟨q0, q1, qP, va_K.moved (u := U) (U := U.calling g mk a) (Vm.Alike.refl U.vm) qK, qD, qn_same (u := U) rfl qN⟩, (va_recv (q0 := 19) (ci := 3) hK hP rfl rfl), fun U hU hW => ⟨rfl, by rw [hU], by rw [hU]; exact hPc, va_K.moved hW.alike hKc, hDc.weaken (fun _ _ _ _ => trivial), qn_warm hW hN⟩⟩ rfl rfl hl.1 rfl (lv_room (Nat.le_of_ble_eq_true rfl)) dX4_writeFrame_11 ⟨Nat.le_of_ble_eq_true rfl, Nat.le_of_ble_eq_true rfl⟩) hS (fun q _ h => hFc q h) hFc (fun u t H1 locs ht hvm hr11 hB hz1 hk1 hS => ?_)
  obtain ⟨yi2_11, zi2_11, si2_11, ai2_11, ci2_11, vi2_11⟩ := u
  dsimp only at hr11 hB
  obtain ⟨hP1, hK1, hD1⟩ := hB
  rw [ht] at hP1
  have hP1 : va_P (dC, dI) vwCl (qW2 [(x0, .inr (4, [.ref i0, .ref d0, .ref w0, .ref r0])), (i0, .inr (2, [.int (nI 12), .ref i1, .ref i2, .ref i3, .ref i4, .ref i5, .ref i6, .ref i7])), (i1, .inl (cI, 12, .inl (qS yi2_11))), (i2, .inl (cZ, 12, .inl (qZ zi2_11))), (i3, .inl (cI, 12, .inl (qS lin))), (i4, .inl (cI, 4, .inl (qS si2_11))), (i5, .inl (cI, 4, .inl (qN ai2_11))), (i6, .inl (cI, 4, .inl (qS ci2_11))), (i7, .inl (cI, 4, .inl (qS vi2_11))), (o0, .inr (2, [.int (nI 16), .ref o1, .ref o2, .ref o3, .ref o4, .ref o5, .ref o6, .ref o7])), (o1, .inl (cI, 16, .inl (qS yo))), (o2, .inl (cZ, 16, .inl (qZ zo))), (o3, .inl (cI, 16, .inl (qS lou))), (o4, .inl (cI, 4, .inl (qS so))), (o5, .inl (cI, 4, .inl (qN ao))), (o6, .inl (cI, 4, .inl (qS co))), (o7, .inl (cI, 4, .inl (qS vo))), (d0, .inr (0, [.ref d1, .int (nI tw), .int (nI tr)])), (d1, .inl (cI, 768, .inl (qS dd))), (w0, .inr (3, [.ref d0, .ref i0, .ref o0, .ref w1, .ref w2])), (w1, .inl (cG, 48, .inr (.inr (.inr (.inr (fun i => some (ra i))))))), (w2, .inl (cI, 16, .inl (qS ob))), (r0, .inr (1, [.ref d0, .ref i0, .ref o0, .ref r1, .ref r2, .ref r3, .ref r4, .int (nI me), .int (nI du), .int (nI fi), .int (nI le)])), (r1, .inl (cG, 48, .inr (.inr (.inr (.inr (fun i => some (rb i))))))), (r2, .inl (cZ, 48, .inl (qZ od))), (r3, .inl (cI, 384, .inl (qS ou))), (r4, .inl (cZ, 48, .inl (qZ lt)))] (qP cI ra (va_up IW tw (qs_iw v))) (qP cI rb OW)) H1 := hP1
  have hP := hP1
  have hD := hD1.weaken (fun _ q _ h => hFc q.1 h)
  generalize H1 = H at hP hS ⊢
  have hP : va_P (dC, dI) vwCl (qW2 [(x0, .inr (4, [.ref i0, .ref d0, .ref w0, .ref r0])), (i0, .inr (2, [.int (nI 12), .ref i1, .ref i2, .ref i3, .ref i4, .ref i5, .ref i6, .ref i7])), (i1, .inl (cI, 12, .inl (qS yi2_11))), (i2, .inl (cZ, 12, .inl (qZ zi2_11))), (i3, .inl (cI, 12, .inl (qS lin))), (i4, .inl (cI, 4, .inl (qS si2_11))), (i5, .inl (cI, 4, .inl (qN ai2_11))), (i6, .inl (cI, 4, .inl (qS ci2_11))), (i7, .inl (cI, 4, .inl (qS vi2_11))), (o0, .inr (2, [.int (nI 16), .ref o1, .ref o2, .ref o3, .ref o4, .ref o5, .ref o6, .ref o7])), (o1, .inl (cI, 16, .inl (qS yo))), (o2, .inl (cZ, 16, .inl (qZ zo))), (o3, .inl (cI, 16, .inl (qS lou))), (o4, .inl (cI, 4, .inl (qS so))), (o5, .inl (cI, 4, .inl (qN ao))), (o6, .inl (cI, 4, .inl (qS co))), (o7, .inl (cI, 4, .inl (qS vo))), (d0, .inr (0, [.ref d1, .int (nI tw), .int (nI tr)])), (d1, .inl (cI, 768, .inl (qS dd))), (w0, .inr (3, [.ref d0, .ref i0, .ref o0, .ref w1, .ref w2])), (w1, .inl (cG, 48, .inr (.inr (.inr (.inr (fun i => some (ra i))))))), (w2, .inl (cI, 16, .inl (qS ob))), (r0, .inr (1, [.ref d0, .ref i0, .ref o0, .ref r1, .ref r2, .ref r3, .ref r4, .int (nI me), .int (nI du), .int (nI fi), .int (nI le)])), (r1, .inl (cG, 48, .inr (.inr (.inr (.inr (fun i => some (rb i))))))), (r2, .inl (cZ, 48, .inl (qZ od))), (r3, .inl (cI, 384, .inl (qS ou))), (r4, .inl (cZ, 48, .inl (qZ lt)))] (qP cI ra (va_up IW tw (qs_iw v))) (qP cI rb OW)) H := hP
  have hD : va_D A (qW2 [(x0, .inr (4, [.ref i0, .ref d0, .ref w0, .ref r0])), (i0, .inr (2, [.int (nI 12), .ref i1, .ref i2, .ref i3, .ref i4, .ref i5, .ref i6, .ref i7])), (i1, .inl (cI, 12, .inl (qS yi2_11))), (i2, .inl (cZ, 12, .inl (qZ zi2_11))), (i3, .inl (cI, 12, .inl (qS lin))), (i4, .inl (cI, 4, .inl (qS si2_11))), (i5, .inl (cI, 4, .inl (qN ai2_11))), (i6, .inl (cI, 4, .inl (qS ci2_11))), (i7, .inl (cI, 4, .inl (qS vi2_11))), (o0, .inr (2, [.int (nI 16), .ref o1, .ref o2, .ref o3, .ref o4, .ref o5, .ref o6, .ref o7])), (o1, .inl (cI, 16, .inl (qS yo))), (o2, .inl (cZ, 16, .inl (qZ zo))), (o3, .inl (cI, 16, .inl (qS lou))), (o4, .inl (cI, 4, .inl (qS so))), (o5, .inl (cI, 4, .inl (qN ao))), (o6, .inl (cI, 4, .inl (qS co))), (o7, .inl (cI, 4, .inl (qS vo))), (d0, .inr (0, [.ref d1, .int (nI tw), .int (nI tr)])), (d1, .inl (cI, 768, .inl (qS dd))), (w0, .inr (3, [.ref d0, .ref i0, .ref o0, .ref w1, .ref w2])), (w1, .inl (cG, 48, .inr (.inr (.inr (.inr (fun i => some (ra i))))))), (w2, .inl (cI, 16, .inl (qS ob))), (r0, .inr (1, [.ref d0, .ref i0, .ref o0, .ref r1, .ref r2, .ref r3, .ref r4, .int (nI me), .int (nI du), .int (nI fi), .int (nI le)])), (r1, .inl (cG, 48, .inr (.inr (.inr (.inr (fun i => some (rb i))))))), (r2, .inl (cZ, 48, .inl (qZ od))), (r3, .inl (cI, 384, .inl (qS ou))), (r4, .inl (cZ, 48, .inl (qZ lt)))] (qP cI ra (va_up IW tw (qs_iw v))) (qP cI rb OW)) := hD
  refine lv_aload_n hx hb dX4_writeFrame_14 rfl (lv_at hl 1 rfl) ?_
  refine lv_iload_n hx hb dX4_writeFrame_15 rfl (lv_at hl 0 rfl) ?_
  have hPc := hP
  have hDc := hD
  have hKc := hK
  have hFc := qj_free hD hS hA
  refine va_callv (va_runV (As := [.int (nI tw)]) (rest := []) ⟨hx, hb, hml, hown, hts⟩ (qc_mkOut l dC dI cI cZ cG x0 i0 i1 i2 i3 i4 i5 i6 i7 o0 o1 o2 o3 o4 o5 o6 o7 d0 d1 w0 w1 w2 r0 r1 r2 r3 r4 tw tr me du fi le ra rb yi2_11 zi2_11 lin si2_11 ai2_11 ci2_11 vi2_11 yo zo lou so ao co vo dd ob od ou lt (va_up IW tw (qs_iw v)) OW tw H.size hli hlo htw) (cwV 1 hts gX4_writeFrame_X4_makeOuter rfl rfl rfl (by decide +kernel) ⟨Nat.le_of_ble_eq_true rfl, Nat.le_of_ble_eq_true rfl⟩) ⟨fun a U g mk q => by obtain ⟨q0, q1, qP, qK, qD, qN⟩ := q; exact ⟨q0, q1, qP, va_K.moved (u := U) (U := U.calling g mk a) (Vm.Alike.refl U.vm) qK, qD, qn_same (u := U) rfl qN⟩, (va_recv (q0 := 19) (ci := 3) hK hP rfl rfl), fun U hU hW => ⟨rfl, by rw [hU], by rw [hU]; exact hPc, va_K.moved hW.alike hKc, hDc.weaken (fun _ _ _ _ => trivial), qn_warm hW hN⟩⟩ rfl rfl hl.1 rfl (lv_room (Nat.le_of_ble_eq_true rfl)) dX4_writeFrame_16 ⟨Nat.le_of_ble_eq_true rfl, Nat.le_of_ble_eq_true rfl⟩) hS (fun q _ h => hFc q h) hFc (fun u t H1 locs ht hvm hr16 hB hz1 hk1 hS => ?_)
  obtain ⟨zo2_16, so2_16, ao2_16, co2_16, vo2_16⟩ := u
  dsimp only at hr16 hB
  obtain ⟨hP1, hK1, hD1⟩ := hB
  rw [ht] at hP1
  have hP1 : va_P (dC, dI) vwCl (qW2 [(x0, .inr (4, [.ref i0, .ref d0, .ref w0, .ref r0])), (i0, .inr (2, [.int (nI 12), .ref i1, .ref i2, .ref i3, .ref i4, .ref i5, .ref i6, .ref i7])), (i1, .inl (cI, 12, .inl (qS yi2_11))), (i2, .inl (cZ, 12, .inl (qZ zi2_11))), (i3, .inl (cI, 12, .inl (qS lin))), (i4, .inl (cI, 4, .inl (qS si2_11))), (i5, .inl (cI, 4, .inl (qN ai2_11))), (i6, .inl (cI, 4, .inl (qS ci2_11))), (i7, .inl (cI, 4, .inl (qS vi2_11))), (o0, .inr (2, [.int (nI 16), .ref o1, .ref o2, .ref o3, .ref o4, .ref o5, .ref o6, .ref o7])), (o1, .inl (cI, 16, .inl (qS (qs_ow (va_up IW tw (qs_iw v)) tw)))), (o2, .inl (cZ, 16, .inl (qZ zo2_16))), (o3, .inl (cI, 16, .inl (qS lou))), (o4, .inl (cI, 4, .inl (qS so2_16))), (o5, .inl (cI, 4, .inl (qN ao2_16))), (o6, .inl (cI, 4, .inl (qS co2_16))), (o7, .inl (cI, 4, .inl (qS vo2_16))), (d0, .inr (0, [.ref d1, .int (nI tw), .int (nI tr)])), (d1, .inl (cI, 768, .inl (qS dd))), (w0, .inr (3, [.ref d0, .ref i0, .ref o0, .ref w1, .ref w2])), (w1, .inl (cG, 48, .inr (.inr (.inr (.inr (fun i => some (ra i))))))), (w2, .inl (cI, 16, .inl (qS ob))), (r0, .inr (1, [.ref d0, .ref i0, .ref o0, .ref r1, .ref r2, .ref r3, .ref r4, .int (nI me), .int (nI du), .int (nI fi), .int (nI le)])), (r1, .inl (cG, 48, .inr (.inr (.inr (.inr (fun i => some (rb i))))))), (r2, .inl (cZ, 48, .inl (qZ od))), (r3, .inl (cI, 384, .inl (qS ou))), (r4, .inl (cZ, 48, .inl (qZ lt)))] (qP cI ra (va_up IW tw (qs_iw v))) (qP cI rb OW)) H1 := hP1
  have hP := hP1
  have hD := hD1.weaken (fun _ q _ h => hFc q.1 h)
  generalize H1 = H at hP hS ⊢
  have hP : va_P (dC, dI) vwCl (qW2 [(x0, .inr (4, [.ref i0, .ref d0, .ref w0, .ref r0])), (i0, .inr (2, [.int (nI 12), .ref i1, .ref i2, .ref i3, .ref i4, .ref i5, .ref i6, .ref i7])), (i1, .inl (cI, 12, .inl (qS yi2_11))), (i2, .inl (cZ, 12, .inl (qZ zi2_11))), (i3, .inl (cI, 12, .inl (qS lin))), (i4, .inl (cI, 4, .inl (qS si2_11))), (i5, .inl (cI, 4, .inl (qN ai2_11))), (i6, .inl (cI, 4, .inl (qS ci2_11))), (i7, .inl (cI, 4, .inl (qS vi2_11))), (o0, .inr (2, [.int (nI 16), .ref o1, .ref o2, .ref o3, .ref o4, .ref o5, .ref o6, .ref o7])), (o1, .inl (cI, 16, .inl (qS (qs_ow (va_up IW tw (qs_iw v)) tw)))), (o2, .inl (cZ, 16, .inl (qZ zo2_16))), (o3, .inl (cI, 16, .inl (qS lou))), (o4, .inl (cI, 4, .inl (qS so2_16))), (o5, .inl (cI, 4, .inl (qN ao2_16))), (o6, .inl (cI, 4, .inl (qS co2_16))), (o7, .inl (cI, 4, .inl (qS vo2_16))), (d0, .inr (0, [.ref d1, .int (nI tw), .int (nI tr)])), (d1, .inl (cI, 768, .inl (qS dd))), (w0, .inr (3, [.ref d0, .ref i0, .ref o0, .ref w1, .ref w2])), (w1, .inl (cG, 48, .inr (.inr (.inr (.inr (fun i => some (ra i))))))), (w2, .inl (cI, 16, .inl (qS ob))), (r0, .inr (1, [.ref d0, .ref i0, .ref o0, .ref r1, .ref r2, .ref r3, .ref r4, .int (nI me), .int (nI du), .int (nI fi), .int (nI le)])), (r1, .inl (cG, 48, .inr (.inr (.inr (.inr (fun i => some (rb i))))))), (r2, .inl (cZ, 48, .inl (qZ od))), (r3, .inl (cI, 384, .inl (qS ou))), (r4, .inl (cZ, 48, .inl (qZ lt)))] (qP cI ra (va_up IW tw (qs_iw v))) (qP cI rb OW)) H := hP
  have hD : va_D A (qW2 [(x0, .inr (4, [.ref i0, .ref d0, .ref w0, .ref r0])), (i0, .inr (2, [.int (nI 12), .ref i1, .ref i2, .ref i3, .ref i4, .ref i5, .ref i6, .ref i7])), (i1, .inl (cI, 12, .inl (qS yi2_11))), (i2, .inl (cZ, 12, .inl (qZ zi2_11))), (i3, .inl (cI, 12, .inl (qS lin))), (i4, .inl (cI, 4, .inl (qS si2_11))), (i5, .inl (cI, 4, .inl (qN ai2_11))), (i6, .inl (cI, 4, .inl (qS ci2_11))), (i7, .inl (cI, 4, .inl (qS vi2_11))), (o0, .inr (2, [.int (nI 16), .ref o1, .ref o2, .ref o3, .ref o4, .ref o5, .ref o6, .ref o7])), (o1, .inl (cI, 16, .inl (qS (qs_ow (va_up IW tw (qs_iw v)) tw)))), (o2, .inl (cZ, 16, .inl (qZ zo2_16))), (o3, .inl (cI, 16, .inl (qS lou))), (o4, .inl (cI, 4, .inl (qS so2_16))), (o5, .inl (cI, 4, .inl (qN ao2_16))), (o6, .inl (cI, 4, .inl (qS co2_16))), (o7, .inl (cI, 4, .inl (qS vo2_16))), (d0, .inr (0, [.ref d1, .int (nI tw), .int (nI tr)])), (d1, .inl (cI, 768, .inl (qS dd))), (w0, .inr (3, [.ref d0, .ref i0, .ref o0, .ref w1, .ref w2])), (w1, .inl (cG, 48, .inr (.inr (.inr (.inr (fun i => some (ra i))))))), (w2, .inl (cI, 16, .inl (qS ob))), (r0, .inr (1, [.ref d0, .ref i0, .ref o0, .ref r1, .ref r2, .ref r3, .ref r4, .int (nI me), .int (nI du), .int (nI fi), .int (nI le)])), (r1, .inl (cG, 48, .inr (.inr (.inr (.inr (fun i => some (rb i))))))), (r2, .inl (cZ, 48, .inl (qZ od))), (r3, .inl (cI, 384, .inl (qS ou))), (r4, .inl (cZ, 48, .inl (qZ lt)))] (qP cI ra (va_up IW tw (qs_iw v))) (qP cI rb OW)) := hD
  refine lv_aload_n hx hb dX4_writeFrame_19 rfl (lv_at hl 1 rfl) ?_
  refine lv_iload_n hx hb dX4_writeFrame_20 rfl (lv_at hl 0 rfl) ?_
  have hPc := hP
  have hDc := hD
  have hKc := hK
  have hFc := qj_free hD hS hA
  refine va_callv (va_runV (As := [.int (nI tw)]) (rest := []) ⟨hx, hb, hml, hown, hts⟩ (qc_wrRow l dC dI cI cZ cG x0 i0 i1 i2 i3 i4 i5 i6 i7 o0 o1 o2 o3 o4 o5 o6 o7 d0 d1 w0 w1 w2 r0 r1 r2 r3 r4 tw tr me du fi le ra rb yi2_11 zi2_11 lin si2_11 ai2_11 ci2_11 vi2_11 (qs_ow (va_up IW tw (qs_iw v)) tw) zo2_16 lou so2_16 ao2_16 co2_16 vo2_16 dd ob od ou lt (va_up IW tw (qs_iw v)) OW tw H.size htw) (cwV 1 hts gX4_writeFrame_X4_writeRow rfl rfl rfl (by decide +kernel) ⟨Nat.le_of_ble_eq_true rfl, Nat.le_of_ble_eq_true rfl⟩) ⟨fun a U g mk q => by obtain ⟨q0, q1, qP, qK, qD, qN⟩ := q; exact ⟨q0, q1, qP, va_K.moved (u := U) (U := U.calling g mk a) (Vm.Alike.refl U.vm) qK, qD, qn_same (u := U) rfl qN⟩, (va_recv (q0 := 19) (ci := 3) hK hP rfl rfl), fun U hU hW => ⟨rfl, by rw [hU], by rw [hU]; exact hPc, va_K.moved hW.alike hKc, hDc.weaken (fun _ _ _ _ => trivial), qn_warm hW hN⟩⟩ rfl rfl hl.1 rfl (lv_room (Nat.le_of_ble_eq_true rfl)) dX4_writeFrame_21 ⟨Nat.le_of_ble_eq_true rfl, Nat.le_of_ble_eq_true rfl⟩) hS (fun q _ h => hFc q h) hFc (fun u t H1 locs ht hvm hr21 hB hz1 hk1 hS => ?_)
  obtain ⟨hP1, hK1, hD1⟩ := hB
  rw [ht] at hP1
  have hP1 : va_P (dC, dI) vwCl (qW2 [(x0, .inr (4, [.ref i0, .ref d0, .ref w0, .ref r0])), (i0, .inr (2, [.int (nI 12), .ref i1, .ref i2, .ref i3, .ref i4, .ref i5, .ref i6, .ref i7])), (i1, .inl (cI, 12, .inl (qS yi2_11))), (i2, .inl (cZ, 12, .inl (qZ zi2_11))), (i3, .inl (cI, 12, .inl (qS lin))), (i4, .inl (cI, 4, .inl (qS si2_11))), (i5, .inl (cI, 4, .inl (qN ai2_11))), (i6, .inl (cI, 4, .inl (qS ci2_11))), (i7, .inl (cI, 4, .inl (qS vi2_11))), (o0, .inr (2, [.int (nI 16), .ref o1, .ref o2, .ref o3, .ref o4, .ref o5, .ref o6, .ref o7])), (o1, .inl (cI, 16, .inl (qS (qs_ow (va_up IW tw (qs_iw v)) tw)))), (o2, .inl (cZ, 16, .inl (qZ zo2_16))), (o3, .inl (cI, 16, .inl (qS lou))), (o4, .inl (cI, 4, .inl (qS so2_16))), (o5, .inl (cI, 4, .inl (qN ao2_16))), (o6, .inl (cI, 4, .inl (qS co2_16))), (o7, .inl (cI, 4, .inl (qS vo2_16))), (d0, .inr (0, [.ref d1, .int (nI tw), .int (nI tr)])), (d1, .inl (cI, 768, .inl (qS (qs_wr dd tw (qs_ow (va_up IW tw (qs_iw v)) tw) ob 16)))), (w0, .inr (3, [.ref d0, .ref i0, .ref o0, .ref w1, .ref w2])), (w1, .inl (cG, 48, .inr (.inr (.inr (.inr (fun i => some (ra i))))))), (w2, .inl (cI, 16, .inl (qS (qs_ow (va_up IW tw (qs_iw v)) tw)))), (r0, .inr (1, [.ref d0, .ref i0, .ref o0, .ref r1, .ref r2, .ref r3, .ref r4, .int (nI me), .int (nI du), .int (nI fi), .int (nI le)])), (r1, .inl (cG, 48, .inr (.inr (.inr (.inr (fun i => some (rb i))))))), (r2, .inl (cZ, 48, .inl (qZ od))), (r3, .inl (cI, 384, .inl (qS ou))), (r4, .inl (cZ, 48, .inl (qZ lt)))] (qP cI ra (va_up IW tw (qs_iw v))) (qP cI rb OW)) H1 := hP1
  have hP := hP1
  have hD := hD1.weaken (fun _ q _ h => hFc q.1 h)
  generalize H1 = H at hP hS ⊢
  have hP : va_P (dC, dI) vwCl (qW2 [(x0, .inr (4, [.ref i0, .ref d0, .ref w0, .ref r0])), (i0, .inr (2, [.int (nI 12), .ref i1, .ref i2, .ref i3, .ref i4, .ref i5, .ref i6, .ref i7])), (i1, .inl (cI, 12, .inl (qS yi2_11))), (i2, .inl (cZ, 12, .inl (qZ zi2_11))), (i3, .inl (cI, 12, .inl (qS lin))), (i4, .inl (cI, 4, .inl (qS si2_11))), (i5, .inl (cI, 4, .inl (qN ai2_11))), (i6, .inl (cI, 4, .inl (qS ci2_11))), (i7, .inl (cI, 4, .inl (qS vi2_11))), (o0, .inr (2, [.int (nI 16), .ref o1, .ref o2, .ref o3, .ref o4, .ref o5, .ref o6, .ref o7])), (o1, .inl (cI, 16, .inl (qS (qs_ow (va_up IW tw (qs_iw v)) tw)))), (o2, .inl (cZ, 16, .inl (qZ zo2_16))), (o3, .inl (cI, 16, .inl (qS lou))), (o4, .inl (cI, 4, .inl (qS so2_16))), (o5, .inl (cI, 4, .inl (qN ao2_16))), (o6, .inl (cI, 4, .inl (qS co2_16))), (o7, .inl (cI, 4, .inl (qS vo2_16))), (d0, .inr (0, [.ref d1, .int (nI tw), .int (nI tr)])), (d1, .inl (cI, 768, .inl (qS (qs_wr dd tw (qs_ow (va_up IW tw (qs_iw v)) tw) ob 16)))), (w0, .inr (3, [.ref d0, .ref i0, .ref o0, .ref w1, .ref w2])), (w1, .inl (cG, 48, .inr (.inr (.inr (.inr (fun i => some (ra i))))))), (w2, .inl (cI, 16, .inl (qS (qs_ow (va_up IW tw (qs_iw v)) tw)))), (r0, .inr (1, [.ref d0, .ref i0, .ref o0, .ref r1, .ref r2, .ref r3, .ref r4, .int (nI me), .int (nI du), .int (nI fi), .int (nI le)])), (r1, .inl (cG, 48, .inr (.inr (.inr (.inr (fun i => some (rb i))))))), (r2, .inl (cZ, 48, .inl (qZ od))), (r3, .inl (cI, 384, .inl (qS ou))), (r4, .inl (cZ, 48, .inl (qZ lt)))] (qP cI ra (va_up IW tw (qs_iw v))) (qP cI rb OW)) H := hP
  have hD : va_D A (qW2 [(x0, .inr (4, [.ref i0, .ref d0, .ref w0, .ref r0])), (i0, .inr (2, [.int (nI 12), .ref i1, .ref i2, .ref i3, .ref i4, .ref i5, .ref i6, .ref i7])), (i1, .inl (cI, 12, .inl (qS yi2_11))), (i2, .inl (cZ, 12, .inl (qZ zi2_11))), (i3, .inl (cI, 12, .inl (qS lin))), (i4, .inl (cI, 4, .inl (qS si2_11))), (i5, .inl (cI, 4, .inl (qN ai2_11))), (i6, .inl (cI, 4, .inl (qS ci2_11))), (i7, .inl (cI, 4, .inl (qS vi2_11))), (o0, .inr (2, [.int (nI 16), .ref o1, .ref o2, .ref o3, .ref o4, .ref o5, .ref o6, .ref o7])), (o1, .inl (cI, 16, .inl (qS (qs_ow (va_up IW tw (qs_iw v)) tw)))), (o2, .inl (cZ, 16, .inl (qZ zo2_16))), (o3, .inl (cI, 16, .inl (qS lou))), (o4, .inl (cI, 4, .inl (qS so2_16))), (o5, .inl (cI, 4, .inl (qN ao2_16))), (o6, .inl (cI, 4, .inl (qS co2_16))), (o7, .inl (cI, 4, .inl (qS vo2_16))), (d0, .inr (0, [.ref d1, .int (nI tw), .int (nI tr)])), (d1, .inl (cI, 768, .inl (qS (qs_wr dd tw (qs_ow (va_up IW tw (qs_iw v)) tw) ob 16)))), (w0, .inr (3, [.ref d0, .ref i0, .ref o0, .ref w1, .ref w2])), (w1, .inl (cG, 48, .inr (.inr (.inr (.inr (fun i => some (ra i))))))), (w2, .inl (cI, 16, .inl (qS (qs_ow (va_up IW tw (qs_iw v)) tw)))), (r0, .inr (1, [.ref d0, .ref i0, .ref o0, .ref r1, .ref r2, .ref r3, .ref r4, .int (nI me), .int (nI du), .int (nI fi), .int (nI le)])), (r1, .inl (cG, 48, .inr (.inr (.inr (.inr (fun i => some (rb i))))))), (r2, .inl (cZ, 48, .inl (qZ od))), (r3, .inl (cI, 384, .inl (qS ou))), (r4, .inl (cZ, 48, .inl (qZ lt)))] (qP cI ra (va_up IW tw (qs_iw v))) (qP cI rb OW)) := hD
  refine lv_aload_n hx hb dX4_writeFrame_24 rfl (lv_at hl 1 rfl) ?_
  refine va_get (D := (dC, dI)) (ci := 3) (v := .ref d0) (C := RX4) (T := TX4) (N := 5) hx hb hts i_X4 hown hK hP 19 rfl rfl 0 (by decide) k_9 (fun _ h9 => h9) rfl dX4_writeFrame_25 ?_
  refine lv_dup hx hb dX4_writeFrame_28 rfl ?_
  refine va_getN (D := (dC, dI)) (ci := 0) (v := .int (nI tw)) (C := RX0) (T := TX0) (N := 3) hx hb hts i_X0 hown hK hP 17 rfl rfl 1 (by decide) (va_Nw.use rfl (hN (.fieldLinkNest "DiscCoder$Writer" 31 "DiscCoder$Disc" "rowsWritten" "I" "DiscCoder") (by decide +kernel))) (fun _ h9 => h9) rfl dX4_writeFrame_29 ?_
  refine lv_iconst (v := nI 1) hx hb dX4_writeFrame_32 (by decide) ?_
  refine qr_iadd (z := nI (tw + 1)) hx hb dX4_writeFrame_33 (nI_add _ _) ?_
  refine va_putN (D := (dC, dI)) (ci := 0) (v := .int (nI (tw + 1))) (ty := .int) (C := RX0) (T := TX0) (N := 3) hx hb hts i_X0 tyX0 tyX0_ok nmX0 hown hK hP hD hS 17 rfl rfl 1 (by decide) (va_Nw.use rfl (hN (.fieldLinkNest "DiscCoder$Writer" 31 "DiscCoder$Disc" "rowsWritten" "I" "DiscCoder") (by decide +kernel))) (fun _ h9 => h9) rfl (by decide +kernel) rfl rfl (Nat.le_of_ble_eq_true rfl) dX4_writeFrame_34 (fun H locs hP hD hS => ?_)
  have hP : va_P (dC, dI) vwCl (qW2 [(x0, .inr (4, [.ref i0, .ref d0, .ref w0, .ref r0])), (i0, .inr (2, [.int (nI 12), .ref i1, .ref i2, .ref i3, .ref i4, .ref i5, .ref i6, .ref i7])), (i1, .inl (cI, 12, .inl (qS yi2_11))), (i2, .inl (cZ, 12, .inl (qZ zi2_11))), (i3, .inl (cI, 12, .inl (qS lin))), (i4, .inl (cI, 4, .inl (qS si2_11))), (i5, .inl (cI, 4, .inl (qN ai2_11))), (i6, .inl (cI, 4, .inl (qS ci2_11))), (i7, .inl (cI, 4, .inl (qS vi2_11))), (o0, .inr (2, [.int (nI 16), .ref o1, .ref o2, .ref o3, .ref o4, .ref o5, .ref o6, .ref o7])), (o1, .inl (cI, 16, .inl (qS (qs_ow (va_up IW tw (qs_iw v)) tw)))), (o2, .inl (cZ, 16, .inl (qZ zo2_16))), (o3, .inl (cI, 16, .inl (qS lou))), (o4, .inl (cI, 4, .inl (qS so2_16))), (o5, .inl (cI, 4, .inl (qN ao2_16))), (o6, .inl (cI, 4, .inl (qS co2_16))), (o7, .inl (cI, 4, .inl (qS vo2_16))), (d0, .inr (0, [.ref d1, .int (nI (tw + 1)), .int (nI tr)])), (d1, .inl (cI, 768, .inl (qS (qs_wr dd tw (qs_ow (va_up IW tw (qs_iw v)) tw) ob 16)))), (w0, .inr (3, [.ref d0, .ref i0, .ref o0, .ref w1, .ref w2])), (w1, .inl (cG, 48, .inr (.inr (.inr (.inr (fun i => some (ra i))))))), (w2, .inl (cI, 16, .inl (qS (qs_ow (va_up IW tw (qs_iw v)) tw)))), (r0, .inr (1, [.ref d0, .ref i0, .ref o0, .ref r1, .ref r2, .ref r3, .ref r4, .int (nI me), .int (nI du), .int (nI fi), .int (nI le)])), (r1, .inl (cG, 48, .inr (.inr (.inr (.inr (fun i => some (rb i))))))), (r2, .inl (cZ, 48, .inl (qZ od))), (r3, .inl (cI, 384, .inl (qS ou))), (r4, .inl (cZ, 48, .inl (qZ lt)))] (qP cI ra (va_up IW tw (qs_iw v))) (qP cI rb OW)) H := hP
  have hD : va_D A (qW2 [(x0, .inr (4, [.ref i0, .ref d0, .ref w0, .ref r0])), (i0, .inr (2, [.int (nI 12), .ref i1, .ref i2, .ref i3, .ref i4, .ref i5, .ref i6, .ref i7])), (i1, .inl (cI, 12, .inl (qS yi2_11))), (i2, .inl (cZ, 12, .inl (qZ zi2_11))), (i3, .inl (cI, 12, .inl (qS lin))), (i4, .inl (cI, 4, .inl (qS si2_11))), (i5, .inl (cI, 4, .inl (qN ai2_11))), (i6, .inl (cI, 4, .inl (qS ci2_11))), (i7, .inl (cI, 4, .inl (qS vi2_11))), (o0, .inr (2, [.int (nI 16), .ref o1, .ref o2, .ref o3, .ref o4, .ref o5, .ref o6, .ref o7])), (o1, .inl (cI, 16, .inl (qS (qs_ow (va_up IW tw (qs_iw v)) tw)))), (o2, .inl (cZ, 16, .inl (qZ zo2_16))), (o3, .inl (cI, 16, .inl (qS lou))), (o4, .inl (cI, 4, .inl (qS so2_16))), (o5, .inl (cI, 4, .inl (qN ao2_16))), (o6, .inl (cI, 4, .inl (qS co2_16))), (o7, .inl (cI, 4, .inl (qS vo2_16))), (d0, .inr (0, [.ref d1, .int (nI (tw + 1)), .int (nI tr)])), (d1, .inl (cI, 768, .inl (qS (qs_wr dd tw (qs_ow (va_up IW tw (qs_iw v)) tw) ob 16)))), (w0, .inr (3, [.ref d0, .ref i0, .ref o0, .ref w1, .ref w2])), (w1, .inl (cG, 48, .inr (.inr (.inr (.inr (fun i => some (ra i))))))), (w2, .inl (cI, 16, .inl (qS (qs_ow (va_up IW tw (qs_iw v)) tw)))), (r0, .inr (1, [.ref d0, .ref i0, .ref o0, .ref r1, .ref r2, .ref r3, .ref r4, .int (nI me), .int (nI du), .int (nI fi), .int (nI le)])), (r1, .inl (cG, 48, .inr (.inr (.inr (.inr (fun i => some (rb i))))))), (r2, .inl (cZ, 48, .inl (qZ od))), (r3, .inl (cI, 384, .inl (qS ou))), (r4, .inl (cZ, 48, .inl (qZ lt)))] (qP cI ra (va_up IW tw (qs_iw v))) (qP cI rb OW)) := hD
  refine lv_iload_n hx hb dX4_writeFrame_37 rfl (lv_at hl 0 rfl) ?_
  subst hQ
  exact W.iret hx hb hr (fun t ht hW => ⟨⟨_, (yi2_11, zi2_11, si2_11, ai2_11, ci2_11, vi2_11, zo2_16, so2_16, ao2_16, co2_16, vo2_16), rfl, rfl, by rw [ht]; exact hP, va_K.moved hW.alike hK, hD⟩, hS.F ht⟩) hS.2.2 dX4_writeFrame_38
end
