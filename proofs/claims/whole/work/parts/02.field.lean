/-! symbols as a field: carried by BitVec 8; sums by xor, products qf_m -/
theorem qf_all {P : BitVec 8 → Prop} (h : ∀ n, n < 256 → P (BitVec.ofNat 8 n)) (a : BitVec 8) : P a := by
  have h1 := h a.toNat a.isLt
  rwa [BitVec.ofNat_toNat, BitVec.setWidth_eq] at h1
def qf_x (a : BitVec 8) : BitVec 8 := (a <<< 1) ^^^ (bif a.getLsbD 7 then 29#8 else 0#8)
def qf_s (a : BitVec 8) : Nat → BitVec 8
  | 0 => a
  | k + 1 => qf_x (qf_s a k)
def qf_u (a b : BitVec 8) : Nat → BitVec 8
  | 0 => 0#8
  | k + 1 => qf_u a b k ^^^ (bif b.getLsbD k then qf_s a k else 0#8)
def qf_m (a b : BitVec 8) : BitVec 8 := qf_u a b 8
theorem qf_x4 (p q r s : BitVec 8) : (p ^^^ q) ^^^ (r ^^^ s) = (p ^^^ r) ^^^ (q ^^^ s) := by
  rw [BitVec.xor_assoc, BitVec.xor_assoc p r, ← BitVec.xor_assoc q r s, BitVec.xor_comm q r, BitVec.xor_assoc r q s]
theorem qf_xs (p q : BitVec 8) : p ^^^ (p ^^^ q) = q := by rw [← BitVec.xor_assoc, BitVec.xor_self, BitVec.zero_xor]
theorem qf_xe {p q : BitVec 8} (h : p ^^^ q = 0#8) : p = q := by
  have h1 := qf_xs p q
  rw [h, BitVec.xor_zero] at h1
  exact h1
theorem qf_bif (x y : Bool) (t : BitVec 8) : (bif (x ^^ y) then t else 0#8) = (bif x then t else 0#8) ^^^ (bif y then t else 0#8) := by
  cases x <;> cases y <;> simp
theorem qf_u_r (a b c : BitVec 8) (k : Nat) : qf_u a (b ^^^ c) k = qf_u a b k ^^^ qf_u a c k := by
  induction k with
  | zero => simp [qf_u]
  | succ k ih =>
    rw [qf_u, qf_u, qf_u, ih, BitVec.getLsbD_xor, qf_bif, qf_x4]
theorem qf_x_l (a b : BitVec 8) : qf_x (a ^^^ b) = qf_x a ^^^ qf_x b := by
  unfold qf_x
  rw [BitVec.getLsbD_xor, qf_bif, BitVec.shiftLeft_xor_distrib, qf_x4]
theorem qf_s_l (a b : BitVec 8) (k : Nat) : qf_s (a ^^^ b) k = qf_s a k ^^^ qf_s b k := by
  induction k with
  | zero => rfl
  | succ k ih => rw [qf_s, qf_s, qf_s, ih, qf_x_l]
theorem qf_u_l (a b c : BitVec 8) (k : Nat) : qf_u (a ^^^ b) c k = qf_u a c k ^^^ qf_u b c k := by
  induction k with
  | zero => simp [qf_u]
  | succ k ih =>
    rw [qf_u, qf_u, qf_u, ih, qf_s_l]
    cases c.getLsbD k
    · simp
    · simp only [cond_true]
      rw [qf_x4]
theorem qf_m_l (a b c : BitVec 8) : qf_m (a ^^^ b) c = qf_m a c ^^^ qf_m b c := qf_u_l a b c 8
theorem qf_m_r (a b c : BitVec 8) : qf_m a (b ^^^ c) = qf_m a b ^^^ qf_m a c := qf_u_r a b c 8
theorem qf_basis (a : BitVec 8) : a = (bif a.getLsbD 0 then 1#8 else 0#8) ^^^ ((bif a.getLsbD 1 then 2#8 else 0#8) ^^^ ((bif a.getLsbD 2 then 4#8 else 0#8) ^^^ ((bif a.getLsbD 3 then 8#8 else 0#8) ^^^ ((bif a.getLsbD 4 then 16#8 else 0#8) ^^^ ((bif a.getLsbD 5 then 32#8 else 0#8) ^^^ ((bif a.getLsbD 6 then 64#8 else 0#8) ^^^ (bif a.getLsbD 7 then 128#8 else 0#8))))))) := by
  refine qf_all (P := fun a => a = (bif a.getLsbD 0 then 1#8 else 0#8) ^^^ ((bif a.getLsbD 1 then 2#8 else 0#8) ^^^ ((bif a.getLsbD 2 then 4#8 else 0#8) ^^^ ((bif a.getLsbD 3 then 8#8 else 0#8) ^^^ ((bif a.getLsbD 4 then 16#8 else 0#8) ^^^ ((bif a.getLsbD 5 then 32#8 else 0#8) ^^^ ((bif a.getLsbD 6 then 64#8 else 0#8) ^^^ (bif a.getLsbD 7 then 128#8 else 0#8)))))))) ?_ a
  decide +kernel
theorem qf_add0 {f : BitVec 8 → BitVec 8} (hf : ∀ a b, f (a ^^^ b) = f a ^^^ f b) : f 0#8 = 0#8 := by
  have h := hf 0#8 0#8
  rw [BitVec.xor_self, BitVec.xor_self] at h
  exact h
theorem qf_ext {f g : BitVec 8 → BitVec 8} (hf : ∀ a b, f (a ^^^ b) = f a ^^^ f b) (hg : ∀ a b, g (a ^^^ b) = g a ^^^ g b) (h : ∀ k, k < 8 → f (BitVec.ofNat 8 (2 ^ k)) = g (BitVec.ofNat 8 (2 ^ k))) (a : BitVec 8) : f a = g a := by
  have key : ∀ (c : Bool) (t : BitVec 8), f t = g t → f (bif c then t else 0#8) = g (bif c then t else 0#8) := by
    intro c t e
    cases c
    · show f 0#8 = g 0#8
      rw [qf_add0 hf, qf_add0 hg]
    · exact e
  rw [qf_basis a]
  simp only [hf, hg]
  rw [key _ 1#8 (h 0 (by decide)), key _ 2#8 (h 1 (by decide)), key _ 4#8 (h 2 (by decide)), key _ 8#8 (h 3 (by decide)), key _ 16#8 (h 4 (by decide)), key _ 32#8 (h 5 (by decide)), key _ 64#8 (h 6 (by decide)), key _ 128#8 (h 7 (by decide))]
theorem qf_comm_b : ∀ k, k < 8 → ∀ j, j < 8 → qf_m (BitVec.ofNat 8 (2 ^ k)) (BitVec.ofNat 8 (2 ^ j)) = qf_m (BitVec.ofNat 8 (2 ^ j)) (BitVec.ofNat 8 (2 ^ k)) := by decide +kernel
theorem qf_comm (a b : BitVec 8) : qf_m a b = qf_m b a :=
  qf_ext (f := fun a => qf_m a b) (g := fun a => qf_m b a) (fun x y => qf_m_l x y b) (fun x y => qf_m_r b x y)
    (fun k hk => qf_ext (f := fun b => qf_m (BitVec.ofNat 8 (2 ^ k)) b) (g := fun b => qf_m b (BitVec.ofNat 8 (2 ^ k))) (fun x y => qf_m_r _ x y) (fun x y => qf_m_l x y _) (fun j hj => qf_comm_b k hk j hj) b) a
theorem qf_assoc_b : ∀ k, k < 8 → ∀ j, j < 8 → ∀ i, i < 8 → qf_m (qf_m (BitVec.ofNat 8 (2 ^ k)) (BitVec.ofNat 8 (2 ^ j))) (BitVec.ofNat 8 (2 ^ i)) = qf_m (BitVec.ofNat 8 (2 ^ k)) (qf_m (BitVec.ofNat 8 (2 ^ j)) (BitVec.ofNat 8 (2 ^ i))) := by decide +kernel
theorem qf_assoc (a b c : BitVec 8) : qf_m (qf_m a b) c = qf_m a (qf_m b c) :=
  qf_ext (f := fun a => qf_m (qf_m a b) c) (g := fun a => qf_m a (qf_m b c)) (fun x y => by show qf_m (qf_m (x ^^^ y) b) c = _; rw [qf_m_l, qf_m_l]) (fun x y => qf_m_l x y _)
    (fun k hk => qf_ext (f := fun b => qf_m (qf_m (BitVec.ofNat 8 (2 ^ k)) b) c) (g := fun b => qf_m (BitVec.ofNat 8 (2 ^ k)) (qf_m b c)) (fun x y => by show qf_m (qf_m _ (x ^^^ y)) c = _; rw [qf_m_r, qf_m_l]) (fun x y => by show qf_m _ (qf_m (x ^^^ y) c) = _; rw [qf_m_l, qf_m_r])
      (fun j hj => qf_ext (f := fun c => qf_m (qf_m (BitVec.ofNat 8 (2 ^ k)) (BitVec.ofNat 8 (2 ^ j))) c) (g := fun c => qf_m (BitVec.ofNat 8 (2 ^ k)) (qf_m (BitVec.ofNat 8 (2 ^ j)) c)) (fun x y => qf_m_r _ x y) (fun x y => by show qf_m _ (qf_m _ (x ^^^ y)) = _; rw [qf_m_r, qf_m_r]) (fun i hi => qf_assoc_b k hk j hj i hi) c) b) a
theorem qf_0r (a : BitVec 8) : qf_m a 0#8 = 0#8 := qf_add0 (f := fun b => qf_m a b) (fun x y => qf_m_r a x y)
theorem qf_0l (a : BitVec 8) : qf_m 0#8 a = 0#8 := qf_add0 (f := fun b => qf_m b a) (fun x y => qf_m_l x y a)
theorem qf_1r_b : ∀ k, k < 8 → qf_m (BitVec.ofNat 8 (2 ^ k)) 1#8 = BitVec.ofNat 8 (2 ^ k) := by decide +kernel
theorem qf_1r (a : BitVec 8) : qf_m a 1#8 = a := qf_ext (f := fun a => qf_m a 1#8) (g := fun a => a) (fun x y => qf_m_l x y _) (fun _ _ => rfl) qf_1r_b a
theorem qf_1l (a : BitVec 8) : qf_m 1#8 a = a := by rw [qf_comm, qf_1r]
theorem qf_2r_b : ∀ k, k < 8 → qf_x (BitVec.ofNat 8 (2 ^ k)) = qf_m (BitVec.ofNat 8 (2 ^ k)) 2#8 := by decide +kernel
theorem qf_2r (a : BitVec 8) : qf_x a = qf_m a 2#8 := qf_ext (f := qf_x) (g := fun a => qf_m a 2#8) qf_x_l (fun x y => qf_m_l x y _) qf_2r_b a
/-- powers -/
def qf_p (a : BitVec 8) : Nat → BitVec 8
  | 0 => 1#8
  | k + 1 => qf_m (qf_p a k) a
theorem qf_p_add (a : BitVec 8) (i j : Nat) : qf_p a (i + j) = qf_m (qf_p a i) (qf_p a j) := by
  induction j with
  | zero => rw [Nat.add_zero, qf_p, qf_1r]
  | succ j ih => rw [← Nat.add_assoc, qf_p, ih, qf_p, qf_assoc]
theorem qf_p_1 (a : BitVec 8) : qf_p a 1 = a := by rw [qf_p, qf_p, qf_1l]
theorem qf_p_mul (a : BitVec 8) (i j : Nat) : qf_p a (i * j) = qf_p (qf_p a i) j := by
  induction j with
  | zero => rfl
  | succ j ih => rw [Nat.mul_succ, qf_p_add, ih, qf_p]
theorem qf_p_m (a b : BitVec 8) (j : Nat) : qf_p (qf_m a b) j = qf_m (qf_p a j) (qf_p b j) := by
  induction j with
  | zero => rw [qf_p, qf_p, qf_p, qf_1r]
  | succ j ih =>
    rw [qf_p, ih, qf_p, qf_p, qf_assoc, qf_assoc, ← qf_assoc (qf_p b j) a b, qf_comm (qf_p b j) a, qf_assoc a]
theorem qf_p_one (j : Nat) : qf_p 1#8 j = 1#8 := by
  induction j with
  | zero => rfl
  | succ j ih => rw [qf_p, ih, qf_1r]
/-- the powers of 2 -/
def qf_E (k : Nat) : BitVec 8 := qf_p 2#8 k
theorem qf_E_x (k : Nat) : qf_E (k + 1) = qf_x (qf_E k) := by rw [qf_2r]; rfl
theorem qf_E_s (k : Nat) : qf_E k = qf_s 1#8 k := by
  induction k with
  | zero => rfl
  | succ k ih => rw [qf_E_x, ih]; rfl
theorem qf_E_add (i j : Nat) : qf_E (i + j) = qf_m (qf_E i) (qf_E j) := qf_p_add 2#8 i j
theorem qf_E_p (i j : Nat) : qf_E (i * j) = qf_p (qf_E i) j := qf_p_mul 2#8 i j
def qf_lt : List Nat := [0, 0, 1, 25, 2, 50, 26, 198, 3, 223, 51, 238, 27, 104, 199, 75, 4, 100, 224, 14, 52, 141, 239, 129, 28, 193, 105, 248, 200, 8, 76, 113, 5, 138, 101, 47, 225, 36, 15, 33, 53, 147, 142, 218, 240, 18, 130, 69, 29, 181, 194, 125, 106, 39, 249, 185, 201, 154, 9, 120, 77, 228, 114, 166, 6, 191, 139, 98, 102, 221, 48, 253, 226, 152, 37, 179, 16, 145, 34, 136, 54, 208, 148, 206, 143, 150, 219, 189, 241, 210, 19, 92, 131, 56, 70, 64, 30, 66, 182, 163, 195, 72, 126, 110, 107, 58, 40, 84, 250, 133, 186, 61, 202, 94, 155, 159, 10, 21, 121, 43, 78, 212, 229, 172, 115, 243, 167, 87, 7, 112, 192, 247, 140, 128, 99, 13, 103, 74, 222, 237, 49, 197, 254, 24, 227, 165, 153, 119, 38, 184, 180, 124, 17, 68, 146, 217, 35, 32, 137, 46, 55, 63, 209, 91, 149, 188, 207, 205, 144, 135, 151, 178, 220, 252, 190, 97, 242, 86, 211, 171, 20, 42, 93, 158, 132, 60, 57, 83, 71, 109, 65, 162, 31, 45, 67, 216, 183, 123, 164, 118, 196, 23, 73, 236, 127, 12, 111, 246, 108, 161, 59, 82, 41, 157, 85, 170, 251, 96, 134, 177, 187, 204, 62, 90, 203, 89, 95, 176, 156, 169, 160, 81, 11, 245, 22, 235, 122, 117, 44, 215, 79, 174, 213, 233, 230, 231, 173, 232, 116, 214, 244, 234, 168, 80, 88, 175]
theorem qf_log_b : ∀ n, n < 256 → n ≠ 0 → qf_s 1#8 (qf_lt.getD n 0) = BitVec.ofNat 8 n := by decide +kernel
theorem qf_log {a : BitVec 8} (h : a ≠ 0#8) : ∃ i, a = qf_E i := by
  refine ⟨qf_lt.getD a.toNat 0, ?_⟩
  rw [qf_E_s, qf_log_b a.toNat a.isLt (fun e => h (by apply BitVec.eq_of_toNat_eq; rw [e]; rfl)), BitVec.ofNat_toNat, BitVec.setWidth_eq]
theorem qf_E255 : qf_E 255 = 1#8 := by rw [qf_E_s]; decide +kernel
theorem qf_p255 {a : BitVec 8} (h : a ≠ 0#8) : qf_p a 255 = 1#8 := by
  obtain ⟨i, rfl⟩ := qf_log h
  rw [← qf_E_p, Nat.mul_comm, qf_E_p, qf_E255, qf_p_one]
/-- the inverse: to the 254 -/
def qf_i (a : BitVec 8) : BitVec 8 := qf_p a 254
theorem qf_i_r {a : BitVec 8} (h : a ≠ 0#8) : qf_m (qf_i a) a = 1#8 := qf_p255 h
theorem qf_i_l {a : BitVec 8} (h : a ≠ 0#8) : qf_m a (qf_i a) = 1#8 := by rw [qf_comm, qf_i_r h]
theorem qf_nz {a b : BitVec 8} (h : qf_m a b = 0#8) (ha : a ≠ 0#8) : b = 0#8 := by
  have h1 : qf_m (qf_i a) (qf_m a b) = b := by rw [← qf_assoc, qf_i_r ha, qf_1l]
  rw [h, qf_0r] at h1
  exact h1.symm
theorem qf_mz {a b : BitVec 8} (ha : a ≠ 0#8) (hb : b ≠ 0#8) : qf_m a b ≠ 0#8 := fun h => hb (qf_nz h ha)
theorem qf_E_nz (k : Nat) : qf_E k ≠ 0#8 := by
  induction k with
  | zero => decide
  | succ k ih => exact qf_mz ih (by decide)
theorem qf_E_inj_b : ∀ i, i < 16 → ∀ j, j < 16 → qf_s 1#8 i = qf_s 1#8 j → i = j := by decide +kernel
theorem qf_E_inj {i j : Nat} (hi : i < 16) (hj : j < 16) (h : qf_E i = qf_E j) : i = j := by
  rw [qf_E_s, qf_E_s] at h
  exact qf_E_inj_b i hi j hj h
/-- the squarings of the system's inverse -/
def qf_ip (a : BitVec 8) : Nat → BitVec 8
  | 0 => a
  | k + 1 => qf_m (qf_ip a k) (qf_ip a k)
def qf_ir (a : BitVec 8) : Nat → BitVec 8
  | 0 => 1#8
  | k + 1 => qf_m (qf_ir a k) (qf_ip a (k + 1))
theorem qf_ip_p (a : BitVec 8) (k : Nat) : qf_ip a k = qf_p a (2 ^ k) := by
  induction k with
  | zero => exact (qf_p_1 a).symm
  | succ k ih => rw [qf_ip, ih, ← qf_p_add, Nat.pow_succ, Nat.mul_two]
theorem qf_ir_p (a : BitVec 8) (k : Nat) : qf_ir a k = qf_p a (2 ^ (k + 1) - 2) := by
  induction k with
  | zero => rfl
  | succ k ih =>
    have h1 : 2 ≤ 2 ^ (k + 1) := by
      have : 2 ^ (k + 1) = 2 ^ k * 2 := Nat.pow_succ ..
      have : 0 < 2 ^ k := Nat.pow_pos (by decide)
      omega
    rw [qf_ir, ih, qf_ip_p, ← qf_p_add]
    congr 1
    have : 2 ^ (k + 1 + 1) = 2 ^ (k + 1) * 2 := Nat.pow_succ ..
    omega
theorem qf_ir_7 (a : BitVec 8) : qf_ir a 7 = qf_i a := qf_ir_p a 7
