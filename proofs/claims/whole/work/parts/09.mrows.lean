/-! the reference's rows: a 4 by 5 table laid flat -/
def qg_f (M : Nat → Nat → BitVec 8) : Nat → BitVec 8 := fun j => M (j / 5) (j % 5)
theorem qg_f_at (M : Nat → Nat → BitVec 8) {r c : Nat} (hc : c < 5) : qg_f M (5 * r + c) = M r c := by
  unfold qg_f
  rw [show (5 * r + c) / 5 = r by omega, show (5 * r + c) % 5 = c by omega]
theorem qg_f_up (M : Nat → Nat → BitVec 8) {r c : Nat} (hc : c < 5) (x : BitVec 8) : va_up (qg_f M) (5 * r + c) x = qg_f (qg_up M r c x) := by
  funext j
  unfold va_up qg_f qg_up
  by_cases h : j = 5 * r + c
  · rw [if_pos h, if_pos ⟨by omega, by omega⟩]
  · rw [if_neg h, if_neg (by omega)]
section QG2
variable {p : Program} {l : Launch} {e : Env} {R : Room} {s : State} {m : MethodId} {args : Array Value} {below : List Frame} {meth : Method} {c : Code} {H : Heap} {locs : List Loc} {cells slots : Nat} {Q : State → Prop}
variable {cc : ByteArray} {pc : Nat} {ls : Array Slot} {rest : List Value} {D : va_G} {cl : List vw_C} {tys : List (ClassId × FieldType)} {ws : va_W} {A : Nat → Prop} {H0 : Heap} {a : Nat}
theorem qr_ildG (hexec : p.tables.exec = Jvm.exec) (hb : c.code = cc) (hK : va_K D cl tys s) (hP : va_P D cl ws H) (q0 t0 : Nat) {cA : ClassId} {M : Nat → Nat → BitVec 8} (ha : ws[q0]? = some (a, .inl (cA, 20, .inl (qS (qg_f M))))) (ht : tys[t0]? = some (cA, .int)) {i j : Nat} (hi : i < 4) (hj : j < 5) (hdg : decode cc pc = .ok (.iaload, 1))
    (kk : W p l e R s m args below meth c H locs cells slots Q (F0 m (pc + 1) ls (.int (sI (M i j)) :: rest))) : W p l e R s m args below meth c H locs cells slots Q (F0 m pc ls (.int (nI (5 * i + j)) :: .ref a :: rest)) := by
  refine qr_ildS hexec hb hK hP q0 t0 ha ht (by omega) (by omega) hdg ?_
  rw [qg_f_at M hj]
  exact kk
theorem qr_istG (hexec : p.tables.exec = Jvm.exec) (hb : c.code = cc) (hK : va_K D cl tys s) (hP : va_P D cl ws H) (hD : va_D A ws) (hS : va_S A H0 H locs) (q0 t0 : Nat) {cA : ClassId} {M : Nat → Nat → BitVec 8} (ha : ws[q0]? = some (a, .inl (cA, 20, .inl (qS (qg_f M))))) (ht : tys[t0]? = some (cA, .int)) {i j : Nat} {x : BitVec 8} (hi : i < 4) (hj : j < 5) (hdg : decode cc pc = .ok (.iastore, 1))
    (kk : ∀ (H1 : Heap) (locs1 : List Loc), va_P D cl (ws.set q0 (a, .inl (cA, 20, .inl (qS (qg_f (qg_up M i j x)))))) H1 → va_D A (ws.set q0 (a, .inl (cA, 20, .inl (qS (qg_f (qg_up M i j x)))))) → va_S A H0 H1 locs1 → W p l e R s m args below meth c H1 locs1 cells slots Q (F0 m (pc + 1) ls rest)) : W p l e R s m args below meth c H locs cells slots Q (F0 m pc ls (.int (sI x) :: .int (nI (5 * i + j)) :: .ref a :: rest)) := by
  refine qr_istS hexec hb hK hP hD hS q0 t0 ha ht (by omega) (by omega) hdg (fun H1 locs1 h1 h2 h3 => ?_)
  rw [qg_f_up M hj] at h1 h2
  exact kk H1 locs1 h1 h2 h3
end QG2
theorem qr_cell (cA : ClassId) {n : Nat} {f g : Nat → Int32} (h : ∀ j, j < n → f j = g j) : vp_cell cA (n, .inl f) = vp_cell cA (n, .inl g) := by
  rw [vp_cell_i, vp_cell_i]
  unfold arrV
  congr 1
  apply congrArg
  funext j
  exact congrArg Value.int (h j.val j.isLt)
theorem qr_same {D : va_G} {cl : List vw_C} {A : Nat → Prop} {ws : va_W} {H : Heap} (hP : va_P D cl ws H) (hD : va_D A ws) (q0 : Nat) {a : Nat} {cA : ClassId} {n : Nat} {f g : Nat → Int32} (ha : ws[q0]? = some (a, .inl (cA, n, .inl f))) (h : ∀ j, j < n → f j = g j) : va_P D cl (ws.set q0 (a, .inl (cA, n, .inl g))) H ∧ va_D A (ws.set q0 (a, .inl (cA, n, .inl g))) := by
  refine ⟨hP.set hD ha ?_ (fun _ _ => rfl), hD.set ha⟩
  show H[a]? = some (vp_cell cA (n, .inl g))
  rw [← qr_cell cA h]
  exact hP q0 _ ha
theorem qr_one : ∀ k, k < 4 → nI 1 <<< (nI k &&& 31) = nI (qf_E k).toNat := by decide +kernel
theorem qr_shE {k : Nat} (h : k < 4) : nI 1 <<< (nI k &&& 31) = sI (qf_E k) := qr_one k h
theorem zI_eq1 {b : Bool} : zI b = nI 1 ↔ b = true := by cases b <;> decide
section QG3
variable {p : Program} {l : Launch} {e : Env} {R : Room} {s : State} {m : MethodId} {args : Array Value} {below : List Frame} {meth : Method} {c : Code} {H : Heap} {locs : List Loc} {cells slots : Nat} {Q : State → Prop}
variable {cc : ByteArray} {pc : Nat} {ls : Array Slot} {rest : List Value}
theorem qr_ne1Z {x : Bool} {off : Int} {tgt : Nat} (hexec : p.tables.exec = Jvm.exec) (hb : c.code = cc) (hdg : decode cc pc = .ok (.if_icmp .ne off, 3)) (ht : (pc : Int) + off = (tgt : Int))
    (kt : x = false → W p l e R s m args below meth c H locs cells slots Q (F0 m tgt ls rest)) (kf : x = true → W p l e R s m args below meth c H locs cells slots Q (F0 m (pc + 3) ls rest)) : W p l e R s m args below meth c H locs cells slots Q (F0 m pc ls (.int (nI 1) :: .int (zI x) :: rest)) :=
  lv_icmp_ne hexec hb hdg ht (fun h => kt (by cases x with | false => rfl | true => exact absurd (zI_eq1.mpr rfl) h)) (fun h => kf (zI_eq1.mp h))
end QG3
theorem qm_W4 {n : Nat} {w : Nat → BitVec 8} (h0 : qw_S n w 0 = 0#8) (h1 : qw_S n w 1 = 0#8) (h2 : qw_S n w 2 = 0#8) (h3 : qw_S n w 3 = 0#8) : qw_W n w := by
  intro k hk
  rcases (show k = 0 ∨ k = 1 ∨ k = 2 ∨ k = 3 by omega) with rfl | rfl | rfl | rfl
  · exact h0
  · exact h1
  · exact h2
  · exact h3
/-! the reference's first rows, laid place by place -/
def qm_rc (N : Nat → Nat → BitVec 8) (k : Nat) (F : Nat → BitVec 8) : Nat → (Nat → Nat → BitVec 8)
  | 0 => N
  | c + 1 => qg_up (qm_rc N k F c) k c (F c)
theorem qm_rc_at (N : Nat → Nat → BitVec 8) (k : Nat) (F : Nat → BitVec 8) (m a b : Nat) : qm_rc N k F m a b = if a = k ∧ b < m then F b else N a b := by
  induction m with
  | zero => rw [if_neg (by omega)]; rfl
  | succ m ih =>
    rw [qm_rc]
    by_cases h : a = k ∧ b = m
    · obtain ⟨rfl, rfl⟩ := h
      rw [qg_up_s, if_pos (by omega)]
    · rw [qg_up_n _ _ (by omega), ih]
      by_cases h2 : a = k ∧ b < m
      · rw [if_pos h2, if_pos (by omega)]
      · rw [if_neg h2, if_neg (by omega)]
def qm_ro (M : Nat → Nat → BitVec 8) (F : Nat → Nat → BitVec 8) (R : Nat → BitVec 8) : Nat → (Nat → Nat → BitVec 8)
  | 0 => M
  | k + 1 => qg_up (qm_rc (qm_ro M F R k) k (F k) 4) k 4 (R k)
theorem qm_ro_at (M : Nat → Nat → BitVec 8) (F : Nat → Nat → BitVec 8) (R : Nat → BitVec 8) (m a b : Nat) (hb : b < 5) : qm_ro M F R m a b = if a < m then (if b < 4 then F a b else R a) else M a b := by
  induction m with
  | zero => rw [if_neg (by omega)]; rfl
  | succ m ih =>
    rw [qm_ro]
    by_cases h : a = m
    · subst h
      rw [if_pos (by omega)]
      by_cases h4 : b < 4
      · rw [qg_up_n _ _ (by omega), qm_rc_at, if_pos ⟨rfl, h4⟩, if_pos h4]
      · have : b = 4 := by omega
        subst this
        rw [qg_up_s, if_neg (by omega)]
    · rw [qg_up_n _ _ (Or.inl h), qm_rc_at, if_neg (by omega), ih]
      by_cases h2 : a < m
      · rw [if_pos h2, if_pos (show a < m + 1 by omega)]
      · rw [if_neg h2, if_neg (show ¬ a < m + 1 by omega)]
def qm_F0 (n m : Nat) (d : Nat → Nat) : Nat → Nat → BitVec 8 := fun k c => if c < m then qf_E (k * (n - 1 - d c)) else 0#8
theorem qm_ro_M0 (M : Nat → Nat → BitVec 8) (n m : Nat) (d : Nat → Nat) (R : Nat → BitVec 8) : ∀ j, j < 20 → qS (qg_f (qm_ro M (qm_F0 n m d) R 4)) j = qS (qg_f (qg_M0 (fun c => qw_X n (d c)) R m)) j := by
  intro j hj
  unfold qS qg_f
  rw [qm_ro_at _ _ _ _ _ _ (by omega), if_pos (by omega)]
  unfold qg_M0 qm_F0
  by_cases h : j % 5 < 4
  · rw [if_pos h, if_pos h]
    by_cases h2 : j % 5 < m
    · rw [if_pos h2, if_pos h2, Nat.mul_comm, qf_E_p]
      rfl
    · rw [if_neg h2, if_neg h2]
  · rw [if_neg h, if_neg h]
