/-! further rows: numbers against 0; what the writer and the reader lay -/
section QR2
variable {p : Program} {l : Launch} {e : Env} {R : Room} {s : State} {m : MethodId} {args : Array Value} {below : List Frame} {meth : Method} {c : Code} {H : Heap} {locs : List Loc} {cells slots : Nat} {Q : State → Prop}
variable {cc : ByteArray} {pc : Nat} {ls : Array Slot} {rest : List Value}
theorem qr_ifeqN {x : Nat} {off : Int} {tgt : Nat} (hexec : p.tables.exec = Jvm.exec) (hb : c.code = cc) (hdg : decode cc pc = .ok (.ifCond .eq off, 3)) (ht : (pc : Int) + off = (tgt : Int)) (hx : x < 2 ^ 31)
    (kt : x = 0 → W p l e R s m args below meth c H locs cells slots Q (F0 m tgt ls rest)) (kf : x ≠ 0 → W p l e R s m args below meth c H locs cells slots Q (F0 m (pc + 3) ls rest)) : W p l e R s m args below meth c H locs cells slots Q (F0 m pc ls (.int (nI x) :: rest)) :=
  lv_if_eq hexec hb hdg ht (fun h => kt ((nI_eq hx (by omega)).mp h)) (fun h => kf (fun h2 => h ((nI_eq (b := 0) hx (by omega)).mpr h2)))
theorem qr_ifneN {x : Nat} {off : Int} {tgt : Nat} (hexec : p.tables.exec = Jvm.exec) (hb : c.code = cc) (hdg : decode cc pc = .ok (.ifCond .ne off, 3)) (ht : (pc : Int) + off = (tgt : Int)) (hx : x < 2 ^ 31)
    (kt : x ≠ 0 → W p l e R s m args below meth c H locs cells slots Q (F0 m tgt ls rest)) (kf : x = 0 → W p l e R s m args below meth c H locs cells slots Q (F0 m (pc + 3) ls rest)) : W p l e R s m args below meth c H locs cells slots Q (F0 m pc ls (.int (nI x) :: rest)) :=
  lv_if_ne hexec hb hdg ht (fun h => kt (fun h2 => h ((nI_eq (b := 0) hx (by omega)).mpr h2))) (fun h => kf ((nI_eq hx (by omega)).mp h))
end QR2
/-- a symbol of place i as it lies on the disc -/
def qs_t (i : Nat) (a : BitVec 8) : BitVec 8 := if i < 8 then a else 255#8 ^^^ a
theorem qs_has {x y tw : Nat} (hx : x < tw) (ht : tw ≤ 48) (hy : y < 16) : ¬ nI x < 0 ∧ ¬ nI tw ≤ nI x ∧ ¬ nI y < 0 ∧ ¬ nI 16 ≤ nI y :=
  ⟨nI_pos (by omega), fun h => absurd ((nI_leI (by omega) (by omega)).mp h) (by omega), nI_pos (by omega), fun h => absurd ((nI_leI (by omega) (by omega)).mp h) (by omega)⟩
theorem qm_cs_out {ch x : Nat → BitVec 8} {c m : Nat} (h : m ≤ c) : qm_cs ch x m c = ch c := by
  induction m with
  | zero => rfl
  | succ m ih => rw [qm_cs, va_up_ne _ _ (by omega), ih (by omega)]
theorem qs_up0 (M : Nat → Nat → BitVec 8) (x : Nat) (w : Nat → BitVec 8) : ∀ i, i < 48 → ∀ j, j < 12 → M i j = va_up M x (qm_cs (M x) w 0) i j := by
  intro i _ j _
  by_cases h : i = x
  · rw [h, va_up_self]; rfl
  · rw [va_up_ne _ _ h]
theorem qs_upr (M : Nat → Nat → BitVec 8) (x : Nat) {w v : Nat → BitVec 8} (h : ∀ j, j < 12 → w j = v j) : ∀ i, i < 48 → ∀ j, j < 12 → va_up M x w i j = va_up M x v i j := by
  intro i _ j hj
  by_cases e : i = x
  · rw [e, va_up_self, va_up_self, h j hj]
  · rw [va_up_ne _ _ e, va_up_ne _ _ e]
/-- the inner word of a long; the first symbols of the outer word of frame t; that word; a row of the disc -/
def qs_iw (v : Int64) : Nat → BitVec 8 := qs_enc 12 (qm_by v)
def qs_os (I : Nat → Nat → BitVec 8) (t : Nat) : Nat → BitVec 8 := fun j => if j ≤ t then I (t - j) j else 0#8
def qs_ow (I : Nat → Nat → BitVec 8) (t : Nat) : Nat → BitVec 8 := qs_enc 16 (qs_os I t)
def qs_wr (dd : Nat → BitVec 8) (x : Nat) (y ob : Nat → BitVec 8) : Nat → (Nat → BitVec 8)
  | 0 => dd
  | i + 1 => va_up (qs_wr dd x y ob i) (x * 16 + i) (qs_t i (if i % 2 = 0 then y i else ob i))
/-- the row before last put right is gathered; then the inner word's symbols and doubts -/
def qs_go (dd : Nat → BitVec 8) (x : Nat) : Nat → BitVec 8 := fun i => if i % 2 = 0 then (if x = 0 then 0#8 else qs_t i (dd ((x - 1) * 16 + i))) else qs_t i (dd (x * 16 + i))
def qs_gi (O : Nat → Nat → BitVec 8) (x : Nat) : Nat → BitVec 8 := fun j => if 11 ≤ x + j then O (x + j - 11) j else 0#8
def qs_gz (od : Nat → Bool) (x : Nat) : Nat → Bool := fun j => if 11 ≤ x + j then od (x + j - 11) else false
def qs_cz (ch x : Nat → Bool) : Nat → (Nat → Bool)
  | 0 => ch
  | c + 1 => va_up (qs_cz ch x c) c (x c)
theorem qs_cz_at {ch x : Nat → Bool} {c m : Nat} (h : c < m) : qs_cz ch x m c = x c := by
  induction m with
  | zero => omega
  | succ m ih =>
    rw [qs_cz]
    by_cases e : c = m
    · rw [e, va_up_self]
    · rw [va_up_ne _ _ e, ih (by omega)]
abbrev qW2 (F P1 P2 : va_W) : va_W := F ++ (P1 ++ P2)
