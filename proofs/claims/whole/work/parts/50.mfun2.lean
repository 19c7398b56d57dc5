/-! what the reference's feed lays -/
def qs_wf (b : Nat) (A : Nat → BitVec 8) (t : Nat) (y : Nat → BitVec 8) : Nat → (Nat → BitVec 8)
  | 0 => A
  | i + 1 => va_up (qs_wf b A t y i) (b * t + i) (y i)
theorem qs_wf_congr {b : Nat} {A : Nat → BitVec 8} {t : Nat} {y v : Nat → BitVec 8} {m : Nat} (h : ∀ i, i < m → y i = v i) : qs_wf b A t y m = qs_wf b A t v m := by
  induction m with
  | zero => rfl
  | succ m ih => rw [qs_wf, qs_wf, ih (fun i hi => h i (by omega)), h m (by omega)]
def qs_ms (I : Nat → BitVec 8) (t : Nat) : Nat → BitVec 8 := fun j => if t < j then 0#8 else I (12 * (t - j) + j)
def qs_mo (I : Nat → BitVec 8) (t : Nat) : Nat → BitVec 8 := qs_enc 16 (qs_ms I t)
def qs_dv (O : Nat → BitVec 8) (t i : Nat) : BitVec 8 := if t < i % 2 then 0#8 else O (16 * (t - i % 2) + i)
def qs_wd (D : Nat → BitVec 8) (t : Nat) (O : Nat → BitVec 8) : Nat → (Nat → BitVec 8)
  | 0 => D
  | i + 1 => va_up (qs_wd D t O i) (16 * t + i) (qs_t i (qs_dv O t i))
