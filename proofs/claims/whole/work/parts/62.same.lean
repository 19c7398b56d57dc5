/-- two array classes of one type are one -/
theorem qa_same {D : va_G} {cl : List vw_C} {tys : List (ClassId × FieldType)} {U : State} (hK : va_K D cl tys U) (i j : Nat) {a b : ClassId} {ty : FieldType} (h1 : tys[i]? = some (a, ty)) (h2 : tys[j]? = some (b, ty)) (hty : ∀ C, ty ≠ .object C) : b = a := by
  have k1 := (hK.2 i _ h1).2
  have k2 := (hK.2 j _ h2).2
  cases ty with
  | object C => exact absurd rfl (hty C)
  | _ => exact Option.some.inj (k2.symm.trans k1)
theorem qa_zS (n : Nat) (cA : ClassId) : vp_cell cA (n, .inl (qS (fun _ => 0#8))) = arrV cA n (fun _ => defaultValue .int) := by
  rw [vp_cell_i]
  exact congrArg (arrV cA n) (funext fun j => rfl)
theorem qa_zN (n : Nat) (cA : ClassId) : vp_cell cA (n, .inl (qN (fun _ => 0))) = arrV cA n (fun _ => defaultValue .int) := by
  rw [vp_cell_i]
  exact congrArg (arrV cA n) (funext fun j => rfl)
theorem qa_zZ (n : Nat) (cA : ClassId) : vp_cell cA (n, .inl (qZ (fun _ => false))) = arrV cA n (fun _ => defaultValue .boolean) := by
  rw [vp_cell_i]
  exact congrArg (arrV cA n) (funext fun j => rfl)
