/-! a world of two halves -/
theorem qj_lift {X Y : va_W} {k : Nat} {q : Nat × va_E} (hk : X[k]? = some q) : (X ++ Y)[k]? = some q := by
  rw [List.getElem?_append_left (List.getElem?_eq_some_iff.mp hk).1]
  exact hk
theorem qj_liftR {X Y : va_W} {k : Nat} {q : Nat × va_E} (hk : Y[k]? = some q) : (X ++ Y)[X.length + k]? = some q := by
  rw [List.getElem?_append_right (by omega), Nat.add_sub_cancel_left]
  exact hk
theorem qj_spl {X Y : va_W} {k : Nat} {q : Nat × va_E} (h : (X ++ Y)[k]? = some q) : X[k]? = some q ∨ (X.length ≤ k ∧ Y[k - X.length]? = some q) := by
  by_cases hl : k < X.length
  · rw [List.getElem?_append_left hl] at h
    exact Or.inl h
  · rw [List.getElem?_append_right (by omega)] at h
    exact Or.inr ⟨by omega, h⟩
theorem qj_adr {X X1 : va_W} (ha : X1.map (fun q => q.1) = X.map (fun q => q.1)) {k : Nat} {q1 : Nat × va_E} (h : X1[k]? = some q1) : ∃ q, X[k]? = some q ∧ q.1 = q1.1 := by
  have h3 : (X1.map (fun q => q.1))[k]? = some q1.1 := by rw [List.getElem?_map, h]; rfl
  rw [ha, List.getElem?_map] at h3
  cases hx : X[k]? with
  | none => rw [hx] at h3; cases h3
  | some q => rw [hx] at h3; exact ⟨q, rfl, Option.some.inj h3⟩
theorem qj_len {X X1 : va_W} (ha : X1.map (fun q => q.1) = X.map (fun q => q.1)) : X1.length = X.length := by
  have h := congrArg List.length ha
  rwa [List.length_map, List.length_map] at h
section QJ3
variable {A0 : Nat → Prop} {D : va_G} {cl : List vw_C} {X Y X1 Y1 : va_W} {H H1 : Heap}
theorem qj_PL (h : va_P D cl (X ++ Y) H) : va_P D cl X H := fun k q hk => h k q (qj_lift hk)
theorem qj_PR (h : va_P D cl (X ++ Y) H) : va_P D cl Y H := fun k q hk => h (X.length + k) q (qj_liftR hk)
theorem qj_DL (h : va_D A0 (X ++ Y)) : va_D A0 X := ⟨fun i j x y hi hj e => h.1 i j x y (qj_lift hi) (qj_lift hj) e, fun k q hk => h.2 k q (qj_lift hk)⟩
theorem qj_DR (h : va_D A0 (X ++ Y)) : va_D A0 Y := ⟨fun i j x y hi hj e => by
    have h1 := h.1 (X.length + i) (X.length + j) x y (qj_liftR hi) (qj_liftR hj) e
    omega, fun k q hk => h.2 (X.length + k) q (qj_liftR hk)⟩
theorem qj_DD (ha : X1.map (fun q => q.1) = X.map (fun q => q.1)) (hD : va_D A0 X) : va_D A0 X1 := ⟨fun i j x y hi hj e => by
    obtain ⟨x0, a1, a2⟩ := qj_adr ha hi
    obtain ⟨y0, b1, b2⟩ := qj_adr ha hj
    exact hD.1 i j x0 y0 a1 b1 (by rw [a2, b2]; exact e), fun k q hk => by
    obtain ⟨x0, a1, a2⟩ := qj_adr ha hk
    rw [← a2]
    exact hD.2 k x0 a1⟩
/-- behind a call over the left half -/
theorem qj_apL (hP : va_P D cl (X ++ Y) H) (hD : va_D A0 (X ++ Y)) (ha : X1.map (fun q => q.1) = X.map (fun q => q.1)) (hk : ∀ q : Nat, q < H.size → ¬ va_A X H.size q → H1[q]? = H[q]?) (hP1 : va_P D cl X1 H1) : va_P D cl (X1 ++ Y) H1 ∧ va_D A0 (X1 ++ Y) := by
  have hl := qj_len ha
  refine ⟨fun k q h => ?_, qj_DD (X := X ++ Y) (by rw [List.map_append, List.map_append, ha]) hD⟩
  rcases qj_spl h with h1 | ⟨h1, h2⟩
  · exact hP1 k q h1
  · rw [hl] at h1 h2
    have h3 : (X ++ Y)[k]? = some q := by rw [List.getElem?_append_right h1]; exact h2
    refine (hP k q h3).kept (hk q.1 (hP k q h3).lt (fun h4 => ?_))
    rcases h4 with ⟨j, e, h4⟩ | h4
    · have h5 := hD.1 j k _ _ (qj_lift h4) h3 rfl
      have h6 := (List.getElem?_eq_some_iff.mp h4).1
      omega
    · have h7 := (hP k q h3).lt
      omega
/-- behind a call over the right half -/
theorem qj_apR (hP : va_P D cl (X ++ Y) H) (hD : va_D A0 (X ++ Y)) (ha : Y1.map (fun q => q.1) = Y.map (fun q => q.1)) (hk : ∀ q : Nat, q < H.size → ¬ va_A Y H.size q → H1[q]? = H[q]?) (hP1 : va_P D cl Y1 H1) : va_P D cl (X ++ Y1) H1 ∧ va_D A0 (X ++ Y1) := by
  refine ⟨fun k q h => ?_, qj_DD (X := X ++ Y) (by rw [List.map_append, List.map_append, ha]) hD⟩
  rcases qj_spl h with h1 | ⟨h1, h2⟩
  · have h3 : (X ++ Y)[k]? = some q := qj_lift h1
    refine (hP k q h3).kept (hk q.1 (hP k q h3).lt (fun h4 => ?_))
    rcases h4 with ⟨j, e, h4⟩ | h4
    · have h5 := hD.1 (X.length + j) k _ _ (qj_liftR h4) h3 rfl
      have h6 := (List.getElem?_eq_some_iff.mp h1).1
      omega
    · have h7 := (hP k q h3).lt
      omega
  · exact hP1 _ q h2
theorem qj_kept (hP : va_P D cl X H) (hk : ∀ q : Nat, q < H.size → H1[q]? = H[q]?) : va_P D cl X H1 := fun k q h => (hP k q h).kept (hk q.1 (hP k q h).lt)
end QJ3
