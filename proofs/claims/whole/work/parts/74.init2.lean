set_option maxHeartbeats 4000000 in
set_option maxRecDepth 100000 in
/-- Word(12) -/
theorem qc_word12 (l : Launch) (dC : Nat → ClassId) (dI : Nat → Nat → Nat) (h0 : Nat) (sz : Nat)  : Met l yX3_init wsX3_init ({ frames := 1, cells := 7, slots := 52, locals := 40 } : Room) (va_Pc [.ref h0, .int (nI 12)] (fun U => U.heap.size = sz ∧ va_P (dC, dI) vwCl [(h0, .inr (2, [.int (nI 0), .null, .null, .null, .null, .null, .null, .null]))] U.heap ∧ va_K (dC, dI) vwCl [] U ∧ va_D (fun _ => True) [(h0, .inr (2, [.int (nI 0), .null, .null, .null, .null, .null, .null, .null]))])) (va_Qv (fun (u : ClassId × ClassId × Nat × Nat × Nat × Nat × Nat × Nat × Nat) => True) (fun u t => va_P (dC, dI) vwCl [(h0, .inr (2, [.int (nI 12), .ref u.2.2.1, .ref u.2.2.2.1, .ref u.2.2.2.2.1, .ref u.2.2.2.2.2.1, .ref u.2.2.2.2.2.2.1, .ref u.2.2.2.2.2.2.2.1, .ref u.2.2.2.2.2.2.2.2])), (u.2.2.1, .inl (u.1, 12, .inl (qS (fun _ => 0#8)))), (u.2.2.2.1, .inl (u.2.1, 12, .inl (qZ (fun _ => false)))), (u.2.2.2.2.1, .inl (u.1, 12, .inl (qS (qm_lo 12 0)))), (u.2.2.2.2.2.1, .inl (u.1, 4, .inl (qS (fun _ => 0#8)))), (u.2.2.2.2.2.2.1, .inl (u.1, 4, .inl (qN (fun _ => 0)))), (u.2.2.2.2.2.2.2.1, .inl (u.1, 4, .inl (qS (fun _ => 0#8)))), (u.2.2.2.2.2.2.2.2, .inl (u.1, 4, .inl (qS (fun _ => 0#8))))] t.heap ∧ va_K (dC, dI) vwCl [(u.1, .int), (u.2.1, .boolean)] t ∧ va_D (va_A [(h0, .inr (2, [.int (nI 0), .null, .null, .null, .null, .null, .null, .null]))] sz) [(h0, .inr (2, [.int (nI 12), .ref u.2.2.1, .ref u.2.2.2.1, .ref u.2.2.2.2.1, .ref u.2.2.2.2.2.1, .ref u.2.2.2.2.2.2.1, .ref u.2.2.2.2.2.2.2.1, .ref u.2.2.2.2.2.2.2.2])), (u.2.2.1, .inl (u.1, 12, .inl (qS (fun _ => 0#8)))), (u.2.2.2.1, .inl (u.2.1, 12, .inl (qZ (fun _ => false)))), (u.2.2.2.2.1, .inl (u.1, 12, .inl (qS (qm_lo 12 0)))), (u.2.2.2.2.2.1, .inl (u.1, 4, .inl (qS (fun _ => 0#8)))), (u.2.2.2.2.2.2.1, .inl (u.1, 4, .inl (qN (fun _ => 0)))), (u.2.2.2.2.2.2.2.1, .inl (u.1, 4, .inl (qS (fun _ => 0#8)))), (u.2.2.2.2.2.2.2.2, .inl (u.1, 4, .inl (qS (fun _ => 0#8))))]) (va_A [(h0, .inr (2, [.int (nI 0), .null, .null, .null, .null, .null, .null, .null]))] sz)) 7 52 (va_A [(h0, .inr (2, [.int (nI 0), .null, .null, .null, .null, .null, .null, .null]))] sz) := by
  refine Met.ofW (cc := cX3_init) (maxL := 4) (ret := none) (by decide) rfl ?_
  intro p e s m args below meth c s₁ B hml hv
  obtain ⟨rfl, hsz, hP, hK, hD0⟩ := hv
  have hx := B.exec
  have hb := B.bytes
  have hr := B.returns
  have hts := atoms_spec (ws := wsX3_init) B.pre
  have hown : s.vm.findClass RX3 = some m.cls := findClass_of_methodNamed B.named
  have hlocks := B.notSynchronized
  have hin : meth.name = "<init>" := (name_of_methodNamed B.named B.method).1
  subst hsz
  have hD := hD0.self (sz := s.heap.size)
  generalize hAe : va_A [(h0, .inr (2, [.int (nI 0), .null, .null, .null, .null, .null, .null, .null]))] s.heap.size = A at hD ⊢
  have hA : ∀ q : Nat, s.heap.size ≤ q → A q := fun q h => by rw [← hAe]; exact Or.inr h
  have hS : va_S A s.heap s.heap [] := va_S.rf
  have hP : va_P (dC, dI) vwCl [(h0, .inr (2, [.int (nI 0), .null, .null, .null, .null, .null, .null, .null]))] s.heap := hP
  have hl := lv_entry ([.ref h0, .int (nI 12)]) (n := 4) (Nat.le_of_ble_eq_true rfl)
  rw [lg_entry_eq]
  generalize (lg_sl ([.ref h0, .int (nI 12)]) ++ List.replicate (4 - (lg_sl ([.ref h0, .int (nI 12)])).length) Slot.unset).toArray = ls at hl ⊢
  have hl : lv_has ls 4 [(0, .ref h0), (1, .int (nI 12))] := hl
  have k_9 := hts (.fieldLink RX3 9 "DiscCoder$Word" "size" "I") (by decide +kernel)
  have k_15 := hts (.fieldLink RX3 15 "DiscCoder$Word" "symbols" "[I") (by decide +kernel)
  have k_19 := hts (.fieldLink RX3 19 "DiscCoder$Word" "doubted" "[Z") (by decide +kernel)
  have k_23 := hts (.fieldLink RX3 23 "DiscCoder$Word" "locators" "[I") (by decide +kernel)
  have k_26 := hts (.fieldLink RX3 26 "DiscCoder$Word" "sums" "[I") (by decide +kernel)
  have k_29 := hts (.fieldLink RX3 29 "DiscCoder$Word" "doubtedAt" "[I") (by decide +kernel)
  have k_32 := hts (.fieldLink RX3 32 "DiscCoder$Word" "changes" "[I") (by decide +kernel)
  have k_35 := hts (.fieldLink RX3 35 "DiscCoder$Word" "weights" "[I") (by decide +kernel)
  have i_X3 : ∀ w ∈ u_ws RX3 TX3 8, w ∈ wsX3_init := by decide +kernel
  refine qr_nm (fun Q hQ => ?_)
  refine lv_aload_n hx hb dX3_init_0 rfl (lv_at hl 0 rfl) ?_
  refine W.objInit hx hb hown (hts (.methodLink RX3 3 objectInit) (by decide +kernel)) (hts (.instanceMethod objectInit) (by decide +kernel)) (hts (.code objectInit ⟨#[0xb1]⟩ 1 none) (by decide +kernel)) rfl (by rw [hml]; exact hl.1) rfl dX3_init_1 (Nat.le_of_ble_eq_true rfl) (Nat.le_of_ble_eq_true rfl) ?_
  refine W.eq (g2 := F0 m 4 ls []) rfl ?_
  refine lv_aload_n hx hb dX3_init_4 rfl (lv_at hl 0 rfl) ?_
  refine lv_iload_n hx hb dX3_init_5 rfl (lv_at hl 1 rfl) ?_
  refine va_putF (D := (dC, dI)) (ci := 2) (v := .int (nI 12)) (ty := .int) (C := RX3) (T := TX3) (N := 8) hx hb hts i_X3 tyX3 tyX3_ok nmX3 hown hK hP hD hS 0 rfl rfl 0 (by decide) k_9 (fun _ h9 => h9) rfl hin rfl (by decide +kernel) rfl rfl (Nat.le_of_ble_eq_true rfl) dX3_init_6 (fun H locs hP hD hS => ?_)
  have hP : va_P (dC, dI) vwCl [(h0, .inr (2, [.int (nI 12), .null, .null, .null, .null, .null, .null, .null]))] H := hP
  have hD : va_D A [(h0, .inr (2, [.int (nI 12), .null, .null, .null, .null, .null, .null, .null]))] := hD
  refine lv_aload_n hx hb dX3_init_9 rfl (lv_at hl 0 rfl) ?_
  refine lv_iload_n hx hb dX3_init_10 rfl (lv_at hl 1 rfl) ?_
  refine va_newa (atype := .int) (ty := .int) (a0 := (12, .inl (qS (fun _ => 0#8)))) (N' := 12) hx hb (hts (.arrayClass .int) (by decide +kernel)) rfl hK hP hD hS hA (qa_zS 12) (nI_pos (by omega)) (nI_clamp (by omega)) (by decide +kernel) (Nat.le_of_ble_eq_true rfl) (Nat.le_of_ble_eq_true rfl) dX3_init_11 (fun a1 cA9 H hK hP hD hS => ?_)
  refine W.widen (k := 1) (n := 12) (by omega) (by omega) ?_
  generalize cA9 = cI at hK hP hD
  have hK : va_K (dC, dI) vwCl [(cI, .int)] s := hK
  have hP : va_P (dC, dI) vwCl [(h0, .inr (2, [.int (nI 12), .null, .null, .null, .null, .null, .null, .null])), (a1, .inl (cI, 12, .inl (qS (fun _ => 0#8))))] H := hP
  have hD : va_D A [(h0, .inr (2, [.int (nI 12), .null, .null, .null, .null, .null, .null, .null])), (a1, .inl (cI, 12, .inl (qS (fun _ => 0#8))))] := hD
  refine va_putF (D := (dC, dI)) (ci := 2) (v := .ref a1) (ty := .array .int) (C := RX3) (T := TX3) (N := 8) hx hb hts i_X3 tyX3 tyX3_ok nmX3 hown hK hP hD hS 0 rfl rfl 1 (by decide) k_15 (fun _ h9 => h9) rfl hin rfl (by decide +kernel) rfl rfl (Nat.le_of_ble_eq_true rfl) dX3_init_13 (fun H locs hP hD hS => ?_)
  have hP : va_P (dC, dI) vwCl [(h0, .inr (2, [.int (nI 12), .ref a1, .null, .null, .null, .null, .null, .null])), (a1, .inl (cI, 12, .inl (qS (fun _ => 0#8))))] H := hP
  have hD : va_D A [(h0, .inr (2, [.int (nI 12), .ref a1, .null, .null, .null, .null, .null, .null])), (a1, .inl (cI, 12, .inl (qS (fun _ => 0#8))))] := hD
  refine lv_aload_n hx hb dX3_init_16 rfl (lv_at hl 0 rfl) ?_
  refine lv_iload_n hx hb dX3_init_17 rfl (lv_at hl 1 rfl) ?_
  refine va_newa (atype := .boolean) (ty := .boolean) (a0 := (12, .inl (qZ (fun _ => false)))) (N' := 12) hx hb (hts (.arrayClass .boolean) (by decide +kernel)) rfl hK hP hD hS hA (qa_zZ 12) (nI_pos (by omega)) (nI_clamp (by omega)) (by decide +kernel) (Nat.le_of_ble_eq_true rfl) (Nat.le_of_ble_eq_true rfl) dX3_init_18 (fun a2 cA9 H hK hP hD hS => ?_)
  refine W.widen (k := 2) (n := 24) (by omega) (by omega) ?_
  generalize cA9 = cZ at hK hP hD
  have hK : va_K (dC, dI) vwCl [(cI, .int), (cZ, .boolean)] s := hK
  have hP : va_P (dC, dI) vwCl [(h0, .inr (2, [.int (nI 12), .ref a1, .null, .null, .null, .null, .null, .null])), (a1, .inl (cI, 12, .inl (qS (fun _ => 0#8)))), (a2, .inl (cZ, 12, .inl (qZ (fun _ => false))))] H := hP
  have hD : va_D A [(h0, .inr (2, [.int (nI 12), .ref a1, .null, .null, .null, .null, .null, .null])), (a1, .inl (cI, 12, .inl (qS (fun _ => 0#8)))), (a2, .inl (cZ, 12, .inl (qZ (fun _ => false))))] := hD
  refine va_putF (D := (dC, dI)) (ci := 2) (v := .ref a2) (ty := .array .boolean) (C := RX3) (T := TX3) (N := 8) hx hb hts i_X3 tyX3 tyX3_ok nmX3 hown hK hP hD hS 0 rfl rfl 2 (by decide) k_19 (fun _ h9 => h9) rfl hin rfl (by decide +kernel) rfl rfl (Nat.le_of_ble_eq_true rfl) dX3_init_20 (fun H locs hP hD hS => ?_)
  have hP : va_P (dC, dI) vwCl [(h0, .inr (2, [.int (nI 12), .ref a1, .ref a2, .null, .null, .null, .null, .null])), (a1, .inl (cI, 12, .inl (qS (fun _ => 0#8)))), (a2, .inl (cZ, 12, .inl (qZ (fun _ => false))))] H := hP
  have hD : va_D A [(h0, .inr (2, [.int (nI 12), .ref a1, .ref a2, .null, .null, .null, .null, .null])), (a1, .inl (cI, 12, .inl (qS (fun _ => 0#8)))), (a2, .inl (cZ, 12, .inl (qZ (fun _ => false))))] := hD
  refine lv_aload_n hx hb dX3_init_23 rfl (lv_at hl 0 rfl) ?_
  refine lv_iload_n hx hb dX3_init_24 rfl (lv_at hl 1 rfl) ?_
  refine va_newa (atype := .int) (ty := .int) (a0 := (12, .inl (qS (fun _ => 0#8)))) (N' := 12) hx hb (hts (.arrayClass .int) (by decide +kernel)) rfl hK hP hD hS hA (qa_zS 12) (nI_pos (by omega)) (nI_clamp (by omega)) (by decide +kernel) (Nat.le_of_ble_eq_true rfl) (Nat.le_of_ble_eq_true rfl) dX3_init_25 (fun a3 cA9 H hK hP hD hS => ?_)
  refine W.widen (k := 3) (n := 36) (by omega) (by omega) ?_
  have e9 := (qa_same hK 0 2 rfl rfl (fun _ h => by cases h)).symm
  subst e9
  have hK := hK.sub (tys' := [(cI, .int), (cZ, .boolean)]) [0, 1] rfl
  have hK : va_K (dC, dI) vwCl [(cI, .int), (cZ, .boolean)] s := hK
  have hP : va_P (dC, dI) vwCl [(h0, .inr (2, [.int (nI 12), .ref a1, .ref a2, .null, .null, .null, .null, .null])), (a1, .inl (cI, 12, .inl (qS (fun _ => 0#8)))), (a2, .inl (cZ, 12, .inl (qZ (fun _ => false)))), (a3, .inl (cI, 12, .inl (qS (fun _ => 0#8))))] H := hP
  have hD : va_D A [(h0, .inr (2, [.int (nI 12), .ref a1, .ref a2, .null, .null, .null, .null, .null])), (a1, .inl (cI, 12, .inl (qS (fun _ => 0#8)))), (a2, .inl (cZ, 12, .inl (qZ (fun _ => false)))), (a3, .inl (cI, 12, .inl (qS (fun _ => 0#8))))] := hD
  refine va_putF (D := (dC, dI)) (ci := 2) (v := .ref a3) (ty := .array .int) (C := RX3) (T := TX3) (N := 8) hx hb hts i_X3 tyX3 tyX3_ok nmX3 hown hK hP hD hS 0 rfl rfl 3 (by decide) k_23 (fun _ h9 => h9) rfl hin rfl (by decide +kernel) rfl rfl (Nat.le_of_ble_eq_true rfl) dX3_init_27 (fun H locs hP hD hS => ?_)
  have hP : va_P (dC, dI) vwCl [(h0, .inr (2, [.int (nI 12), .ref a1, .ref a2, .ref a3, .null, .null, .null, .null])), (a1, .inl (cI, 12, .inl (qS (fun _ => 0#8)))), (a2, .inl (cZ, 12, .inl (qZ (fun _ => false)))), (a3, .inl (cI, 12, .inl (qS (fun _ => 0#8))))] H := hP
  have hD : va_D A [(h0, .inr (2, [.int (nI 12), .ref a1, .ref a2, .ref a3, .null, .null, .null, .null])), (a1, .inl (cI, 12, .inl (qS (fun _ => 0#8)))), (a2, .inl (cZ, 12, .inl (qZ (fun _ => false)))), (a3, .inl (cI, 12, .inl (qS (fun _ => 0#8))))] := hD
  refine lv_aload_n hx hb dX3_init_30 rfl (lv_at hl 0 rfl) ?_
  refine lv_iconst (v := nI 4) hx hb dX3_init_31 (by decide) ?_
  refine va_newa (atype := .int) (ty := .int) (a0 := (4, .inl (qS (fun _ => 0#8)))) (N' := 4) hx hb (hts (.arrayClass .int) (by decide +kernel)) rfl hK hP hD hS hA (qa_zS 4) (nI_pos (by omega)) (nI_clamp (by omega)) (by decide +kernel) (Nat.le_of_ble_eq_true rfl) (Nat.le_of_ble_eq_true rfl) dX3_init_32 (fun a4 cA9 H hK hP hD hS => ?_)
  refine W.widen (k := 4) (n := 40) (by omega) (by omega) ?_
  have e9 := (qa_same hK 0 2 rfl rfl (fun _ h => by cases h)).symm
  subst e9
  have hK := hK.sub (tys' := [(cI, .int), (cZ, .boolean)]) [0, 1] rfl
  have hK : va_K (dC, dI) vwCl [(cI, .int), (cZ, .boolean)] s := hK
  have hP : va_P (dC, dI) vwCl [(h0, .inr (2, [.int (nI 12), .ref a1, .ref a2, .ref a3, .null, .null, .null, .null])), (a1, .inl (cI, 12, .inl (qS (fun _ => 0#8)))), (a2, .inl (cZ, 12, .inl (qZ (fun _ => false)))), (a3, .inl (cI, 12, .inl (qS (fun _ => 0#8)))), (a4, .inl (cI, 4, .inl (qS (fun _ => 0#8))))] H := hP
  have hD : va_D A [(h0, .inr (2, [.int (nI 12), .ref a1, .ref a2, .ref a3, .null, .null, .null, .null])), (a1, .inl (cI, 12, .inl (qS (fun _ => 0#8)))), (a2, .inl (cZ, 12, .inl (qZ (fun _ => false)))), (a3, .inl (cI, 12, .inl (qS (fun _ => 0#8)))), (a4, .inl (cI, 4, .inl (qS (fun _ => 0#8))))] := hD
  refine va_putF (D := (dC, dI)) (ci := 2) (v := .ref a4) (ty := .array .int) (C := RX3) (T := TX3) (N := 8) hx hb hts i_X3 tyX3 tyX3_ok nmX3 hown hK hP hD hS 0 rfl rfl 4 (by decide) k_26 (fun _ h9 => h9) rfl hin rfl (by decide +kernel) rfl rfl (Nat.le_of_ble_eq_true rfl) dX3_init_34 (fun H locs hP hD hS => ?_)
  have hP : va_P (dC, dI) vwCl [(h0, .inr (2, [.int (nI 12), .ref a1, .ref a2, .ref a3, .ref a4, .null, .null, .null])), (a1, .inl (cI, 12, .inl (qS (fun _ => 0#8)))), (a2, .inl (cZ, 12, .inl (qZ (fun _ => false)))), (a3, .inl (cI, 12, .inl (qS (fun _ => 0#8)))), (a4, .inl (cI, 4, .inl (qS (fun _ => 0#8))))] H := hP
  have hD : va_D A [(h0, .inr (2, [.int (nI 12), .ref a1, .ref a2, .ref a3, .ref a4, .null, .null, .null])), (a1, .inl (cI, 12, .inl (qS (fun _ => 0#8)))), (a2, .inl (cZ, 12, .inl (qZ (fun _ => false)))), (a3, .inl (cI, 12, .inl (qS (fun _ => 0#8)))), (a4, .inl (cI, 4, .inl (qS (fun _ => 0#8))))] := hD
  refine lv_aload_n hx hb dX3_init_37 rfl (lv_at hl 0 rfl) ?_
  refine lv_iconst (v := nI 4) hx hb dX3_init_38 (by decide) ?_
  refine va_newa (atype := .int) (ty := .int) (a0 := (4, .inl (qN (fun _ => 0)))) (N' := 4) hx hb (hts (.arrayClass .int) (by decide +kernel)) rfl hK hP hD hS hA (qa_zN 4) (nI_pos (by omega)) (nI_clamp (by omega)) (by decide +kernel) (Nat.le_of_ble_eq_true rfl) (Nat.le_of_ble_eq_true rfl) dX3_init_39 (fun a5 cA9 H hK hP hD hS => ?_)
  refine W.widen (k := 5) (n := 44) (by omega) (by omega) ?_
  have e9 := (qa_same hK 0 2 rfl rfl (fun _ h => by cases h)).symm
  subst e9
  have hK := hK.sub (tys' := [(cI, .int), (cZ, .boolean)]) [0, 1] rfl
  have hK : va_K (dC, dI) vwCl [(cI, .int), (cZ, .boolean)] s := hK
  have hP : va_P (dC, dI) vwCl [(h0, .inr (2, [.int (nI 12), .ref a1, .ref a2, .ref a3, .ref a4, .null, .null, .null])), (a1, .inl (cI, 12, .inl (qS (fun _ => 0#8)))), (a2, .inl (cZ, 12, .inl (qZ (fun _ => false)))), (a3, .inl (cI, 12, .inl (qS (fun _ => 0#8)))), (a4, .inl (cI, 4, .inl (qS (fun _ => 0#8)))), (a5, .inl (cI, 4, .inl (qN (fun _ => 0))))] H := hP
  have hD : va_D A [(h0, .inr (2, [.int (nI 12), .ref a1, .ref a2, .ref a3, .ref a4, .null, .null, .null])), (a1, .inl (cI, 12, .inl (qS (fun _ => 0#8)))), (a2, .inl (cZ, 12, .inl (qZ (fun _ => false)))), (a3, .inl (cI, 12, .inl (qS (fun _ => 0#8)))), (a4, .inl (cI, 4, .inl (qS (fun _ => 0#8)))), (a5, .inl (cI, 4, .inl (qN (fun _ => 0))))] := hD
  refine va_putF (D := (dC, dI)) (ci := 2) (v := .ref a5) (ty := .array .int) (C := RX3) (T := TX3) (N := 8) hx hb hts i_X3 tyX3 tyX3_ok nmX3 hown hK hP hD hS 0 rfl rfl 5 (by decide) k_29 (fun _ h9 => h9) rfl hin rfl (by decide +kernel) rfl rfl (Nat.le_of_ble_eq_true rfl) dX3_init_41 (fun H locs hP hD hS => ?_)
  have hP : va_P (dC, dI) vwCl [(h0, .inr (2, [.int (nI 12), .ref a1, .ref a2, .ref a3, .ref a4, .ref a5, .null, .null])), (a1, .inl (cI, 12, .inl (qS (fun _ => 0#8)))), (a2, .inl (cZ, 12, .inl (qZ (fun _ => false)))), (a3, .inl (cI, 12, .inl (qS (fun _ => 0#8)))), (a4, .inl (cI, 4, .inl (qS (fun _ => 0#8)))), (a5, .inl (cI, 4, .inl (qN (fun _ => 0))))] H := hP
  have hD : va_D A [(h0, .inr (2, [.int (nI 12), .ref a1, .ref a2, .ref a3, .ref a4, .ref a5, .null, .null])), (a1, .inl (cI, 12, .inl (qS (fun _ => 0#8)))), (a2, .inl (cZ, 12, .inl (qZ (fun _ => false)))), (a3, .inl (cI, 12, .inl (qS (fun _ => 0#8)))), (a4, .inl (cI, 4, .inl (qS (fun _ => 0#8)))), (a5, .inl (cI, 4, .inl (qN (fun _ => 0))))] := hD
  refine lv_aload_n hx hb dX3_init_44 rfl (lv_at hl 0 rfl) ?_
  refine lv_iconst (v := nI 4) hx hb dX3_init_45 (by decide) ?_
  refine va_newa (atype := .int) (ty := .int) (a0 := (4, .inl (qS (fun _ => 0#8)))) (N' := 4) hx hb (hts (.arrayClass .int) (by decide +kernel)) rfl hK hP hD hS hA (qa_zS 4) (nI_pos (by omega)) (nI_clamp (by omega)) (by decide +kernel) (Nat.le_of_ble_eq_true rfl) (Nat.le_of_ble_eq_true rfl) dX3_init_46 (fun a6 cA9 H hK hP hD hS => ?_)
  refine W.widen (k := 6) (n := 48) (by omega) (by omega) ?_
  have e9 := (qa_same hK 0 2 rfl rfl (fun _ h => by cases h)).symm
  subst e9
  have hK := hK.sub (tys' := [(cI, .int), (cZ, .boolean)]) [0, 1] rfl
  have hK : va_K (dC, dI) vwCl [(cI, .int), (cZ, .boolean)] s := hK
  have hP : va_P (dC, dI) vwCl [(h0, .inr (2, [.int (nI 12), .ref a1, .ref a2, .ref a3, .ref a4, .ref a5, .null, .null])), (a1, .inl (cI, 12, .inl (qS (fun _ => 0#8)))), (a2, .inl (cZ, 12, .inl (qZ (fun _ => false)))), (a3, .inl (cI, 12, .inl (qS (fun _ => 0#8)))), (a4, .inl (cI, 4, .inl (qS (fun _ => 0#8)))), (a5, .inl (cI, 4, .inl (qN (fun _ => 0)))), (a6, .inl (cI, 4, .inl (qS (fun _ => 0#8))))] H := hP
  have hD : va_D A [(h0, .inr (2, [.int (nI 12), .ref a1, .ref a2, .ref a3, .ref a4, .ref a5, .null, .null])), (a1, .inl (cI, 12, .inl (qS (fun _ => 0#8)))), (a2, .inl (cZ, 12, .inl (qZ (fun _ => false)))), (a3, .inl (cI, 12, .inl (qS (fun _ => 0#8)))), (a4, .inl (cI, 4, .inl (qS (fun _ => 0#8)))), (a5, .inl (cI, 4, .inl (qN (fun _ => 0)))), (a6, .inl (cI, 4, .inl (qS (fun _ => 0#8))))] := hD
  refine va_putF (D := (dC, dI)) (ci := 2) (v := .ref a6) (ty := .array .int) (C := RX3) (T := TX3) (N := 8) hx hb hts i_X3 tyX3 tyX3_ok nmX3 hown hK hP hD hS 0 rfl rfl 6 (by decide) k_32 (fun _ h9 => h9) rfl hin rfl (by decide +kernel) rfl rfl (Nat.le_of_ble_eq_true rfl) dX3_init_48 (fun H locs hP hD hS => ?_)
  have hP : va_P (dC, dI) vwCl [(h0, .inr (2, [.int (nI 12), .ref a1, .ref a2, .ref a3, .ref a4, .ref a5, .ref a6, .null])), (a1, .inl (cI, 12, .inl (qS (fun _ => 0#8)))), (a2, .inl (cZ, 12, .inl (qZ (fun _ => false)))), (a3, .inl (cI, 12, .inl (qS (fun _ => 0#8)))), (a4, .inl (cI, 4, .inl (qS (fun _ => 0#8)))), (a5, .inl (cI, 4, .inl (qN (fun _ => 0)))), (a6, .inl (cI, 4, .inl (qS (fun _ => 0#8))))] H := hP
  have hD : va_D A [(h0, .inr (2, [.int (nI 12), .ref a1, .ref a2, .ref a3, .ref a4, .ref a5, .ref a6, .null])), (a1, .inl (cI, 12, .inl (qS (fun _ => 0#8)))), (a2, .inl (cZ, 12, .inl (qZ (fun _ => false)))), (a3, .inl (cI, 12, .inl (qS (fun _ => 0#8)))), (a4, .inl (cI, 4, .inl (qS (fun _ => 0#8)))), (a5, .inl (cI, 4, .inl (qN (fun _ => 0)))), (a6, .inl (cI, 4, .inl (qS (fun _ => 0#8))))] := hD
  refine lv_aload_n hx hb dX3_init_51 rfl (lv_at hl 0 rfl) ?_
  refine lv_iconst (v := nI 4) hx hb dX3_init_52 (by decide) ?_
  refine va_newa (atype := .int) (ty := .int) (a0 := (4, .inl (qS (fun _ => 0#8)))) (N' := 4) hx hb (hts (.arrayClass .int) (by decide +kernel)) rfl hK hP hD hS hA (qa_zS 4) (nI_pos (by omega)) (nI_clamp (by omega)) (by decide +kernel) (Nat.le_of_ble_eq_true rfl) (Nat.le_of_ble_eq_true rfl) dX3_init_53 (fun a7 cA9 H hK hP hD hS => ?_)
  refine W.widen (k := 7) (n := 52) (by omega) (by omega) ?_
  have e9 := (qa_same hK 0 2 rfl rfl (fun _ h => by cases h)).symm
  subst e9
  have hK := hK.sub (tys' := [(cI, .int), (cZ, .boolean)]) [0, 1] rfl
  have hK : va_K (dC, dI) vwCl [(cI, .int), (cZ, .boolean)] s := hK
  have hP : va_P (dC, dI) vwCl [(h0, .inr (2, [.int (nI 12), .ref a1, .ref a2, .ref a3, .ref a4, .ref a5, .ref a6, .null])), (a1, .inl (cI, 12, .inl (qS (fun _ => 0#8)))), (a2, .inl (cZ, 12, .inl (qZ (fun _ => false)))), (a3, .inl (cI, 12, .inl (qS (fun _ => 0#8)))), (a4, .inl (cI, 4, .inl (qS (fun _ => 0#8)))), (a5, .inl (cI, 4, .inl (qN (fun _ => 0)))), (a6, .inl (cI, 4, .inl (qS (fun _ => 0#8)))), (a7, .inl (cI, 4, .inl (qS (fun _ => 0#8))))] H := hP
  have hD : va_D A [(h0, .inr (2, [.int (nI 12), .ref a1, .ref a2, .ref a3, .ref a4, .ref a5, .ref a6, .null])), (a1, .inl (cI, 12, .inl (qS (fun _ => 0#8)))), (a2, .inl (cZ, 12, .inl (qZ (fun _ => false)))), (a3, .inl (cI, 12, .inl (qS (fun _ => 0#8)))), (a4, .inl (cI, 4, .inl (qS (fun _ => 0#8)))), (a5, .inl (cI, 4, .inl (qN (fun _ => 0)))), (a6, .inl (cI, 4, .inl (qS (fun _ => 0#8)))), (a7, .inl (cI, 4, .inl (qS (fun _ => 0#8))))] := hD
  refine va_putF (D := (dC, dI)) (ci := 2) (v := .ref a7) (ty := .array .int) (C := RX3) (T := TX3) (N := 8) hx hb hts i_X3 tyX3 tyX3_ok nmX3 hown hK hP hD hS 0 rfl rfl 7 (by decide) k_35 (fun _ h9 => h9) rfl hin rfl (by decide +kernel) rfl rfl (Nat.le_of_ble_eq_true rfl) dX3_init_55 (fun H locs hP hD hS => ?_)
  have hP : va_P (dC, dI) vwCl [(h0, .inr (2, [.int (nI 12), .ref a1, .ref a2, .ref a3, .ref a4, .ref a5, .ref a6, .ref a7])), (a1, .inl (cI, 12, .inl (qS (fun _ => 0#8)))), (a2, .inl (cZ, 12, .inl (qZ (fun _ => false)))), (a3, .inl (cI, 12, .inl (qS (fun _ => 0#8)))), (a4, .inl (cI, 4, .inl (qS (fun _ => 0#8)))), (a5, .inl (cI, 4, .inl (qN (fun _ => 0)))), (a6, .inl (cI, 4, .inl (qS (fun _ => 0#8)))), (a7, .inl (cI, 4, .inl (qS (fun _ => 0#8))))] H := hP
  have hD : va_D A [(h0, .inr (2, [.int (nI 12), .ref a1, .ref a2, .ref a3, .ref a4, .ref a5, .ref a6, .ref a7])), (a1, .inl (cI, 12, .inl (qS (fun _ => 0#8)))), (a2, .inl (cZ, 12, .inl (qZ (fun _ => false)))), (a3, .inl (cI, 12, .inl (qS (fun _ => 0#8)))), (a4, .inl (cI, 4, .inl (qS (fun _ => 0#8)))), (a5, .inl (cI, 4, .inl (qN (fun _ => 0)))), (a6, .inl (cI, 4, .inl (qS (fun _ => 0#8)))), (a7, .inl (cI, 4, .inl (qS (fun _ => 0#8))))] := hD
  refine lv_iconst (v := sI 1#8) hx hb dX3_init_58 (by decide) ?_
  refine lv_istore_n (lv' := [(2, .int (sI 1#8)), (0, .ref h0), (1, .int (nI 12))]) hx hb dX3_init_59 rfl hl (by decide) rfl (fun ls hl => ?_)
  refine lv_iload_n hx hb dX3_init_60 rfl (lv_at hl 2 rfl) ?_
  refine lv_iconst (v := nI 1) hx hb dX3_init_61 (by decide) ?_
  refine qr_isub (z := nI 12 - nI 1) hx hb dX3_init_62 rfl ?_
  refine lv_istore_n (lv' := [(3, .int (nI 12 - nI 1)), (2, .int (sI 1#8)), (0, .ref h0), (1, .int (nI 12))]) hx hb dX3_init_63 rfl hl (by decide) rfl (fun ls hl => ?_)
  obtain ⟨hP, hD⟩ := qr_same (g := qS (qm_lo 12 12)) hP hD 3 rfl (fun j hj => congrArg sI (qm_lo_n 12 hj))
  have hP : va_P (dC, dI) vwCl [(h0, .inr (2, [.int (nI 12), .ref a1, .ref a2, .ref a3, .ref a4, .ref a5, .ref a6, .ref a7])), (a1, .inl (cI, 12, .inl (qS (fun _ => 0#8)))), (a2, .inl (cZ, 12, .inl (qZ (fun _ => false)))), (a3, .inl (cI, 12, .inl (qS (qm_lo 12 12)))), (a4, .inl (cI, 4, .inl (qS (fun _ => 0#8)))), (a5, .inl (cI, 4, .inl (qN (fun _ => 0)))), (a6, .inl (cI, 4, .inl (qS (fun _ => 0#8)))), (a7, .inl (cI, 4, .inl (qS (fun _ => 0#8))))] H := hP
  have hD : va_D A [(h0, .inr (2, [.int (nI 12), .ref a1, .ref a2, .ref a3, .ref a4, .ref a5, .ref a6, .ref a7])), (a1, .inl (cI, 12, .inl (qS (fun _ => 0#8)))), (a2, .inl (cZ, 12, .inl (qZ (fun _ => false)))), (a3, .inl (cI, 12, .inl (qS (qm_lo 12 12)))), (a4, .inl (cI, 4, .inl (qS (fun _ => 0#8)))), (a5, .inl (cI, 4, .inl (qN (fun _ => 0)))), (a6, .inl (cI, 4, .inl (qS (fun _ => 0#8)))), (a7, .inl (cI, 4, .inl (qS (fun _ => 0#8))))] := hD
  have lp64 : ∀ (k i : Nat), i = k → ∀  (ls : Array Slot) (H : Heap) (locs : List Loc), lv_has ls 4 [(0, .ref h0), (1, .int (nI 12)), (2, .int (sI (qf_E (12 - i)))), (3, .int (nI i - nI 1))] → va_P (dC, dI) vwCl [(h0, .inr (2, [.int (nI 12), .ref a1, .ref a2, .ref a3, .ref a4, .ref a5, .ref a6, .ref a7])), (a1, .inl (cI, 12, .inl (qS (fun _ => 0#8)))), (a2, .inl (cZ, 12, .inl (qZ (fun _ => false)))), (a3, .inl (cI, 12, .inl (qS (qm_lo 12 i)))), (a4, .inl (cI, 4, .inl (qS (fun _ => 0#8)))), (a5, .inl (cI, 4, .inl (qN (fun _ => 0)))), (a6, .inl (cI, 4, .inl (qS (fun _ => 0#8)))), (a7, .inl (cI, 4, .inl (qS (fun _ => 0#8))))] H → va_D A [(h0, .inr (2, [.int (nI 12), .ref a1, .ref a2, .ref a3, .ref a4, .ref a5, .ref a6, .ref a7])), (a1, .inl (cI, 12, .inl (qS (fun _ => 0#8)))), (a2, .inl (cZ, 12, .inl (qZ (fun _ => false)))), (a3, .inl (cI, 12, .inl (qS (qm_lo 12 i)))), (a4, .inl (cI, 4, .inl (qS (fun _ => 0#8)))), (a5, .inl (cI, 4, .inl (qN (fun _ => 0)))), (a6, .inl (cI, 4, .inl (qS (fun _ => 0#8)))), (a7, .inl (cI, 4, .inl (qS (fun _ => 0#8))))] → va_S A s.heap H locs → i ≤ 12 → W p l e (headSpec wsX3_init ({ frames := 1, cells := 7, slots := 52, locals := 40 } : Room)).room s m ([.ref h0, .int (nI 12)] : List Value).toArray below meth c H locs 7 52 Q (F0 m 64 ls []) := by
    intro k
    induction k with
    | zero =>
      intro i hi  ls H locs hl hP hD hS hin0
      subst hi
      refine lv_iload_n hx hb dX3_init_64 rfl (lv_at hl 3 rfl) ?_
      refine lv_if_lt (tgt := 87) hx hb dX3_init_65 rfl  (fun b65 => ?_) (fun h => absurd (show nI 0 - nI 1 < 0 by decide) h)
      subst hQ
      exact W.vret hx hb hr (fun t ht hW => ⟨⟨(cI, cZ, a1, a2, a3, a4, a5, a6, a7), rfl, trivial, by rw [ht]; exact hP, va_K.moved hW.alike hK, hD⟩, hS.F ht⟩) hS.2.2 dX3_init_87
    | succ k ih =>
      intro i hi  ls H locs hl hP hD hS hin0
      subst hi
      rw [qm_dec2 k] at hl
      refine lv_iload_n hx hb dX3_init_64 rfl (lv_at hl 3 rfl) ?_
      refine lv_if_lt (tgt := 87) hx hb dX3_init_65 rfl  (fun h => absurd h (nI_pos (by omega))) (fun b65 => ?_)
      refine lv_aload_n hx hb dX3_init_68 rfl (lv_at hl 0 rfl) ?_
      refine va_get (D := (dC, dI)) (ci := 2) (v := .ref a3) (C := RX3) (T := TX3) (N := 8) hx hb hts i_X3 hown hK hP 0 rfl rfl 3 (by decide) k_23 (fun _ h9 => h9) rfl dX3_init_69 ?_
      refine lv_iload_n hx hb dX3_init_72 rfl (lv_at hl 3 rfl) ?_
      refine lv_iload_n hx hb dX3_init_73 rfl (lv_at hl 2 rfl) ?_
      refine qr_istS (x := qf_E (12 - (k + 1))) hx hb hK hP hD hS 3 0 rfl rfl (by omega) (by omega) dX3_init_74 (fun H locs hP hD hS => ?_)
      have hP : va_P (dC, dI) vwCl [(h0, .inr (2, [.int (nI 12), .ref a1, .ref a2, .ref a3, .ref a4, .ref a5, .ref a6, .ref a7])), (a1, .inl (cI, 12, .inl (qS (fun _ => 0#8)))), (a2, .inl (cZ, 12, .inl (qZ (fun _ => false)))), (a3, .inl (cI, 12, .inl (qS (va_up (qm_lo 12 (k + 1)) k (qf_E (12 - (k + 1))))))), (a4, .inl (cI, 4, .inl (qS (fun _ => 0#8)))), (a5, .inl (cI, 4, .inl (qN (fun _ => 0)))), (a6, .inl (cI, 4, .inl (qS (fun _ => 0#8)))), (a7, .inl (cI, 4, .inl (qS (fun _ => 0#8))))] H := hP
      have hD : va_D A [(h0, .inr (2, [.int (nI 12), .ref a1, .ref a2, .ref a3, .ref a4, .ref a5, .ref a6, .ref a7])), (a1, .inl (cI, 12, .inl (qS (fun _ => 0#8)))), (a2, .inl (cZ, 12, .inl (qZ (fun _ => false)))), (a3, .inl (cI, 12, .inl (qS (va_up (qm_lo 12 (k + 1)) k (qf_E (12 - (k + 1))))))), (a4, .inl (cI, 4, .inl (qS (fun _ => 0#8)))), (a5, .inl (cI, 4, .inl (qN (fun _ => 0)))), (a6, .inl (cI, 4, .inl (qS (fun _ => 0#8)))), (a7, .inl (cI, 4, .inl (qS (fun _ => 0#8))))] := hD
      refine lv_iload_n hx hb dX3_init_75 rfl (lv_at hl 2 rfl) ?_
      refine lv_iconst (v := sI 2#8) hx hb dX3_init_76 (by decide) ?_
      refine vp_callSi (va_Run.run (va_runS (As := [.int (sI (qf_E (12 - (k + 1)))), .int (sI 2#8)]) (rest := []) ⟨hx, hb, hml, hown, hts⟩ (qc_times l (qf_E (12 - (k + 1))) 2#8 ) (va_cwS 2 hts gX3_init_X1_times rfl rfl rfl (by decide +kernel) ⟨Nat.le_of_ble_eq_true rfl, Nat.le_of_ble_eq_true rfl⟩) ⟨fun a U g mk q => q, fun U hU hW => ⟨rfl, trivial⟩⟩ rfl rfl hl.1 rfl (lv_room (Nat.le_of_ble_eq_true rfl)) dX3_init_77 ⟨Nat.le_of_ble_eq_true rfl, Nat.le_of_ble_eq_true rfl⟩)) (fun rv77 hr77 => ?_)
      have hr77 : rv77 = sI (qf_m (qf_E (12 - (k + 1))) 2#8) := hr77
      subst hr77
      refine lv_istore_n (lv' := [(2, .int (sI (qf_m (qf_E (12 - (k + 1))) 2#8))), (0, .ref h0), (1, .int (nI 12)), (3, .int (nI k))]) hx hb dX3_init_80 rfl hl (by decide) rfl (fun ls hl => ?_)
      refine lv_iinc (k := 3) (v := nI k - nI 1) (lv' := [(3, .int (nI k - nI 1)), (2, .int (sI (qf_m (qf_E (12 - (k + 1))) 2#8))), (0, .ref h0), (1, .int (nI 12))]) hx hb dX3_init_81 hl rfl (qm_dec1 k) (by decide) rfl (fun ls hl => ?_)
      refine lv_goto (tgt := 64) hx hb dX3_init_84 rfl ?_
      have hl := lv_sub (l' := [(0, .ref h0), (1, .int (nI 12)), (2, .int (sI (qf_m (qf_E (12 - (k + 1))) 2#8))), (3, .int (nI k - nI 1))]) hl [2, 3, 1, 0] rfl
      have e1 : qf_E (12 - k) = qf_m (qf_E (12 - (k + 1))) 2#8 := qm_lo_E 12 (by omega)
      have e2 : qm_lo 12 k = va_up (qm_lo 12 (k + 1)) k (qf_E (12 - (k + 1))) := qm_lo_s 12 (by omega)
      exact ih k rfl  ls H _ (by rw [e1]; exact hl) (by rw [e2]; exact hP) (by rw [e2]; exact hD) hS (by omega)
  have hl := lv_sub (l' := [(0, .ref h0), (1, .int (nI 12)), (2, .int (sI 1#8)), (3, .int (nI 12 - nI 1))]) hl [2, 3, 1, 0] rfl
  exact lp64 12 12 rfl  ls H _ hl hP hD hS (by omega)
set_option maxHeartbeats 4000000 in
set_option maxRecDepth 100000 in
/-- Word(16) -/
theorem qc_word16 (l : Launch) (dC : Nat → ClassId) (dI : Nat → Nat → Nat) (h0 : Nat) (sz : Nat)  : Met l yX3_init wsX3_init ({ frames := 1, cells := 7, slots := 64, locals := 40 } : Room) (va_Pc [.ref h0, .int (nI 16)] (fun U => U.heap.size = sz ∧ va_P (dC, dI) vwCl [(h0, .inr (2, [.int (nI 0), .null, .null, .null, .null, .null, .null, .null]))] U.heap ∧ va_K (dC, dI) vwCl [] U ∧ va_D (fun _ => True) [(h0, .inr (2, [.int (nI 0), .null, .null, .null, .null, .null, .null, .null]))])) (va_Qv (fun (u : ClassId × ClassId × Nat × Nat × Nat × Nat × Nat × Nat × Nat) => True) (fun u t => va_P (dC, dI) vwCl [(h0, .inr (2, [.int (nI 16), .ref u.2.2.1, .ref u.2.2.2.1, .ref u.2.2.2.2.1, .ref u.2.2.2.2.2.1, .ref u.2.2.2.2.2.2.1, .ref u.2.2.2.2.2.2.2.1, .ref u.2.2.2.2.2.2.2.2])), (u.2.2.1, .inl (u.1, 16, .inl (qS (fun _ => 0#8)))), (u.2.2.2.1, .inl (u.2.1, 16, .inl (qZ (fun _ => false)))), (u.2.2.2.2.1, .inl (u.1, 16, .inl (qS (qm_lo 16 0)))), (u.2.2.2.2.2.1, .inl (u.1, 4, .inl (qS (fun _ => 0#8)))), (u.2.2.2.2.2.2.1, .inl (u.1, 4, .inl (qN (fun _ => 0)))), (u.2.2.2.2.2.2.2.1, .inl (u.1, 4, .inl (qS (fun _ => 0#8)))), (u.2.2.2.2.2.2.2.2, .inl (u.1, 4, .inl (qS (fun _ => 0#8))))] t.heap ∧ va_K (dC, dI) vwCl [(u.1, .int), (u.2.1, .boolean)] t ∧ va_D (va_A [(h0, .inr (2, [.int (nI 0), .null, .null, .null, .null, .null, .null, .null]))] sz) [(h0, .inr (2, [.int (nI 16), .ref u.2.2.1, .ref u.2.2.2.1, .ref u.2.2.2.2.1, .ref u.2.2.2.2.2.1, .ref u.2.2.2.2.2.2.1, .ref u.2.2.2.2.2.2.2.1, .ref u.2.2.2.2.2.2.2.2])), (u.2.2.1, .inl (u.1, 16, .inl (qS (fun _ => 0#8)))), (u.2.2.2.1, .inl (u.2.1, 16, .inl (qZ (fun _ => false)))), (u.2.2.2.2.1, .inl (u.1, 16, .inl (qS (qm_lo 16 0)))), (u.2.2.2.2.2.1, .inl (u.1, 4, .inl (qS (fun _ => 0#8)))), (u.2.2.2.2.2.2.1, .inl (u.1, 4, .inl (qN (fun _ => 0)))), (u.2.2.2.2.2.2.2.1, .inl (u.1, 4, .inl (qS (fun _ => 0#8)))), (u.2.2.2.2.2.2.2.2, .inl (u.1, 4, .inl (qS (fun _ => 0#8))))]) (va_A [(h0, .inr (2, [.int (nI 0), .null, .null, .null, .null, .null, .null, .null]))] sz)) 7 64 (va_A [(h0, .inr (2, [.int (nI 0), .null, .null, .null, .null, .null, .null, .null]))] sz) := by
  refine Met.ofW (cc := cX3_init) (maxL := 4) (ret := none) (by decide) rfl ?_
  intro p e s m args below meth c s₁ B hml hv
  obtain ⟨rfl, hsz, hP, hK, hD0⟩ := hv
  have hx := B.exec
  have hb := B.bytes
  have hr := B.returns
  have hts := atoms_spec (ws := wsX3_init) B.pre
  have hown : s.vm.findClass RX3 = some m.cls := findClass_of_methodNamed B.named
  have hlocks := B.notSynchronized
  have hin : meth.name = "<init>" := (name_of_methodNamed B.named B.method).1
  subst hsz
  have hD := hD0.self (sz := s.heap.size)
  generalize hAe : va_A [(h0, .inr (2, [.int (nI 0), .null, .null, .null, .null, .null, .null, .null]))] s.heap.size = A at hD ⊢
  have hA : ∀ q : Nat, s.heap.size ≤ q → A q := fun q h => by rw [← hAe]; exact Or.inr h
  have hS : va_S A s.heap s.heap [] := va_S.rf
  have hP : va_P (dC, dI) vwCl [(h0, .inr (2, [.int (nI 0), .null, .null, .null, .null, .null, .null, .null]))] s.heap := hP
  have hl := lv_entry ([.ref h0, .int (nI 16)]) (n := 4) (Nat.le_of_ble_eq_true rfl)
  rw [lg_entry_eq]
  generalize (lg_sl ([.ref h0, .int (nI 16)]) ++ List.replicate (4 - (lg_sl ([.ref h0, .int (nI 16)])).length) Slot.unset).toArray = ls at hl ⊢
  have hl : lv_has ls 4 [(0, .ref h0), (1, .int (nI 16))] := hl
  have k_9 := hts (.fieldLink RX3 9 "DiscCoder$Word" "size" "I") (by decide +kernel)
  have k_15 := hts (.fieldLink RX3 15 "DiscCoder$Word" "symbols" "[I") (by decide +kernel)
  have k_19 := hts (.fieldLink RX3 19 "DiscCoder$Word" "doubted" "[Z") (by decide +kernel)
  have k_23 := hts (.fieldLink RX3 23 "DiscCoder$Word" "locators" "[I") (by decide +kernel)
  have k_26 := hts (.fieldLink RX3 26 "DiscCoder$Word" "sums" "[I") (by decide +kernel)
  have k_29 := hts (.fieldLink RX3 29 "DiscCoder$Word" "doubtedAt" "[I") (by decide +kernel)
  have k_32 := hts (.fieldLink RX3 32 "DiscCoder$Word" "changes" "[I") (by decide +kernel)
  have k_35 := hts (.fieldLink RX3 35 "DiscCoder$Word" "weights" "[I") (by decide +kernel)
  have i_X3 : ∀ w ∈ u_ws RX3 TX3 8, w ∈ wsX3_init := by decide +kernel
  refine qr_nm (fun Q hQ => ?_)
  refine lv_aload_n hx hb dX3_init_0 rfl (lv_at hl 0 rfl) ?_
  refine W.objInit hx hb hown (hts (.methodLink RX3 3 objectInit) (by decide +kernel)) (hts (.instanceMethod objectInit) (by decide +kernel)) (hts (.code objectInit ⟨#[0xb1]⟩ 1 none) (by decide +kernel)) rfl (by rw [hml]; exact hl.1) rfl dX3_init_1 (Nat.le_of_ble_eq_true rfl) (Nat.le_of_ble_eq_true rfl) ?_
  refine W.eq (g2 := F0 m 4 ls []) rfl ?_
  refine lv_aload_n hx hb dX3_init_4 rfl (lv_at hl 0 rfl) ?_
  refine lv_iload_n hx hb dX3_init_5 rfl (lv_at hl 1 rfl) ?_
  refine va_putF (D := (dC, dI)) (ci := 2) (v := .int (nI 16)) (ty := .int) (C := RX3) (T := TX3) (N := 8) hx hb hts i_X3 tyX3 tyX3_ok nmX3 hown hK hP hD hS 0 rfl rfl 0 (by decide) k_9 (fun _ h9 => h9) rfl hin rfl (by decide +kernel) rfl rfl (Nat.le_of_ble_eq_true rfl) dX3_init_6 (fun H locs hP hD hS => ?_)
  have hP : va_P (dC, dI) vwCl [(h0, .inr (2, [.int (nI 16), .null, .null, .null, .null, .null, .null, .null]))] H := hP
  have hD : va_D A [(h0, .inr (2, [.int (nI 16), .null, .null, .null, .null, .null, .null, .null]))] := hD
  refine lv_aload_n hx hb dX3_init_9 rfl (lv_at hl 0 rfl) ?_
  refine lv_iload_n hx hb dX3_init_10 rfl (lv_at hl 1 rfl) ?_
  refine va_newa (atype := .int) (ty := .int) (a0 := (16, .inl (qS (fun _ => 0#8)))) (N' := 16) hx hb (hts (.arrayClass .int) (by decide +kernel)) rfl hK hP hD hS hA (qa_zS 16) (nI_pos (by omega)) (nI_clamp (by omega)) (by decide +kernel) (Nat.le_of_ble_eq_true rfl) (Nat.le_of_ble_eq_true rfl) dX3_init_11 (fun a1 cA9 H hK hP hD hS => ?_)
  refine W.widen (k := 1) (n := 16) (by omega) (by omega) ?_
  generalize cA9 = cI at hK hP hD
  have hK : va_K (dC, dI) vwCl [(cI, .int)] s := hK
  have hP : va_P (dC, dI) vwCl [(h0, .inr (2, [.int (nI 16), .null, .null, .null, .null, .null, .null, .null])), (a1, .inl (cI, 16, .inl (qS (fun _ => 0#8))))] H := hP
  have hD : va_D A [(h0, .inr (2, [.int (nI 16), .null, .null, .null, .null, .null, .null, .null])), (a1, .inl (cI, 16, .inl (qS (fun _ => 0#8))))] := hD
  refine va_putF (D := (dC, dI)) (ci := 2) (v := .ref a1) (ty := .array .int) (C := RX3) (T := TX3) (N := 8) hx hb hts i_X3 tyX3 tyX3_ok nmX3 hown hK hP hD hS 0 rfl rfl 1 (by decide) k_15 (fun _ h9 => h9) rfl hin rfl (by decide +kernel) rfl rfl (Nat.le_of_ble_eq_true rfl) dX3_init_13 (fun H locs hP hD hS => ?_)
  have hP : va_P (dC, dI) vwCl [(h0, .inr (2, [.int (nI 16), .ref a1, .null, .null, .null, .null, .null, .null])), (a1, .inl (cI, 16, .inl (qS (fun _ => 0#8))))] H := hP
  have hD : va_D A [(h0, .inr (2, [.int (nI 16), .ref a1, .null, .null, .null, .null, .null, .null])), (a1, .inl (cI, 16, .inl (qS (fun _ => 0#8))))] := hD
  refine lv_aload_n hx hb dX3_init_16 rfl (lv_at hl 0 rfl) ?_
  refine lv_iload_n hx hb dX3_init_17 rfl (lv_at hl 1 rfl) ?_
  refine va_newa (atype := .boolean) (ty := .boolean) (a0 := (16, .inl (qZ (fun _ => false)))) (N' := 16) hx hb (hts (.arrayClass .boolean) (by decide +kernel)) rfl hK hP hD hS hA (qa_zZ 16) (nI_pos (by omega)) (nI_clamp (by omega)) (by decide +kernel) (Nat.le_of_ble_eq_true rfl) (Nat.le_of_ble_eq_true rfl) dX3_init_18 (fun a2 cA9 H hK hP hD hS => ?_)
  refine W.widen (k := 2) (n := 32) (by omega) (by omega) ?_
  generalize cA9 = cZ at hK hP hD
  have hK : va_K (dC, dI) vwCl [(cI, .int), (cZ, .boolean)] s := hK
  have hP : va_P (dC, dI) vwCl [(h0, .inr (2, [.int (nI 16), .ref a1, .null, .null, .null, .null, .null, .null])), (a1, .inl (cI, 16, .inl (qS (fun _ => 0#8)))), (a2, .inl (cZ, 16, .inl (qZ (fun _ => false))))] H := hP
  have hD : va_D A [(h0, .inr (2, [.int (nI 16), .ref a1, .null, .null, .null, .null, .null, .null])), (a1, .inl (cI, 16, .inl (qS (fun _ => 0#8)))), (a2, .inl (cZ, 16, .inl (qZ (fun _ => false))))] := hD
  refine va_putF (D := (dC, dI)) (ci := 2) (v := .ref a2) (ty := .array .boolean) (C := RX3) (T := TX3) (N := 8) hx hb hts i_X3 tyX3 tyX3_ok nmX3 hown hK hP hD hS 0 rfl rfl 2 (by decide) k_19 (fun _ h9 => h9) rfl hin rfl (by decide +kernel) rfl rfl (Nat.le_of_ble_eq_true rfl) dX3_init_20 (fun H locs hP hD hS => ?_)
  have hP : va_P (dC, dI) vwCl [(h0, .inr (2, [.int (nI 16), .ref a1, .ref a2, .null, .null, .null, .null, .null])), (a1, .inl (cI, 16, .inl (qS (fun _ => 0#8)))), (a2, .inl (cZ, 16, .inl (qZ (fun _ => false))))] H := hP
  have hD : va_D A [(h0, .inr (2, [.int (nI 16), .ref a1, .ref a2, .null, .null, .null, .null, .null])), (a1, .inl (cI, 16, .inl (qS (fun _ => 0#8)))), (a2, .inl (cZ, 16, .inl (qZ (fun _ => false))))] := hD
  refine lv_aload_n hx hb dX3_init_23 rfl (lv_at hl 0 rfl) ?_
  refine lv_iload_n hx hb dX3_init_24 rfl (lv_at hl 1 rfl) ?_
  refine va_newa (atype := .int) (ty := .int) (a0 := (16, .inl (qS (fun _ => 0#8)))) (N' := 16) hx hb (hts (.arrayClass .int) (by decide +kernel)) rfl hK hP hD hS hA (qa_zS 16) (nI_pos (by omega)) (nI_clamp (by omega)) (by decide +kernel) (Nat.le_of_ble_eq_true rfl) (Nat.le_of_ble_eq_true rfl) dX3_init_25 (fun a3 cA9 H hK hP hD hS => ?_)
  refine W.widen (k := 3) (n := 48) (by omega) (by omega) ?_
  have e9 := (qa_same hK 0 2 rfl rfl (fun _ h => by cases h)).symm
  subst e9
  have hK := hK.sub (tys' := [(cI, .int), (cZ, .boolean)]) [0, 1] rfl
  have hK : va_K (dC, dI) vwCl [(cI, .int), (cZ, .boolean)] s := hK
  have hP : va_P (dC, dI) vwCl [(h0, .inr (2, [.int (nI 16), .ref a1, .ref a2, .null, .null, .null, .null, .null])), (a1, .inl (cI, 16, .inl (qS (fun _ => 0#8)))), (a2, .inl (cZ, 16, .inl (qZ (fun _ => false)))), (a3, .inl (cI, 16, .inl (qS (fun _ => 0#8))))] H := hP
  have hD : va_D A [(h0, .inr (2, [.int (nI 16), .ref a1, .ref a2, .null, .null, .null, .null, .null])), (a1, .inl (cI, 16, .inl (qS (fun _ => 0#8)))), (a2, .inl (cZ, 16, .inl (qZ (fun _ => false)))), (a3, .inl (cI, 16, .inl (qS (fun _ => 0#8))))] := hD
  refine va_putF (D := (dC, dI)) (ci := 2) (v := .ref a3) (ty := .array .int) (C := RX3) (T := TX3) (N := 8) hx hb hts i_X3 tyX3 tyX3_ok nmX3 hown hK hP hD hS 0 rfl rfl 3 (by decide) k_23 (fun _ h9 => h9) rfl hin rfl (by decide +kernel) rfl rfl (Nat.le_of_ble_eq_true rfl) dX3_init_27 (fun H locs hP hD hS => ?_)
  have hP : va_P (dC, dI) vwCl [(h0, .inr (2, [.int (nI 16), .ref a1, .ref a2, .ref a3, .null, .null, .null, .null])), (a1, .inl (cI, 16, .inl (qS (fun _ => 0#8)))), (a2, .inl (cZ, 16, .inl (qZ (fun _ => false)))), (a3, .inl (cI, 16, .inl (qS (fun _ => 0#8))))] H := hP
  have hD : va_D A [(h0, .inr (2, [.int (nI 16), .ref a1, .ref a2, .ref a3, .null, .null, .null, .null])), (a1, .inl (cI, 16, .inl (qS (fun _ => 0#8)))), (a2, .inl (cZ, 16, .inl (qZ (fun _ => false)))), (a3, .inl (cI, 16, .inl (qS (fun _ => 0#8))))] := hD
  refine lv_aload_n hx hb dX3_init_30 rfl (lv_at hl 0 rfl) ?_
  refine lv_iconst (v := nI 4) hx hb dX3_init_31 (by decide) ?_
  refine va_newa (atype := .int) (ty := .int) (a0 := (4, .inl (qS (fun _ => 0#8)))) (N' := 4) hx hb (hts (.arrayClass .int) (by decide +kernel)) rfl hK hP hD hS hA (qa_zS 4) (nI_pos (by omega)) (nI_clamp (by omega)) (by decide +kernel) (Nat.le_of_ble_eq_true rfl) (Nat.le_of_ble_eq_true rfl) dX3_init_32 (fun a4 cA9 H hK hP hD hS => ?_)
  refine W.widen (k := 4) (n := 52) (by omega) (by omega) ?_
  have e9 := (qa_same hK 0 2 rfl rfl (fun _ h => by cases h)).symm
  subst e9
  have hK := hK.sub (tys' := [(cI, .int), (cZ, .boolean)]) [0, 1] rfl
  have hK : va_K (dC, dI) vwCl [(cI, .int), (cZ, .boolean)] s := hK
  have hP : va_P (dC, dI) vwCl [(h0, .inr (2, [.int (nI 16), .ref a1, .ref a2, .ref a3, .null, .null, .null, .null])), (a1, .inl (cI, 16, .inl (qS (fun _ => 0#8)))), (a2, .inl (cZ, 16, .inl (qZ (fun _ => false)))), (a3, .inl (cI, 16, .inl (qS (fun _ => 0#8)))), (a4, .inl (cI, 4, .inl (qS (fun _ => 0#8))))] H := hP
  have hD : va_D A [(h0, .inr (2, [.int (nI 16), .ref a1, .ref a2, .ref a3, .null, .null, .null, .null])), (a1, .inl (cI, 16, .inl (qS (fun _ => 0#8)))), (a2, .inl (cZ, 16, .inl (qZ (fun _ => false)))), (a3, .inl (cI, 16, .inl (qS (fun _ => 0#8)))), (a4, .inl (cI, 4, .inl (qS (fun _ => 0#8))))] := hD
  refine va_putF (D := (dC, dI)) (ci := 2) (v := .ref a4) (ty := .array .int) (C := RX3) (T := TX3) (N := 8) hx hb hts i_X3 tyX3 tyX3_ok nmX3 hown hK hP hD hS 0 rfl rfl 4 (by decide) k_26 (fun _ h9 => h9) rfl hin rfl (by decide +kernel) rfl rfl (Nat.le_of_ble_eq_true rfl) dX3_init_34 (fun H locs hP hD hS => ?_)
  have hP : va_P (dC, dI) vwCl [(h0, .inr (2, [.int (nI 16), .ref a1, .ref a2, .ref a3, .ref a4, .null, .null, .null])), (a1, .inl (cI, 16, .inl (qS (fun _ => 0#8)))), (a2, .inl (cZ, 16, .inl (qZ (fun _ => false)))), (a3, .inl (cI, 16, .inl (qS (fun _ => 0#8)))), (a4, .inl (cI, 4, .inl (qS (fun _ => 0#8))))] H := hP
  have hD : va_D A [(h0, .inr (2, [.int (nI 16), .ref a1, .ref a2, .ref a3, .ref a4, .null, .null, .null])), (a1, .inl (cI, 16, .inl (qS (fun _ => 0#8)))), (a2, .inl (cZ, 16, .inl (qZ (fun _ => false)))), (a3, .inl (cI, 16, .inl (qS (fun _ => 0#8)))), (a4, .inl (cI, 4, .inl (qS (fun _ => 0#8))))] := hD
  refine lv_aload_n hx hb dX3_init_37 rfl (lv_at hl 0 rfl) ?_
  refine lv_iconst (v := nI 4) hx hb dX3_init_38 (by decide) ?_
  refine va_newa (atype := .int) (ty := .int) (a0 := (4, .inl (qN (fun _ => 0)))) (N' := 4) hx hb (hts (.arrayClass .int) (by decide +kernel)) rfl hK hP hD hS hA (qa_zN 4) (nI_pos (by omega)) (nI_clamp (by omega)) (by decide +kernel) (Nat.le_of_ble_eq_true rfl) (Nat.le_of_ble_eq_true rfl) dX3_init_39 (fun a5 cA9 H hK hP hD hS => ?_)
  refine W.widen (k := 5) (n := 56) (by omega) (by omega) ?_
  have e9 := (qa_same hK 0 2 rfl rfl (fun _ h => by cases h)).symm
  subst e9
  have hK := hK.sub (tys' := [(cI, .int), (cZ, .boolean)]) [0, 1] rfl
  have hK : va_K (dC, dI) vwCl [(cI, .int), (cZ, .boolean)] s := hK
  have hP : va_P (dC, dI) vwCl [(h0, .inr (2, [.int (nI 16), .ref a1, .ref a2, .ref a3, .ref a4, .null, .null, .null])), (a1, .inl (cI, 16, .inl (qS (fun _ => 0#8)))), (a2, .inl (cZ, 16, .inl (qZ (fun _ => false)))), (a3, .inl (cI, 16, .inl (qS (fun _ => 0#8)))), (a4, .inl (cI, 4, .inl (qS (fun _ => 0#8)))), (a5, .inl (cI, 4, .inl (qN (fun _ => 0))))] H := hP
  have hD : va_D A [(h0, .inr (2, [.int (nI 16), .ref a1, .ref a2, .ref a3, .ref a4, .null, .null, .null])), (a1, .inl (cI, 16, .inl (qS (fun _ => 0#8)))), (a2, .inl (cZ, 16, .inl (qZ (fun _ => false)))), (a3, .inl (cI, 16, .inl (qS (fun _ => 0#8)))), (a4, .inl (cI, 4, .inl (qS (fun _ => 0#8)))), (a5, .inl (cI, 4, .inl (qN (fun _ => 0))))] := hD
  refine va_putF (D := (dC, dI)) (ci := 2) (v := .ref a5) (ty := .array .int) (C := RX3) (T := TX3) (N := 8) hx hb hts i_X3 tyX3 tyX3_ok nmX3 hown hK hP hD hS 0 rfl rfl 5 (by decide) k_29 (fun _ h9 => h9) rfl hin rfl (by decide +kernel) rfl rfl (Nat.le_of_ble_eq_true rfl) dX3_init_41 (fun H locs hP hD hS => ?_)
  have hP : va_P (dC, dI) vwCl [(h0, .inr (2, [.int (nI 16), .ref a1, .ref a2, .ref a3, .ref a4, .ref a5, .null, .null])), (a1, .inl (cI, 16, .inl (qS (fun _ => 0#8)))), (a2, .inl (cZ, 16, .inl (qZ (fun _ => false)))), (a3, .inl (cI, 16, .inl (qS (fun _ => 0#8)))), (a4, .inl (cI, 4, .inl (qS (fun _ => 0#8)))), (a5, .inl (cI, 4, .inl (qN (fun _ => 0))))] H := hP
  have hD : va_D A [(h0, .inr (2, [.int (nI 16), .ref a1, .ref a2, .ref a3, .ref a4, .ref a5, .null, .null])), (a1, .inl (cI, 16, .inl (qS (fun _ => 0#8)))), (a2, .inl (cZ, 16, .inl (qZ (fun _ => false)))), (a3, .inl (cI, 16, .inl (qS (fun _ => 0#8)))), (a4, .inl (cI, 4, .inl (qS (fun _ => 0#8)))), (a5, .inl (cI, 4, .inl (qN (fun _ => 0))))] := hD
  refine lv_aload_n hx hb dX3_init_44 rfl (lv_at hl 0 rfl) ?_
  refine lv_iconst (v := nI 4) hx hb dX3_init_45 (by decide) ?_
  refine va_newa (atype := .int) (ty := .int) (a0 := (4, .inl (qS (fun _ => 0#8)))) (N' := 4) hx hb (hts (.arrayClass .int) (by decide +kernel)) rfl hK hP hD hS hA (qa_zS 4) (nI_pos (by omega)) (nI_clamp (by omega)) (by decide +kernel) (Nat.le_of_ble_eq_true rfl) (Nat.le_of_ble_eq_true rfl) dX3_init_46 (fun a6 cA9 H hK hP hD hS => ?_)
  refine W.widen (k := 6) (n := 60) (by omega) (by omega) ?_
  have e9 := (qa_same hK 0 2 rfl rfl (fun _ h => by cases h)).symm
  subst e9
  have hK := hK.sub (tys' := [(cI, .int), (cZ, .boolean)]) [0, 1] rfl
  have hK : va_K (dC, dI) vwCl [(cI, .int), (cZ, .boolean)] s := hK
  have hP : va_P (dC, dI) vwCl [(h0, .inr (2, [.int (nI 16), .ref a1, .ref a2, .ref a3, .ref a4, .ref a5, .null, .null])), (a1, .inl (cI, 16, .inl (qS (fun _ => 0#8)))), (a2, .inl (cZ, 16, .inl (qZ (fun _ => false)))), (a3, .inl (cI, 16, .inl (qS (fun _ => 0#8)))), (a4, .inl (cI, 4, .inl (qS (fun _ => 0#8)))), (a5, .inl (cI, 4, .inl (qN (fun _ => 0)))), (a6, .inl (cI, 4, .inl (qS (fun _ => 0#8))))] H := hP
  have hD : va_D A [(h0, .inr (2, [.int (nI 16), .ref a1, .ref a2, .ref a3, .ref a4, .ref a5, .null, .null])), (a1, .inl (cI, 16, .inl (qS (fun _ => 0#8)))), (a2, .inl (cZ, 16, .inl (qZ (fun _ => false)))), (a3, .inl (cI, 16, .inl (qS (fun _ => 0#8)))), (a4, .inl (cI, 4, .inl (qS (fun _ => 0#8)))), (a5, .inl (cI, 4, .inl (qN (fun _ => 0)))), (a6, .inl (cI, 4, .inl (qS (fun _ => 0#8))))] := hD
  refine va_putF (D := (dC, dI)) (ci := 2) (v := .ref a6) (ty := .array .int) (C := RX3) (T := TX3) (N := 8) hx hb hts i_X3 tyX3 tyX3_ok nmX3 hown hK hP hD hS 0 rfl rfl 6 (by decide) k_32 (fun _ h9 => h9) rfl hin rfl (by decide +kernel) rfl rfl (Nat.le_of_ble_eq_true rfl) dX3_init_48 (fun H locs hP hD hS => ?_)
  have hP : va_P (dC, dI) vwCl [(h0, .inr (2, [.int (nI 16), .ref a1, .ref a2, .ref a3, .ref a4, .ref a5, .ref a6, .null])), (a1, .inl (cI, 16, .inl (qS (fun _ => 0#8)))), (a2, .inl (cZ, 16, .inl (qZ (fun _ => false)))), (a3, .inl (cI, 16, .inl (qS (fun _ => 0#8)))), (a4, .inl (cI, 4, .inl (qS (fun _ => 0#8)))), (a5, .inl (cI, 4, .inl (qN (fun _ => 0)))), (a6, .inl (cI, 4, .inl (qS (fun _ => 0#8))))] H := hP
  have hD : va_D A [(h0, .inr (2, [.int (nI 16), .ref a1, .ref a2, .ref a3, .ref a4, .ref a5, .ref a6, .null])), (a1, .inl (cI, 16, .inl (qS (fun _ => 0#8)))), (a2, .inl (cZ, 16, .inl (qZ (fun _ => false)))), (a3, .inl (cI, 16, .inl (qS (fun _ => 0#8)))), (a4, .inl (cI, 4, .inl (qS (fun _ => 0#8)))), (a5, .inl (cI, 4, .inl (qN (fun _ => 0)))), (a6, .inl (cI, 4, .inl (qS (fun _ => 0#8))))] := hD
  refine lv_aload_n hx hb dX3_init_51 rfl (lv_at hl 0 rfl) ?_
  refine lv_iconst (v := nI 4) hx hb dX3_init_52 (by decide) ?_
  refine va_newa (atype := .int) (ty := .int) (a0 := (4, .inl (qS (fun _ => 0#8)))) (N' := 4) hx hb (hts (.arrayClass .int) (by decide +kernel)) rfl hK hP hD hS hA (qa_zS 4) (nI_pos (by omega)) (nI_clamp (by omega)) (by decide +kernel) (Nat.le_of_ble_eq_true rfl) (Nat.le_of_ble_eq_true rfl) dX3_init_53 (fun a7 cA9 H hK hP hD hS => ?_)
  refine W.widen (k := 7) (n := 64) (by omega) (by omega) ?_
  have e9 := (qa_same hK 0 2 rfl rfl (fun _ h => by cases h)).symm
  subst e9
  have hK := hK.sub (tys' := [(cI, .int), (cZ, .boolean)]) [0, 1] rfl
  have hK : va_K (dC, dI) vwCl [(cI, .int), (cZ, .boolean)] s := hK
  have hP : va_P (dC, dI) vwCl [(h0, .inr (2, [.int (nI 16), .ref a1, .ref a2, .ref a3, .ref a4, .ref a5, .ref a6, .null])), (a1, .inl (cI, 16, .inl (qS (fun _ => 0#8)))), (a2, .inl (cZ, 16, .inl (qZ (fun _ => false)))), (a3, .inl (cI, 16, .inl (qS (fun _ => 0#8)))), (a4, .inl (cI, 4, .inl (qS (fun _ => 0#8)))), (a5, .inl (cI, 4, .inl (qN (fun _ => 0)))), (a6, .inl (cI, 4, .inl (qS (fun _ => 0#8)))), (a7, .inl (cI, 4, .inl (qS (fun _ => 0#8))))] H := hP
  have hD : va_D A [(h0, .inr (2, [.int (nI 16), .ref a1, .ref a2, .ref a3, .ref a4, .ref a5, .ref a6, .null])), (a1, .inl (cI, 16, .inl (qS (fun _ => 0#8)))), (a2, .inl (cZ, 16, .inl (qZ (fun _ => false)))), (a3, .inl (cI, 16, .inl (qS (fun _ => 0#8)))), (a4, .inl (cI, 4, .inl (qS (fun _ => 0#8)))), (a5, .inl (cI, 4, .inl (qN (fun _ => 0)))), (a6, .inl (cI, 4, .inl (qS (fun _ => 0#8)))), (a7, .inl (cI, 4, .inl (qS (fun _ => 0#8))))] := hD
  refine va_putF (D := (dC, dI)) (ci := 2) (v := .ref a7) (ty := .array .int) (C := RX3) (T := TX3) (N := 8) hx hb hts i_X3 tyX3 tyX3_ok nmX3 hown hK hP hD hS 0 rfl rfl 7 (by decide) k_35 (fun _ h9 => h9) rfl hin rfl (by decide +kernel) rfl rfl (Nat.le_of_ble_eq_true rfl) dX3_init_55 (fun H locs hP hD hS => ?_)
  have hP : va_P (dC, dI) vwCl [(h0, .inr (2, [.int (nI 16), .ref a1, .ref a2, .ref a3, .ref a4, .ref a5, .ref a6, .ref a7])), (a1, .inl (cI, 16, .inl (qS (fun _ => 0#8)))), (a2, .inl (cZ, 16, .inl (qZ (fun _ => false)))), (a3, .inl (cI, 16, .inl (qS (fun _ => 0#8)))), (a4, .inl (cI, 4, .inl (qS (fun _ => 0#8)))), (a5, .inl (cI, 4, .inl (qN (fun _ => 0)))), (a6, .inl (cI, 4, .inl (qS (fun _ => 0#8)))), (a7, .inl (cI, 4, .inl (qS (fun _ => 0#8))))] H := hP
  have hD : va_D A [(h0, .inr (2, [.int (nI 16), .ref a1, .ref a2, .ref a3, .ref a4, .ref a5, .ref a6, .ref a7])), (a1, .inl (cI, 16, .inl (qS (fun _ => 0#8)))), (a2, .inl (cZ, 16, .inl (qZ (fun _ => false)))), (a3, .inl (cI, 16, .inl (qS (fun _ => 0#8)))), (a4, .inl (cI, 4, .inl (qS (fun _ => 0#8)))), (a5, .inl (cI, 4, .inl (qN (fun _ => 0)))), (a6, .inl (cI, 4, .inl (qS (fun _ => 0#8)))), (a7, .inl (cI, 4, .inl (qS (fun _ => 0#8))))] := hD
  refine lv_iconst (v := sI 1#8) hx hb dX3_init_58 (by decide) ?_
  refine lv_istore_n (lv' := [(2, .int (sI 1#8)), (0, .ref h0), (1, .int (nI 16))]) hx hb dX3_init_59 rfl hl (by decide) rfl (fun ls hl => ?_)
  refine lv_iload_n hx hb dX3_init_60 rfl (lv_at hl 2 rfl) ?_
  refine lv_iconst (v := nI 1) hx hb dX3_init_61 (by decide) ?_
  refine qr_isub (z := nI 16 - nI 1) hx hb dX3_init_62 rfl ?_
  refine lv_istore_n (lv' := [(3, .int (nI 16 - nI 1)), (2, .int (sI 1#8)), (0, .ref h0), (1, .int (nI 16))]) hx hb dX3_init_63 rfl hl (by decide) rfl (fun ls hl => ?_)
  obtain ⟨hP, hD⟩ := qr_same (g := qS (qm_lo 16 16)) hP hD 3 rfl (fun j hj => congrArg sI (qm_lo_n 16 hj))
  have hP : va_P (dC, dI) vwCl [(h0, .inr (2, [.int (nI 16), .ref a1, .ref a2, .ref a3, .ref a4, .ref a5, .ref a6, .ref a7])), (a1, .inl (cI, 16, .inl (qS (fun _ => 0#8)))), (a2, .inl (cZ, 16, .inl (qZ (fun _ => false)))), (a3, .inl (cI, 16, .inl (qS (qm_lo 16 16)))), (a4, .inl (cI, 4, .inl (qS (fun _ => 0#8)))), (a5, .inl (cI, 4, .inl (qN (fun _ => 0)))), (a6, .inl (cI, 4, .inl (qS (fun _ => 0#8)))), (a7, .inl (cI, 4, .inl (qS (fun _ => 0#8))))] H := hP
  have hD : va_D A [(h0, .inr (2, [.int (nI 16), .ref a1, .ref a2, .ref a3, .ref a4, .ref a5, .ref a6, .ref a7])), (a1, .inl (cI, 16, .inl (qS (fun _ => 0#8)))), (a2, .inl (cZ, 16, .inl (qZ (fun _ => false)))), (a3, .inl (cI, 16, .inl (qS (qm_lo 16 16)))), (a4, .inl (cI, 4, .inl (qS (fun _ => 0#8)))), (a5, .inl (cI, 4, .inl (qN (fun _ => 0)))), (a6, .inl (cI, 4, .inl (qS (fun _ => 0#8)))), (a7, .inl (cI, 4, .inl (qS (fun _ => 0#8))))] := hD
  have lp64 : ∀ (k i : Nat), i = k → ∀  (ls : Array Slot) (H : Heap) (locs : List Loc), lv_has ls 4 [(0, .ref h0), (1, .int (nI 16)), (2, .int (sI (qf_E (16 - i)))), (3, .int (nI i - nI 1))] → va_P (dC, dI) vwCl [(h0, .inr (2, [.int (nI 16), .ref a1, .ref a2, .ref a3, .ref a4, .ref a5, .ref a6, .ref a7])), (a1, .inl (cI, 16, .inl (qS (fun _ => 0#8)))), (a2, .inl (cZ, 16, .inl (qZ (fun _ => false)))), (a3, .inl (cI, 16, .inl (qS (qm_lo 16 i)))), (a4, .inl (cI, 4, .inl (qS (fun _ => 0#8)))), (a5, .inl (cI, 4, .inl (qN (fun _ => 0)))), (a6, .inl (cI, 4, .inl (qS (fun _ => 0#8)))), (a7, .inl (cI, 4, .inl (qS (fun _ => 0#8))))] H → va_D A [(h0, .inr (2, [.int (nI 16), .ref a1, .ref a2, .ref a3, .ref a4, .ref a5, .ref a6, .ref a7])), (a1, .inl (cI, 16, .inl (qS (fun _ => 0#8)))), (a2, .inl (cZ, 16, .inl (qZ (fun _ => false)))), (a3, .inl (cI, 16, .inl (qS (qm_lo 16 i)))), (a4, .inl (cI, 4, .inl (qS (fun _ => 0#8)))), (a5, .inl (cI, 4, .inl (qN (fun _ => 0)))), (a6, .inl (cI, 4, .inl (qS (fun _ => 0#8)))), (a7, .inl (cI, 4, .inl (qS (fun _ => 0#8))))] → va_S A s.heap H locs → i ≤ 16 → W p l e (headSpec wsX3_init ({ frames := 1, cells := 7, slots := 64, locals := 40 } : Room)).room s m ([.ref h0, .int (nI 16)] : List Value).toArray below meth c H locs 7 64 Q (F0 m 64 ls []) := by
    intro k
    induction k with
    | zero =>
      intro i hi  ls H locs hl hP hD hS hin0
      subst hi
      refine lv_iload_n hx hb dX3_init_64 rfl (lv_at hl 3 rfl) ?_
      refine lv_if_lt (tgt := 87) hx hb dX3_init_65 rfl  (fun b65 => ?_) (fun h => absurd (show nI 0 - nI 1 < 0 by decide) h)
      subst hQ
      exact W.vret hx hb hr (fun t ht hW => ⟨⟨(cI, cZ, a1, a2, a3, a4, a5, a6, a7), rfl, trivial, by rw [ht]; exact hP, va_K.moved hW.alike hK, hD⟩, hS.F ht⟩) hS.2.2 dX3_init_87
    | succ k ih =>
      intro i hi  ls H locs hl hP hD hS hin0
      subst hi
      rw [qm_dec2 k] at hl
      refine lv_iload_n hx hb dX3_init_64 rfl (lv_at hl 3 rfl) ?_
      refine lv_if_lt (tgt := 87) hx hb dX3_init_65 rfl  (fun h => absurd h (nI_pos (by omega))) (fun b65 => ?_)
      refine lv_aload_n hx hb dX3_init_68 rfl (lv_at hl 0 rfl) ?_
      refine va_get (D := (dC, dI)) (ci := 2) (v := .ref a3) (C := RX3) (T := TX3) (N := 8) hx hb hts i_X3 hown hK hP 0 rfl rfl 3 (by decide) k_23 (fun _ h9 => h9) rfl dX3_init_69 ?_
      refine lv_iload_n hx hb dX3_init_72 rfl (lv_at hl 3 rfl) ?_
      refine lv_iload_n hx hb dX3_init_73 rfl (lv_at hl 2 rfl) ?_
      refine qr_istS (x := qf_E (16 - (k + 1))) hx hb hK hP hD hS 3 0 rfl rfl (by omega) (by omega) dX3_init_74 (fun H locs hP hD hS => ?_)
      have hP : va_P (dC, dI) vwCl [(h0, .inr (2, [.int (nI 16), .ref a1, .ref a2, .ref a3, .ref a4, .ref a5, .ref a6, .ref a7])), (a1, .inl (cI, 16, .inl (qS (fun _ => 0#8)))), (a2, .inl (cZ, 16, .inl (qZ (fun _ => false)))), (a3, .inl (cI, 16, .inl (qS (va_up (qm_lo 16 (k + 1)) k (qf_E (16 - (k + 1))))))), (a4, .inl (cI, 4, .inl (qS (fun _ => 0#8)))), (a5, .inl (cI, 4, .inl (qN (fun _ => 0)))), (a6, .inl (cI, 4, .inl (qS (fun _ => 0#8)))), (a7, .inl (cI, 4, .inl (qS (fun _ => 0#8))))] H := hP
      have hD : va_D A [(h0, .inr (2, [.int (nI 16), .ref a1, .ref a2, .ref a3, .ref a4, .ref a5, .ref a6, .ref a7])), (a1, .inl (cI, 16, .inl (qS (fun _ => 0#8)))), (a2, .inl (cZ, 16, .inl (qZ (fun _ => false)))), (a3, .inl (cI, 16, .inl (qS (va_up (qm_lo 16 (k + 1)) k (qf_E (16 - (k + 1))))))), (a4, .inl (cI, 4, .inl (qS (fun _ => 0#8)))), (a5, .inl (cI, 4, .inl (qN (fun _ => 0)))), (a6, .inl (cI, 4, .inl (qS (fun _ => 0#8)))), (a7, .inl (cI, 4, .inl (qS (fun _ => 0#8))))] := hD
      refine lv_iload_n hx hb dX3_init_75 rfl (lv_at hl 2 rfl) ?_
      refine lv_iconst (v := sI 2#8) hx hb dX3_init_76 (by decide) ?_
      refine vp_callSi (va_Run.run (va_runS (As := [.int (sI (qf_E (16 - (k + 1)))), .int (sI 2#8)]) (rest := []) ⟨hx, hb, hml, hown, hts⟩ (qc_times l (qf_E (16 - (k + 1))) 2#8 ) (va_cwS 2 hts gX3_init_X1_times rfl rfl rfl (by decide +kernel) ⟨Nat.le_of_ble_eq_true rfl, Nat.le_of_ble_eq_true rfl⟩) ⟨fun a U g mk q => q, fun U hU hW => ⟨rfl, trivial⟩⟩ rfl rfl hl.1 rfl (lv_room (Nat.le_of_ble_eq_true rfl)) dX3_init_77 ⟨Nat.le_of_ble_eq_true rfl, Nat.le_of_ble_eq_true rfl⟩)) (fun rv77 hr77 => ?_)
      have hr77 : rv77 = sI (qf_m (qf_E (16 - (k + 1))) 2#8) := hr77
      subst hr77
      refine lv_istore_n (lv' := [(2, .int (sI (qf_m (qf_E (16 - (k + 1))) 2#8))), (0, .ref h0), (1, .int (nI 16)), (3, .int (nI k))]) hx hb dX3_init_80 rfl hl (by decide) rfl (fun ls hl => ?_)
      refine lv_iinc (k := 3) (v := nI k - nI 1) (lv' := [(3, .int (nI k - nI 1)), (2, .int (sI (qf_m (qf_E (16 - (k + 1))) 2#8))), (0, .ref h0), (1, .int (nI 16))]) hx hb dX3_init_81 hl rfl (qm_dec1 k) (by decide) rfl (fun ls hl => ?_)
      refine lv_goto (tgt := 64) hx hb dX3_init_84 rfl ?_
      have hl := lv_sub (l' := [(0, .ref h0), (1, .int (nI 16)), (2, .int (sI (qf_m (qf_E (16 - (k + 1))) 2#8))), (3, .int (nI k - nI 1))]) hl [2, 3, 1, 0] rfl
      have e1 : qf_E (16 - k) = qf_m (qf_E (16 - (k + 1))) 2#8 := qm_lo_E 16 (by omega)
      have e2 : qm_lo 16 k = va_up (qm_lo 16 (k + 1)) k (qf_E (16 - (k + 1))) := qm_lo_s 16 (by omega)
      exact ih k rfl  ls H _ (by rw [e1]; exact hl) (by rw [e2]; exact hP) (by rw [e2]; exact hD) hS (by omega)
  have hl := lv_sub (l' := [(0, .ref h0), (1, .int (nI 16)), (2, .int (sI 1#8)), (3, .int (nI 16 - nI 1))]) hl [2, 3, 1, 0] rfl
  exact lp64 16 16 rfl  ls H _ hl hP hD hS (by omega)
set_option maxHeartbeats 4000000 in
set_option maxRecDepth 100000 in
/-- Writer() -/
theorem qc_writerI (l : Launch) (dC : Nat → ClassId) (dI : Nat → Nat → Nat) (cI : ClassId) (w0 d0 i0 o0 : Nat) (sz : Nat)  : Met l yX4_init wsX4_init ({ frames := 1, cells := 50, slots := 640, locals := 40 } : Room) (va_Pc [.ref w0, .ref d0, .ref i0, .ref o0] (fun U => U.heap.size = sz ∧ va_P (dC, dI) vwCl [(w0, .inr (3, [.null, .null, .null, .null, .null]))] U.heap ∧ va_K (dC, dI) vwCl [(cI, .int)] U ∧ va_D (fun _ => True) [(w0, .inr (3, [.null, .null, .null, .null, .null]))] ∧ qv_P U)) (va_Qv (fun (u : ClassId × Nat × Nat × (Nat → Nat)) => True) (fun u t => va_P (dC, dI) vwCl ([(w0, .inr (3, [.ref d0, .ref i0, .ref o0, .ref u.2.1, .ref u.2.2.1])), (u.2.1, .inl (u.1, 48, .inr (.inr (.inr (.inr (fun i => some (u.2.2.2 i))))))), (u.2.2.1, .inl (cI, 16, .inl (qS (fun _ => 0#8))))] ++ qP cI u.2.2.2 (fun _ _ => 0#8)) t.heap ∧ va_K (dC, dI) vwCl [(cI, .int), (u.1, .array .int)] t ∧ va_D (va_A [(w0, .inr (3, [.null, .null, .null, .null, .null]))] sz) ([(w0, .inr (3, [.ref d0, .ref i0, .ref o0, .ref u.2.1, .ref u.2.2.1])), (u.2.1, .inl (u.1, 48, .inr (.inr (.inr (.inr (fun i => some (u.2.2.2 i))))))), (u.2.2.1, .inl (cI, 16, .inl (qS (fun _ => 0#8))))] ++ qP cI u.2.2.2 (fun _ _ => 0#8))) (va_A [(w0, .inr (3, [.null, .null, .null, .null, .null]))] sz)) 50 640 (va_A [(w0, .inr (3, [.null, .null, .null, .null, .null]))] sz) := by
  refine Met.ofW (cc := cX4_init) (maxL := 4) (ret := none) (by decide) rfl ?_
  intro p e s m args below meth c s₁ B hml hv
  obtain ⟨rfl, hsz, hP, hK, hD0, hN⟩ := hv
  have hx := B.exec
  have hb := B.bytes
  have hr := B.returns
  have hts := atoms_spec (ws := wsX4_init) B.pre
  have hown : s.vm.findClass RX4 = some m.cls := findClass_of_methodNamed B.named
  have hlocks := B.notSynchronized
  have hin : meth.name = "<init>" := (name_of_methodNamed B.named B.method).1
  subst hsz
  have hD := hD0.self (sz := s.heap.size)
  generalize hAe : va_A [(w0, .inr (3, [.null, .null, .null, .null, .null]))] s.heap.size = A at hD ⊢
  have hA : ∀ q : Nat, s.heap.size ≤ q → A q := fun q h => by rw [← hAe]; exact Or.inr h
  have hS : va_S A s.heap s.heap [] := va_S.rf
  have hP : va_P (dC, dI) vwCl [(w0, .inr (3, [.null, .null, .null, .null, .null]))] s.heap := hP
  have hl := lv_entry ([.ref w0, .ref d0, .ref i0, .ref o0]) (n := 4) (Nat.le_of_ble_eq_true rfl)
  rw [lg_entry_eq]
  generalize (lg_sl ([.ref w0, .ref d0, .ref i0, .ref o0]) ++ List.replicate (4 - (lg_sl ([.ref w0, .ref d0, .ref i0, .ref o0])).length) Slot.unset).toArray = ls at hl ⊢
  have hl : lv_has ls 4 [(0, .ref w0), (1, .ref d0), (2, .ref i0), (3, .ref o0)] := hl
  have k_9 := hts (.fieldLink RX4 9 "DiscCoder$Writer" "disc" "LDiscCoder$Disc;") (by decide +kernel)
  have k_15 := hts (.fieldLink RX4 15 "DiscCoder$Writer" "inner" "LDiscCoder$Word;") (by decide +kernel)
  have k_19 := hts (.fieldLink RX4 19 "DiscCoder$Writer" "outer" "LDiscCoder$Word;") (by decide +kernel)
  have k_24 := hts (.fieldLink RX4 24 "DiscCoder$Writer" "innerWords" "[[I") (by decide +kernel)
  have k_27 := hts (.fieldLink RX4 27 "DiscCoder$Writer" "outerBefore" "[I") (by decide +kernel)
  have i_X4 : ∀ w ∈ u_ws RX4 TX4 5, w ∈ wsX4_init := by decide +kernel
  refine qr_nm (fun Q hQ => ?_)
  refine lv_aload_n hx hb dX4_init_0 rfl (lv_at hl 0 rfl) ?_
  refine W.objInit hx hb hown (hts (.methodLink RX4 3 objectInit) (by decide +kernel)) (hts (.instanceMethod objectInit) (by decide +kernel)) (hts (.code objectInit ⟨#[0xb1]⟩ 1 none) (by decide +kernel)) rfl (by rw [hml]; exact hl.1) rfl dX4_init_1 (Nat.le_of_ble_eq_true rfl) (Nat.le_of_ble_eq_true rfl) ?_
  refine W.eq (g2 := F0 m 4 ls []) rfl ?_
  refine lv_aload_n hx hb dX4_init_4 rfl (lv_at hl 0 rfl) ?_
  refine lv_aload_n hx hb dX4_init_5 rfl (lv_at hl 1 rfl) ?_
  refine va_putF (D := (dC, dI)) (ci := 3) (v := .ref d0) (ty := .object "DiscCoder$Disc") (C := RX4) (T := TX4) (N := 5) hx hb hts i_X4 tyX4 tyX4_ok nmX4 hown hK hP hD hS 0 rfl rfl 0 (by decide) k_9 (fun _ h9 => h9) rfl hin rfl (by decide +kernel) rfl rfl (Nat.le_of_ble_eq_true rfl) dX4_init_6 (fun H locs hP hD hS => ?_)
  have hP : va_P (dC, dI) vwCl [(w0, .inr (3, [.ref d0, .null, .null, .null, .null]))] H := hP
  have hD : va_D A [(w0, .inr (3, [.ref d0, .null, .null, .null, .null]))] := hD
  refine lv_aload_n hx hb dX4_init_9 rfl (lv_at hl 0 rfl) ?_
  refine lv_aload_n hx hb dX4_init_10 rfl (lv_at hl 2 rfl) ?_
  refine va_putF (D := (dC, dI)) (ci := 3) (v := .ref i0) (ty := .object "DiscCoder$Word") (C := RX4) (T := TX4) (N := 5) hx hb hts i_X4 tyX4 tyX4_ok nmX4 hown hK hP hD hS 0 rfl rfl 1 (by decide) k_15 (fun _ h9 => h9) rfl hin rfl (by decide +kernel) rfl rfl (Nat.le_of_ble_eq_true rfl) dX4_init_11 (fun H locs hP hD hS => ?_)
  have hP : va_P (dC, dI) vwCl [(w0, .inr (3, [.ref d0, .ref i0, .null, .null, .null]))] H := hP
  have hD : va_D A [(w0, .inr (3, [.ref d0, .ref i0, .null, .null, .null]))] := hD
  refine lv_aload_n hx hb dX4_init_14 rfl (lv_at hl 0 rfl) ?_
  refine lv_aload_n hx hb dX4_init_15 rfl (lv_at hl 3 rfl) ?_
  refine va_putF (D := (dC, dI)) (ci := 3) (v := .ref o0) (ty := .object "DiscCoder$Word") (C := RX4) (T := TX4) (N := 5) hx hb hts i_X4 tyX4 tyX4_ok nmX4 hown hK hP hD hS 0 rfl rfl 2 (by decide) k_19 (fun _ h9 => h9) rfl hin rfl (by decide +kernel) rfl rfl (Nat.le_of_ble_eq_true rfl) dX4_init_16 (fun H locs hP hD hS => ?_)
  have hP : va_P (dC, dI) vwCl [(w0, .inr (3, [.ref d0, .ref i0, .ref o0, .null, .null]))] H := hP
  have hD : va_D A [(w0, .inr (3, [.ref d0, .ref i0, .ref o0, .null, .null]))] := hD
  refine lv_aload_n hx hb dX4_init_19 rfl (lv_at hl 0 rfl) ?_
  refine lv_bipush (v := nI 48) hx hb dX4_init_20 (by decide) ?_
  refine lv_bipush (v := nI 12) hx hb dX4_init_22 (by decide) ?_
  refine qv_mna (cI := cI) hx hb hown (va_Nw.use rfl hN.1) hN.2.2 (hts (.arrayClass .int) (by decide +kernel)) (hK.2 0 _ rfl).2 hK hP hD hS hA (Nat.le_of_ble_eq_true rfl) (Nat.le_of_ble_eq_true rfl) dX4_init_24 (fun w1 ra cG H hK hP hD hS => ?_)
  refine W.widen (k := 49) (n := 624) (by omega) (by omega) ?_
  have hK : va_K (dC, dI) vwCl [(cI, .int), (cG, .array .int)] s := hK
  have hP : va_P (dC, dI) vwCl ([(w0, .inr (3, [.ref d0, .ref i0, .ref o0, .null, .null])), (w1, .inl (cG, 48, .inr (.inr (.inr (.inr (fun i => some (ra i)))))))] ++ qP cI ra (fun _ _ => 0#8)) H := hP
  have hD : va_D A ([(w0, .inr (3, [.ref d0, .ref i0, .ref o0, .null, .null])), (w1, .inl (cG, 48, .inr (.inr (.inr (.inr (fun i => some (ra i)))))))] ++ qP cI ra (fun _ _ => 0#8)) := hD
  refine va_putF (D := (dC, dI)) (ci := 3) (v := .ref w1) (ty := .array (.array .int)) (C := RX4) (T := TX4) (N := 5) hx hb hts i_X4 tyX4 tyX4_ok nmX4 hown hK hP hD hS 0 rfl rfl 3 (by decide) k_24 (fun _ h9 => h9) rfl hin rfl (by decide +kernel) rfl rfl (Nat.le_of_ble_eq_true rfl) dX4_init_28 (fun H locs hP hD hS => ?_)
  have hP : va_P (dC, dI) vwCl ([(w0, .inr (3, [.ref d0, .ref i0, .ref o0, .ref w1, .null])), (w1, .inl (cG, 48, .inr (.inr (.inr (.inr (fun i => some (ra i)))))))] ++ qP cI ra (fun _ _ => 0#8)) H := hP
  have hD : va_D A ([(w0, .inr (3, [.ref d0, .ref i0, .ref o0, .ref w1, .null])), (w1, .inl (cG, 48, .inr (.inr (.inr (.inr (fun i => some (ra i)))))))] ++ qP cI ra (fun _ _ => 0#8)) := hD
  refine lv_aload_n hx hb dX4_init_31 rfl (lv_at hl 0 rfl) ?_
  refine lv_bipush (v := nI 16) hx hb dX4_init_32 (by decide) ?_
  refine va_newa (atype := .int) (ty := .int) (a0 := (16, .inl (qS (fun _ => 0#8)))) (N' := 16) hx hb (hts (.arrayClass .int) (by decide +kernel)) rfl hK hP hD hS hA (qa_zS 16) (nI_pos (by omega)) (nI_clamp (by omega)) (by decide +kernel) (Nat.le_of_ble_eq_true rfl) (Nat.le_of_ble_eq_true rfl) dX4_init_34 (fun w2 cA9 H hK hP hD hS => ?_)
  refine W.widen (k := 50) (n := 640) (by omega) (by omega) ?_
  have hP := va_P.swap hP
  have hD := va_D.swap hD
  have e9 := (qa_same hK 0 2 rfl rfl (fun _ h => by cases h)).symm
  subst e9
  have hK := hK.sub (tys' := [(cI, .int), (cG, .array .int)]) [0, 1] rfl
  have hK : va_K (dC, dI) vwCl [(cI, .int), (cG, .array .int)] s := hK
  have hP : va_P (dC, dI) vwCl ([(w0, .inr (3, [.ref d0, .ref i0, .ref o0, .ref w1, .null])), (w1, .inl (cG, 48, .inr (.inr (.inr (.inr (fun i => some (ra i))))))), (w2, .inl (cI, 16, .inl (qS (fun _ => 0#8))))] ++ qP cI ra (fun _ _ => 0#8)) H := hP
  have hD : va_D A ([(w0, .inr (3, [.ref d0, .ref i0, .ref o0, .ref w1, .null])), (w1, .inl (cG, 48, .inr (.inr (.inr (.inr (fun i => some (ra i))))))), (w2, .inl (cI, 16, .inl (qS (fun _ => 0#8))))] ++ qP cI ra (fun _ _ => 0#8)) := hD
  refine va_putF (D := (dC, dI)) (ci := 3) (v := .ref w2) (ty := .array .int) (C := RX4) (T := TX4) (N := 5) hx hb hts i_X4 tyX4 tyX4_ok nmX4 hown hK hP hD hS 0 rfl rfl 4 (by decide) k_27 (fun _ h9 => h9) rfl hin rfl (by decide +kernel) rfl rfl (Nat.le_of_ble_eq_true rfl) dX4_init_36 (fun H locs hP hD hS => ?_)
  have hP : va_P (dC, dI) vwCl ([(w0, .inr (3, [.ref d0, .ref i0, .ref o0, .ref w1, .ref w2])), (w1, .inl (cG, 48, .inr (.inr (.inr (.inr (fun i => some (ra i))))))), (w2, .inl (cI, 16, .inl (qS (fun _ => 0#8))))] ++ qP cI ra (fun _ _ => 0#8)) H := hP
  have hD : va_D A ([(w0, .inr (3, [.ref d0, .ref i0, .ref o0, .ref w1, .ref w2])), (w1, .inl (cG, 48, .inr (.inr (.inr (.inr (fun i => some (ra i))))))), (w2, .inl (cI, 16, .inl (qS (fun _ => 0#8))))] ++ qP cI ra (fun _ _ => 0#8)) := hD
  subst hQ
  exact W.vret hx hb hr (fun t ht hW => ⟨⟨(cG, w1, w2, ra), rfl, trivial, by rw [ht]; exact hP, va_K.moved hW.alike hK, hD⟩, hS.F ht⟩) hS.2.2 dX4_init_39
set_option maxHeartbeats 4000000 in
set_option maxRecDepth 100000 in
/-- Reader() -/
theorem qc_readerI (l : Launch) (dC : Nat → ClassId) (dI : Nat → Nat → Nat) (cI : ClassId) (r0 d0 i0 o0 : Nat) (sz : Nat)  : Met l yX2_init wsX2_init ({ frames := 1, cells := 52, slots := 1104, locals := 40 } : Room) (va_Pc [.ref r0, .ref d0, .ref i0, .ref o0] (fun U => U.heap.size = sz ∧ va_P (dC, dI) vwCl [(r0, .inr (1, [.null, .null, .null, .null, .null, .null, .null, .int (nI 0), .int (nI 0), .int (nI 0), .int (nI 0)]))] U.heap ∧ va_K (dC, dI) vwCl [(cI, .int)] U ∧ va_D (fun _ => True) [(r0, .inr (1, [.null, .null, .null, .null, .null, .null, .null, .int (nI 0), .int (nI 0), .int (nI 0), .int (nI 0)]))] ∧ qv_P U)) (va_Qv (fun (u : ClassId × ClassId × Nat × Nat × Nat × Nat × (Nat → Nat)) => True) (fun u t => va_P (dC, dI) vwCl ([(r0, .inr (1, [.ref d0, .ref i0, .ref o0, .ref u.2.2.1, .ref u.2.2.2.1, .ref u.2.2.2.2.1, .ref u.2.2.2.2.2.1, .int (nI 0), .int (nI 0), .int (nI 0), .int (nI 0)])), (u.2.2.1, .inl (u.1, 48, .inr (.inr (.inr (.inr (fun i => some (u.2.2.2.2.2.2 i))))))), (u.2.2.2.1, .inl (u.2.1, 48, .inl (qZ (fun _ => false)))), (u.2.2.2.2.1, .inl (cI, 384, .inl (qS (fun _ => 0#8)))), (u.2.2.2.2.2.1, .inl (u.2.1, 48, .inl (qZ (fun _ => false))))] ++ qP cI u.2.2.2.2.2.2 (fun _ _ => 0#8)) t.heap ∧ va_K (dC, dI) vwCl [(cI, .int), (u.1, .array .int), (u.2.1, .boolean)] t ∧ va_D (va_A [(r0, .inr (1, [.null, .null, .null, .null, .null, .null, .null, .int (nI 0), .int (nI 0), .int (nI 0), .int (nI 0)]))] sz) ([(r0, .inr (1, [.ref d0, .ref i0, .ref o0, .ref u.2.2.1, .ref u.2.2.2.1, .ref u.2.2.2.2.1, .ref u.2.2.2.2.2.1, .int (nI 0), .int (nI 0), .int (nI 0), .int (nI 0)])), (u.2.2.1, .inl (u.1, 48, .inr (.inr (.inr (.inr (fun i => some (u.2.2.2.2.2.2 i))))))), (u.2.2.2.1, .inl (u.2.1, 48, .inl (qZ (fun _ => false)))), (u.2.2.2.2.1, .inl (cI, 384, .inl (qS (fun _ => 0#8)))), (u.2.2.2.2.2.1, .inl (u.2.1, 48, .inl (qZ (fun _ => false))))] ++ qP cI u.2.2.2.2.2.2 (fun _ _ => 0#8))) (va_A [(r0, .inr (1, [.null, .null, .null, .null, .null, .null, .null, .int (nI 0), .int (nI 0), .int (nI 0), .int (nI 0)]))] sz)) 52 1104 (va_A [(r0, .inr (1, [.null, .null, .null, .null, .null, .null, .null, .int (nI 0), .int (nI 0), .int (nI 0), .int (nI 0)]))] sz) := by
  refine Met.ofW (cc := cX2_init) (maxL := 4) (ret := none) (by decide) rfl ?_
  intro p e s m args below meth c s₁ B hml hv
  obtain ⟨rfl, hsz, hP, hK, hD0, hN⟩ := hv
  have hx := B.exec
  have hb := B.bytes
  have hr := B.returns
  have hts := atoms_spec (ws := wsX2_init) B.pre
  have hown : s.vm.findClass RX2 = some m.cls := findClass_of_methodNamed B.named
  have hlocks := B.notSynchronized
  have hin : meth.name = "<init>" := (name_of_methodNamed B.named B.method).1
  subst hsz
  have hD := hD0.self (sz := s.heap.size)
  generalize hAe : va_A [(r0, .inr (1, [.null, .null, .null, .null, .null, .null, .null, .int (nI 0), .int (nI 0), .int (nI 0), .int (nI 0)]))] s.heap.size = A at hD ⊢
  have hA : ∀ q : Nat, s.heap.size ≤ q → A q := fun q h => by rw [← hAe]; exact Or.inr h
  have hS : va_S A s.heap s.heap [] := va_S.rf
  have hP : va_P (dC, dI) vwCl [(r0, .inr (1, [.null, .null, .null, .null, .null, .null, .null, .int (nI 0), .int (nI 0), .int (nI 0), .int (nI 0)]))] s.heap := hP
  have hl := lv_entry ([.ref r0, .ref d0, .ref i0, .ref o0]) (n := 4) (Nat.le_of_ble_eq_true rfl)
  rw [lg_entry_eq]
  generalize (lg_sl ([.ref r0, .ref d0, .ref i0, .ref o0]) ++ List.replicate (4 - (lg_sl ([.ref r0, .ref d0, .ref i0, .ref o0])).length) Slot.unset).toArray = ls at hl ⊢
  have hl : lv_has ls 4 [(0, .ref r0), (1, .ref d0), (2, .ref i0), (3, .ref o0)] := hl
  have k_9 := hts (.fieldLink RX2 9 "DiscCoder$Reader" "disc" "LDiscCoder$Disc;") (by decide +kernel)
  have k_15 := hts (.fieldLink RX2 15 "DiscCoder$Reader" "inner" "LDiscCoder$Word;") (by decide +kernel)
  have k_19 := hts (.fieldLink RX2 19 "DiscCoder$Reader" "outer" "LDiscCoder$Word;") (by decide +kernel)
  have k_24 := hts (.fieldLink RX2 24 "DiscCoder$Reader" "outerWords" "[[I") (by decide +kernel)
  have k_27 := hts (.fieldLink RX2 27 "DiscCoder$Reader" "outerDoubted" "[Z") (by decide +kernel)
  have k_31 := hts (.fieldLink RX2 31 "DiscCoder$Reader" "output" "[I") (by decide +kernel)
  have k_35 := hts (.fieldLink RX2 35 "DiscCoder$Reader" "lost" "[Z") (by decide +kernel)
  have i_X2 : ∀ w ∈ u_ws RX2 TX2 11, w ∈ wsX2_init := by decide +kernel
  refine qr_nm (fun Q hQ => ?_)
  refine lv_aload_n hx hb dX2_init_0 rfl (lv_at hl 0 rfl) ?_
  refine W.objInit hx hb hown (hts (.methodLink RX2 3 objectInit) (by decide +kernel)) (hts (.instanceMethod objectInit) (by decide +kernel)) (hts (.code objectInit ⟨#[0xb1]⟩ 1 none) (by decide +kernel)) rfl (by rw [hml]; exact hl.1) rfl dX2_init_1 (Nat.le_of_ble_eq_true rfl) (Nat.le_of_ble_eq_true rfl) ?_
  refine W.eq (g2 := F0 m 4 ls []) rfl ?_
  refine lv_aload_n hx hb dX2_init_4 rfl (lv_at hl 0 rfl) ?_
  refine lv_aload_n hx hb dX2_init_5 rfl (lv_at hl 1 rfl) ?_
  refine va_putF (D := (dC, dI)) (ci := 1) (v := .ref d0) (ty := .object "DiscCoder$Disc") (C := RX2) (T := TX2) (N := 11) hx hb hts i_X2 tyX2 tyX2_ok nmX2 hown hK hP hD hS 0 rfl rfl 0 (by decide) k_9 (fun _ h9 => h9) rfl hin rfl (by decide +kernel) rfl rfl (Nat.le_of_ble_eq_true rfl) dX2_init_6 (fun H locs hP hD hS => ?_)
  have hP : va_P (dC, dI) vwCl [(r0, .inr (1, [.ref d0, .null, .null, .null, .null, .null, .null, .int (nI 0), .int (nI 0), .int (nI 0), .int (nI 0)]))] H := hP
  have hD : va_D A [(r0, .inr (1, [.ref d0, .null, .null, .null, .null, .null, .null, .int (nI 0), .int (nI 0), .int (nI 0), .int (nI 0)]))] := hD
  refine lv_aload_n hx hb dX2_init_9 rfl (lv_at hl 0 rfl) ?_
  refine lv_aload_n hx hb dX2_init_10 rfl (lv_at hl 2 rfl) ?_
  refine va_putF (D := (dC, dI)) (ci := 1) (v := .ref i0) (ty := .object "DiscCoder$Word") (C := RX2) (T := TX2) (N := 11) hx hb hts i_X2 tyX2 tyX2_ok nmX2 hown hK hP hD hS 0 rfl rfl 1 (by decide) k_15 (fun _ h9 => h9) rfl hin rfl (by decide +kernel) rfl rfl (Nat.le_of_ble_eq_true rfl) dX2_init_11 (fun H locs hP hD hS => ?_)
  have hP : va_P (dC, dI) vwCl [(r0, .inr (1, [.ref d0, .ref i0, .null, .null, .null, .null, .null, .int (nI 0), .int (nI 0), .int (nI 0), .int (nI 0)]))] H := hP
  have hD : va_D A [(r0, .inr (1, [.ref d0, .ref i0, .null, .null, .null, .null, .null, .int (nI 0), .int (nI 0), .int (nI 0), .int (nI 0)]))] := hD
  refine lv_aload_n hx hb dX2_init_14 rfl (lv_at hl 0 rfl) ?_
  refine lv_aload_n hx hb dX2_init_15 rfl (lv_at hl 3 rfl) ?_
  refine va_putF (D := (dC, dI)) (ci := 1) (v := .ref o0) (ty := .object "DiscCoder$Word") (C := RX2) (T := TX2) (N := 11) hx hb hts i_X2 tyX2 tyX2_ok nmX2 hown hK hP hD hS 0 rfl rfl 2 (by decide) k_19 (fun _ h9 => h9) rfl hin rfl (by decide +kernel) rfl rfl (Nat.le_of_ble_eq_true rfl) dX2_init_16 (fun H locs hP hD hS => ?_)
  have hP : va_P (dC, dI) vwCl [(r0, .inr (1, [.ref d0, .ref i0, .ref o0, .null, .null, .null, .null, .int (nI 0), .int (nI 0), .int (nI 0), .int (nI 0)]))] H := hP
  have hD : va_D A [(r0, .inr (1, [.ref d0, .ref i0, .ref o0, .null, .null, .null, .null, .int (nI 0), .int (nI 0), .int (nI 0), .int (nI 0)]))] := hD
  refine lv_aload_n hx hb dX2_init_19 rfl (lv_at hl 0 rfl) ?_
  refine lv_bipush (v := nI 48) hx hb dX2_init_20 (by decide) ?_
  refine lv_bipush (v := nI 12) hx hb dX2_init_22 (by decide) ?_
  refine qv_mna (cI := cI) hx hb hown (va_Nw.use rfl hN.2.1) hN.2.2 (hts (.arrayClass .int) (by decide +kernel)) (hK.2 0 _ rfl).2 hK hP hD hS hA (Nat.le_of_ble_eq_true rfl) (Nat.le_of_ble_eq_true rfl) dX2_init_24 (fun r1 rb cG H hK hP hD hS => ?_)
  refine W.widen (k := 49) (n := 624) (by omega) (by omega) ?_
  have hK : va_K (dC, dI) vwCl [(cI, .int), (cG, .array .int)] s := hK
  have hP : va_P (dC, dI) vwCl ([(r0, .inr (1, [.ref d0, .ref i0, .ref o0, .null, .null, .null, .null, .int (nI 0), .int (nI 0), .int (nI 0), .int (nI 0)])), (r1, .inl (cG, 48, .inr (.inr (.inr (.inr (fun i => some (rb i)))))))] ++ qP cI rb (fun _ _ => 0#8)) H := hP
  have hD : va_D A ([(r0, .inr (1, [.ref d0, .ref i0, .ref o0, .null, .null, .null, .null, .int (nI 0), .int (nI 0), .int (nI 0), .int (nI 0)])), (r1, .inl (cG, 48, .inr (.inr (.inr (.inr (fun i => some (rb i)))))))] ++ qP cI rb (fun _ _ => 0#8)) := hD
  refine va_putF (D := (dC, dI)) (ci := 1) (v := .ref r1) (ty := .array (.array .int)) (C := RX2) (T := TX2) (N := 11) hx hb hts i_X2 tyX2 tyX2_ok nmX2 hown hK hP hD hS 0 rfl rfl 3 (by decide) k_24 (fun _ h9 => h9) rfl hin rfl (by decide +kernel) rfl rfl (Nat.le_of_ble_eq_true rfl) dX2_init_28 (fun H locs hP hD hS => ?_)
  have hP : va_P (dC, dI) vwCl ([(r0, .inr (1, [.ref d0, .ref i0, .ref o0, .ref r1, .null, .null, .null, .int (nI 0), .int (nI 0), .int (nI 0), .int (nI 0)])), (r1, .inl (cG, 48, .inr (.inr (.inr (.inr (fun i => some (rb i)))))))] ++ qP cI rb (fun _ _ => 0#8)) H := hP
  have hD : va_D A ([(r0, .inr (1, [.ref d0, .ref i0, .ref o0, .ref r1, .null, .null, .null, .int (nI 0), .int (nI 0), .int (nI 0), .int (nI 0)])), (r1, .inl (cG, 48, .inr (.inr (.inr (.inr (fun i => some (rb i)))))))] ++ qP cI rb (fun _ _ => 0#8)) := hD
  refine lv_aload_n hx hb dX2_init_31 rfl (lv_at hl 0 rfl) ?_
  refine lv_bipush (v := nI 48) hx hb dX2_init_32 (by decide) ?_
  refine va_newa (atype := .boolean) (ty := .boolean) (a0 := (48, .inl (qZ (fun _ => false)))) (N' := 48) hx hb (hts (.arrayClass .boolean) (by decide +kernel)) rfl hK hP hD hS hA (qa_zZ 48) (nI_pos (by omega)) (nI_clamp (by omega)) (by decide +kernel) (Nat.le_of_ble_eq_true rfl) (Nat.le_of_ble_eq_true rfl) dX2_init_34 (fun r2 cA9 H hK hP hD hS => ?_)
  refine W.widen (k := 50) (n := 672) (by omega) (by omega) ?_
  have hP := va_P.swap hP
  have hD := va_D.swap hD
  generalize cA9 = cZ at hK hP hD
  have hK : va_K (dC, dI) vwCl [(cI, .int), (cG, .array .int), (cZ, .boolean)] s := hK
  have hP : va_P (dC, dI) vwCl ([(r0, .inr (1, [.ref d0, .ref i0, .ref o0, .ref r1, .null, .null, .null, .int (nI 0), .int (nI 0), .int (nI 0), .int (nI 0)])), (r1, .inl (cG, 48, .inr (.inr (.inr (.inr (fun i => some (rb i))))))), (r2, .inl (cZ, 48, .inl (qZ (fun _ => false))))] ++ qP cI rb (fun _ _ => 0#8)) H := hP
  have hD : va_D A ([(r0, .inr (1, [.ref d0, .ref i0, .ref o0, .ref r1, .null, .null, .null, .int (nI 0), .int (nI 0), .int (nI 0), .int (nI 0)])), (r1, .inl (cG, 48, .inr (.inr (.inr (.inr (fun i => some (rb i))))))), (r2, .inl (cZ, 48, .inl (qZ (fun _ => false))))] ++ qP cI rb (fun _ _ => 0#8)) := hD
  refine va_putF (D := (dC, dI)) (ci := 1) (v := .ref r2) (ty := .array .boolean) (C := RX2) (T := TX2) (N := 11) hx hb hts i_X2 tyX2 tyX2_ok nmX2 hown hK hP hD hS 0 rfl rfl 4 (by decide) k_27 (fun _ h9 => h9) rfl hin rfl (by decide +kernel) rfl rfl (Nat.le_of_ble_eq_true rfl) dX2_init_36 (fun H locs hP hD hS => ?_)
  have hP : va_P (dC, dI) vwCl ([(r0, .inr (1, [.ref d0, .ref i0, .ref o0, .ref r1, .ref r2, .null, .null, .int (nI 0), .int (nI 0), .int (nI 0), .int (nI 0)])), (r1, .inl (cG, 48, .inr (.inr (.inr (.inr (fun i => some (rb i))))))), (r2, .inl (cZ, 48, .inl (qZ (fun _ => false))))] ++ qP cI rb (fun _ _ => 0#8)) H := hP
  have hD : va_D A ([(r0, .inr (1, [.ref d0, .ref i0, .ref o0, .ref r1, .ref r2, .null, .null, .int (nI 0), .int (nI 0), .int (nI 0), .int (nI 0)])), (r1, .inl (cG, 48, .inr (.inr (.inr (.inr (fun i => some (rb i))))))), (r2, .inl (cZ, 48, .inl (qZ (fun _ => false))))] ++ qP cI rb (fun _ _ => 0#8)) := hD
  refine lv_aload_n hx hb dX2_init_39 rfl (lv_at hl 0 rfl) ?_
  refine lv_sipush (v := nI 384) hx hb dX2_init_40 (by decide) ?_
  refine va_newa (atype := .int) (ty := .int) (a0 := (384, .inl (qS (fun _ => 0#8)))) (N' := 384) hx hb (hts (.arrayClass .int) (by decide +kernel)) rfl hK hP hD hS hA (qa_zS 384) (nI_pos (by omega)) (nI_clamp (by omega)) (by decide +kernel) (Nat.le_of_ble_eq_true rfl) (Nat.le_of_ble_eq_true rfl) dX2_init_43 (fun r3 cA9 H hK hP hD hS => ?_)
  refine W.widen (k := 51) (n := 1056) (by omega) (by omega) ?_
  have hP := va_P.swap hP
  have hD := va_D.swap hD
  have e9 := (qa_same hK 0 3 rfl rfl (fun _ h => by cases h)).symm
  subst e9
  have hK := hK.sub (tys' := [(cI, .int), (cG, .array .int), (cZ, .boolean)]) [0, 1, 2] rfl
  have hK : va_K (dC, dI) vwCl [(cI, .int), (cG, .array .int), (cZ, .boolean)] s := hK
  have hP : va_P (dC, dI) vwCl ([(r0, .inr (1, [.ref d0, .ref i0, .ref o0, .ref r1, .ref r2, .null, .null, .int (nI 0), .int (nI 0), .int (nI 0), .int (nI 0)])), (r1, .inl (cG, 48, .inr (.inr (.inr (.inr (fun i => some (rb i))))))), (r2, .inl (cZ, 48, .inl (qZ (fun _ => false)))), (r3, .inl (cI, 384, .inl (qS (fun _ => 0#8))))] ++ qP cI rb (fun _ _ => 0#8)) H := hP
  have hD : va_D A ([(r0, .inr (1, [.ref d0, .ref i0, .ref o0, .ref r1, .ref r2, .null, .null, .int (nI 0), .int (nI 0), .int (nI 0), .int (nI 0)])), (r1, .inl (cG, 48, .inr (.inr (.inr (.inr (fun i => some (rb i))))))), (r2, .inl (cZ, 48, .inl (qZ (fun _ => false)))), (r3, .inl (cI, 384, .inl (qS (fun _ => 0#8))))] ++ qP cI rb (fun _ _ => 0#8)) := hD
  refine va_putF (D := (dC, dI)) (ci := 1) (v := .ref r3) (ty := .array .int) (C := RX2) (T := TX2) (N := 11) hx hb hts i_X2 tyX2 tyX2_ok nmX2 hown hK hP hD hS 0 rfl rfl 5 (by decide) k_31 (fun _ h9 => h9) rfl hin rfl (by decide +kernel) rfl rfl (Nat.le_of_ble_eq_true rfl) dX2_init_45 (fun H locs hP hD hS => ?_)
  have hP : va_P (dC, dI) vwCl ([(r0, .inr (1, [.ref d0, .ref i0, .ref o0, .ref r1, .ref r2, .ref r3, .null, .int (nI 0), .int (nI 0), .int (nI 0), .int (nI 0)])), (r1, .inl (cG, 48, .inr (.inr (.inr (.inr (fun i => some (rb i))))))), (r2, .inl (cZ, 48, .inl (qZ (fun _ => false)))), (r3, .inl (cI, 384, .inl (qS (fun _ => 0#8))))] ++ qP cI rb (fun _ _ => 0#8)) H := hP
  have hD : va_D A ([(r0, .inr (1, [.ref d0, .ref i0, .ref o0, .ref r1, .ref r2, .ref r3, .null, .int (nI 0), .int (nI 0), .int (nI 0), .int (nI 0)])), (r1, .inl (cG, 48, .inr (.inr (.inr (.inr (fun i => some (rb i))))))), (r2, .inl (cZ, 48, .inl (qZ (fun _ => false)))), (r3, .inl (cI, 384, .inl (qS (fun _ => 0#8))))] ++ qP cI rb (fun _ _ => 0#8)) := hD
  refine lv_aload_n hx hb dX2_init_48 rfl (lv_at hl 0 rfl) ?_
  refine lv_bipush (v := nI 48) hx hb dX2_init_49 (by decide) ?_
  refine va_newa (atype := .boolean) (ty := .boolean) (a0 := (48, .inl (qZ (fun _ => false)))) (N' := 48) hx hb (hts (.arrayClass .boolean) (by decide +kernel)) rfl hK hP hD hS hA (qa_zZ 48) (nI_pos (by omega)) (nI_clamp (by omega)) (by decide +kernel) (Nat.le_of_ble_eq_true rfl) (Nat.le_of_ble_eq_true rfl) dX2_init_51 (fun r4 cA9 H hK hP hD hS => ?_)
  refine W.widen (k := 52) (n := 1104) (by omega) (by omega) ?_
  have hP := va_P.swap hP
  have hD := va_D.swap hD
  have e9 := (qa_same hK 2 3 rfl rfl (fun _ h => by cases h)).symm
  subst e9
  have hK := hK.sub (tys' := [(cI, .int), (cG, .array .int), (cZ, .boolean)]) [0, 1, 2] rfl
  have hK : va_K (dC, dI) vwCl [(cI, .int), (cG, .array .int), (cZ, .boolean)] s := hK
  have hP : va_P (dC, dI) vwCl ([(r0, .inr (1, [.ref d0, .ref i0, .ref o0, .ref r1, .ref r2, .ref r3, .null, .int (nI 0), .int (nI 0), .int (nI 0), .int (nI 0)])), (r1, .inl (cG, 48, .inr (.inr (.inr (.inr (fun i => some (rb i))))))), (r2, .inl (cZ, 48, .inl (qZ (fun _ => false)))), (r3, .inl (cI, 384, .inl (qS (fun _ => 0#8)))), (r4, .inl (cZ, 48, .inl (qZ (fun _ => false))))] ++ qP cI rb (fun _ _ => 0#8)) H := hP
  have hD : va_D A ([(r0, .inr (1, [.ref d0, .ref i0, .ref o0, .ref r1, .ref r2, .ref r3, .null, .int (nI 0), .int (nI 0), .int (nI 0), .int (nI 0)])), (r1, .inl (cG, 48, .inr (.inr (.inr (.inr (fun i => some (rb i))))))), (r2, .inl (cZ, 48, .inl (qZ (fun _ => false)))), (r3, .inl (cI, 384, .inl (qS (fun _ => 0#8)))), (r4, .inl (cZ, 48, .inl (qZ (fun _ => false))))] ++ qP cI rb (fun _ _ => 0#8)) := hD
  refine va_putF (D := (dC, dI)) (ci := 1) (v := .ref r4) (ty := .array .boolean) (C := RX2) (T := TX2) (N := 11) hx hb hts i_X2 tyX2 tyX2_ok nmX2 hown hK hP hD hS 0 rfl rfl 6 (by decide) k_35 (fun _ h9 => h9) rfl hin rfl (by decide +kernel) rfl rfl (Nat.le_of_ble_eq_true rfl) dX2_init_53 (fun H locs hP hD hS => ?_)
  have hP : va_P (dC, dI) vwCl ([(r0, .inr (1, [.ref d0, .ref i0, .ref o0, .ref r1, .ref r2, .ref r3, .ref r4, .int (nI 0), .int (nI 0), .int (nI 0), .int (nI 0)])), (r1, .inl (cG, 48, .inr (.inr (.inr (.inr (fun i => some (rb i))))))), (r2, .inl (cZ, 48, .inl (qZ (fun _ => false)))), (r3, .inl (cI, 384, .inl (qS (fun _ => 0#8)))), (r4, .inl (cZ, 48, .inl (qZ (fun _ => false))))] ++ qP cI rb (fun _ _ => 0#8)) H := hP
  have hD : va_D A ([(r0, .inr (1, [.ref d0, .ref i0, .ref o0, .ref r1, .ref r2, .ref r3, .ref r4, .int (nI 0), .int (nI 0), .int (nI 0), .int (nI 0)])), (r1, .inl (cG, 48, .inr (.inr (.inr (.inr (fun i => some (rb i))))))), (r2, .inl (cZ, 48, .inl (qZ (fun _ => false)))), (r3, .inl (cI, 384, .inl (qS (fun _ => 0#8)))), (r4, .inl (cZ, 48, .inl (qZ (fun _ => false))))] ++ qP cI rb (fun _ _ => 0#8)) := hD
  subst hQ
  exact W.vret hx hb hr (fun t ht hW => ⟨⟨(cG, cZ, r1, r2, r3, r4, rb), rfl, trivial, by rw [ht]; exact hP, va_K.moved hW.alike hK, hD⟩, hS.F ht⟩) hS.2.2 dX2_init_56
