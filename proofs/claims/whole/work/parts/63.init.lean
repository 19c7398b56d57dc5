set_option maxHeartbeats 4000000 in
set_option maxRecDepth 100000 in
/-- Disc() -/
theorem qc_discI (l : Launch) (dC : Nat → ClassId) (dI : Nat → Nat → Nat) (d0 : Nat) (sz : Nat)  : Met l yX0_init wsX0_init ({ frames := 1, cells := 1, slots := 768, locals := 40 } : Room) (va_Pc [.ref d0] (fun U => U.heap.size = sz ∧ va_P (dC, dI) vwCl [(d0, .inr (0, [.null, .int (nI 0), .int (nI 0)]))] U.heap ∧ va_K (dC, dI) vwCl [] U ∧ va_D (fun _ => True) [(d0, .inr (0, [.null, .int (nI 0), .int (nI 0)]))])) (va_Qv (fun (u : ClassId × Nat) => True) (fun u t => va_P (dC, dI) vwCl [(d0, .inr (0, [.ref u.2, .int (nI 0), .int (nI 0)])), (u.2, .inl (u.1, 768, .inl (qS (fun _ => 0#8))))] t.heap ∧ va_K (dC, dI) vwCl [(u.1, .int)] t ∧ va_D (va_A [(d0, .inr (0, [.null, .int (nI 0), .int (nI 0)]))] sz) [(d0, .inr (0, [.ref u.2, .int (nI 0), .int (nI 0)])), (u.2, .inl (u.1, 768, .inl (qS (fun _ => 0#8))))]) (va_A [(d0, .inr (0, [.null, .int (nI 0), .int (nI 0)]))] sz)) 1 768 (va_A [(d0, .inr (0, [.null, .int (nI 0), .int (nI 0)]))] sz) := by
  refine Met.ofW (cc := cX0_init) (maxL := 1) (ret := none) (by decide) rfl ?_
  intro p e s m args below meth c s₁ B hml hv
  obtain ⟨rfl, hsz, hP, hK, hD0⟩ := hv
  have hx := B.exec
  have hb := B.bytes
  have hr := B.returns
  have hts := atoms_spec (ws := wsX0_init) B.pre
  have hown : s.vm.findClass RX0 = some m.cls := findClass_of_methodNamed B.named
  have hlocks := B.notSynchronized
  have hin : meth.name = "<init>" := (name_of_methodNamed B.named B.method).1
  subst hsz
  have hD := hD0.self (sz := s.heap.size)
  generalize hAe : va_A [(d0, .inr (0, [.null, .int (nI 0), .int (nI 0)]))] s.heap.size = A at hD ⊢
  have hA : ∀ q : Nat, s.heap.size ≤ q → A q := fun q h => by rw [← hAe]; exact Or.inr h
  have hS : va_S A s.heap s.heap [] := va_S.rf
  have hP : va_P (dC, dI) vwCl [(d0, .inr (0, [.null, .int (nI 0), .int (nI 0)]))] s.heap := hP
  have hl := lv_entry ([.ref d0]) (n := 1) (Nat.le_of_ble_eq_true rfl)
  rw [lg_entry_eq]
  generalize (lg_sl ([.ref d0]) ++ List.replicate (1 - (lg_sl ([.ref d0])).length) Slot.unset).toArray = ls at hl ⊢
  have hl : lv_has ls 1 [(0, .ref d0)] := hl
  have k_9 := hts (.fieldLink RX0 9 "DiscCoder$Disc" "symbols" "[I") (by decide +kernel)
  have i_X0 : ∀ w ∈ u_ws RX0 TX0 3, w ∈ wsX0_init := by decide +kernel
  refine qr_nm (fun Q hQ => ?_)
  refine lv_aload_n hx hb dX0_init_0 rfl (lv_at hl 0 rfl) ?_
  refine W.objInit hx hb hown (hts (.methodLink RX0 3 objectInit) (by decide +kernel)) (hts (.instanceMethod objectInit) (by decide +kernel)) (hts (.code objectInit ⟨#[0xb1]⟩ 1 none) (by decide +kernel)) rfl (by rw [hml]; exact hl.1) rfl dX0_init_1 (Nat.le_of_ble_eq_true rfl) (Nat.le_of_ble_eq_true rfl) ?_
  refine W.eq (g2 := F0 m 4 ls []) rfl ?_
  refine lv_aload_n hx hb dX0_init_4 rfl (lv_at hl 0 rfl) ?_
  refine lv_sipush (v := nI 768) hx hb dX0_init_5 (by decide) ?_
  refine va_newa (atype := .int) (ty := .int) (a0 := (768, .inl (qS (fun _ => 0#8)))) (N' := 768) hx hb (hts (.arrayClass .int) (by decide +kernel)) rfl hK hP hD hS hA (qa_zS 768) (nI_pos (by omega)) (nI_clamp (by omega)) (by decide +kernel) (Nat.le_of_ble_eq_true rfl) (Nat.le_of_ble_eq_true rfl) dX0_init_8 (fun d1 cA9 H hK hP hD hS => ?_)
  refine W.widen (k := 1) (n := 768) (by omega) (by omega) ?_
  generalize cA9 = cI at hK hP hD
  have hK : va_K (dC, dI) vwCl [(cI, .int)] s := hK
  have hP : va_P (dC, dI) vwCl [(d0, .inr (0, [.null, .int (nI 0), .int (nI 0)])), (d1, .inl (cI, 768, .inl (qS (fun _ => 0#8))))] H := hP
  have hD : va_D A [(d0, .inr (0, [.null, .int (nI 0), .int (nI 0)])), (d1, .inl (cI, 768, .inl (qS (fun _ => 0#8))))] := hD
  refine va_putF (D := (dC, dI)) (ci := 0) (v := .ref d1) (ty := .array .int) (C := RX0) (T := TX0) (N := 3) hx hb hts i_X0 tyX0 tyX0_ok nmX0 hown hK hP hD hS 0 rfl rfl 0 (by decide) k_9 (fun _ h9 => h9) rfl hin rfl (by decide +kernel) rfl rfl (Nat.le_of_ble_eq_true rfl) dX0_init_10 (fun H locs hP hD hS => ?_)
  have hP : va_P (dC, dI) vwCl [(d0, .inr (0, [.ref d1, .int (nI 0), .int (nI 0)])), (d1, .inl (cI, 768, .inl (qS (fun _ => 0#8))))] H := hP
  have hD : va_D A [(d0, .inr (0, [.ref d1, .int (nI 0), .int (nI 0)])), (d1, .inl (cI, 768, .inl (qS (fun _ => 0#8))))] := hD
  subst hQ
  exact W.vret hx hb hr (fun t ht hW => ⟨⟨(cI, d1), rfl, trivial, by rw [ht]; exact hP, va_K.moved hW.alike hK, hD⟩, hS.F ht⟩) hS.2.2 dX0_init_13
