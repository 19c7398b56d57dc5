set_option maxHeartbeats 4000000 in
set_option maxRecDepth 100000 in
/-- Disc.has -/
theorem qc_has (l : Launch) (dC : Nat → ClassId) (dI : Nat → Nat → Nat) (cI : ClassId) (d0 d1 tw tr : Nat) (dd : Nat → BitVec 8) (x y : Int32)  : Met l yX0_has wsX0_has ({ frames := 0, cells := 0, slots := 0, locals := 0 } : Room) (va_Pc [.ref d0, .int x, .int y] (fun U => va_P (dC, dI) vwCl [(d0, .inr (0, [.ref d1, .int (nI tw), .int (nI tr)])), (d1, .inl (cI, 768, .inl (qS dd)))] U.heap ∧ va_K (dC, dI) vwCl [(cI, .int)] U)) (vp_Si (fun r => ∃ b : Bool, r = zI b ∧ (b = true ↔ (¬ x < 0 ∧ ¬ nI tw ≤ x ∧ ¬ y < 0 ∧ ¬ nI 16 ≤ y)))) 0 0 (fun _ => False) := by
  refine Met.ofW (cc := cX0_has) (maxL := 3) (ret := (some .boolean)) (by decide) rfl ?_
  intro p e s m args below meth c s₁ B hml hv
  obtain ⟨rfl, hP, hK⟩ := hv
  have hx := B.exec
  have hb := B.bytes
  have hr := B.returns
  have hts := atoms_spec (ws := wsX0_has) B.pre
  have hown : s.vm.findClass RX0 = some m.cls := findClass_of_methodNamed B.named
  have hlocks := B.notSynchronized
  have hP : va_P (dC, dI) vwCl [(d0, .inr (0, [.ref d1, .int (nI tw), .int (nI tr)])), (d1, .inl (cI, 768, .inl (qS dd)))] s.heap := hP
  have hl := lv_entry ([.ref d0, .int x, .int y]) (n := 3) (Nat.le_of_ble_eq_true rfl)
  rw [lg_entry_eq]
  generalize (lg_sl ([.ref d0, .int x, .int y]) ++ List.replicate (3 - (lg_sl ([.ref d0, .int x, .int y])).length) Slot.unset).toArray = ls at hl ⊢
  have hl : lv_has ls 3 [(0, .ref d0), (1, .int x), (2, .int y)] := hl
  have k_15 := hts (.fieldLink RX0 15 "DiscCoder$Disc" "rowsWritten" "I") (by decide +kernel)
  have i_X0 : ∀ w ∈ u_ws RX0 TX0 3, w ∈ wsX0_has := by decide +kernel
  refine qr_nm (fun Q hQ => ?_)
  refine lv_iload_n hx hb dX0_has_0 rfl (lv_at hl 1 rfl) ?_
  refine lv_if_lt (tgt := 26) hx hb dX0_has_1 rfl  (fun b1 => ?_) (fun b1 => ?_)
  · refine lv_iconst (v := zI false) hx hb dX0_has_26 (by decide) ?_
    subst hQ
    exact W.zret hx hb hr (qr_narZ _) (fun t ht hW => ⟨_, rfl, ⟨false, rfl, ⟨fun h => Bool.noConfusion h, fun h => absurd b1 (h.1)⟩⟩, ht⟩) (fun _ h => absurd h List.not_mem_nil) dX0_has_27
  · refine lv_iload_n hx hb dX0_has_4 rfl (lv_at hl 1 rfl) ?_
    refine lv_aload_n hx hb dX0_has_5 rfl (lv_at hl 0 rfl) ?_
    refine va_get (D := (dC, dI)) (ci := 0) (v := .int (nI tw)) (C := RX0) (T := TX0) (N := 3) hx hb hts i_X0 hown hK hP 0 rfl rfl 1 (by decide) k_15 (fun _ h9 => h9) rfl dX0_has_6 ?_
    refine lv_icmp_ge (tgt := 26) hx hb dX0_has_9 rfl  (fun b9 => ?_) (fun b9 => ?_)
    · refine lv_iconst (v := zI false) hx hb dX0_has_26 (by decide) ?_
      subst hQ
      exact W.zret hx hb hr (qr_narZ _) (fun t ht hW => ⟨_, rfl, ⟨false, rfl, ⟨fun h => Bool.noConfusion h, fun h => absurd b9 (h.2.1)⟩⟩, ht⟩) (fun _ h => absurd h List.not_mem_nil) dX0_has_27
    · refine lv_iload_n hx hb dX0_has_12 rfl (lv_at hl 2 rfl) ?_
      refine lv_if_lt (tgt := 26) hx hb dX0_has_13 rfl  (fun b13 => ?_) (fun b13 => ?_)
      · refine lv_iconst (v := zI false) hx hb dX0_has_26 (by decide) ?_
        subst hQ
        exact W.zret hx hb hr (qr_narZ _) (fun t ht hW => ⟨_, rfl, ⟨false, rfl, ⟨fun h => Bool.noConfusion h, fun h => absurd b13 (h.2.2.1)⟩⟩, ht⟩) (fun _ h => absurd h List.not_mem_nil) dX0_has_27
      · refine lv_iload_n hx hb dX0_has_16 rfl (lv_at hl 2 rfl) ?_
        refine lv_bipush (v := nI 16) hx hb dX0_has_17 (by decide) ?_
        refine lv_icmp_ge (tgt := 26) hx hb dX0_has_19 rfl  (fun b19 => ?_) (fun b19 => ?_)
        · refine lv_iconst (v := zI false) hx hb dX0_has_26 (by decide) ?_
          subst hQ
          exact W.zret hx hb hr (qr_narZ _) (fun t ht hW => ⟨_, rfl, ⟨false, rfl, ⟨fun h => Bool.noConfusion h, fun h => absurd b19 (h.2.2.2)⟩⟩, ht⟩) (fun _ h => absurd h List.not_mem_nil) dX0_has_27
        · refine lv_iconst (v := zI true) hx hb dX0_has_22 (by decide) ?_
          refine lv_goto (tgt := 27) hx hb dX0_has_23 rfl ?_
          subst hQ
          exact W.zret hx hb hr (qr_narZ _) (fun t ht hW => ⟨_, rfl, ⟨true, rfl, ⟨fun _ => ⟨b1, b9, b13, b19⟩, fun _ => rfl⟩⟩, ht⟩) (fun _ h => absurd h List.not_mem_nil) dX0_has_27
set_option maxHeartbeats 4000000 in
set_option maxRecDepth 100000 in
/-- Disc.turned -/
theorem qc_turned (l : Launch) (i : Nat) (v : BitVec 8) (hi : i < 16) : Met l yX0_turned wsX0_turned ({ frames := 0, cells := 0, slots := 0, locals := 0 } : Room) (va_Pc [.int (nI i), .int (sI v)] (fun _ => True)) (vp_Si (fun r => r = sI (qs_t i v))) 0 0 (fun _ => False) := by
  refine Met.ofW (cc := cX0_turned) (maxL := 2) (ret := (some .int)) (by decide) rfl ?_
  intro p e s m args below meth c s₁ B hml hv
  obtain ⟨rfl, -⟩ := hv
  have hx := B.exec
  have hb := B.bytes
  have hr := B.returns
  have hts := atoms_spec (ws := wsX0_turned) B.pre
  have hown : s.vm.findClass RX0 = some m.cls := findClass_of_methodNamed B.named
  have hlocks := B.notSynchronized
  have hl := lv_entry ([.int (nI i), .int (sI v)]) (n := 2) (Nat.le_of_ble_eq_true rfl)
  rw [lg_entry_eq]
  generalize (lg_sl ([.int (nI i), .int (sI v)]) ++ List.replicate (2 - (lg_sl ([.int (nI i), .int (sI v)])).length) Slot.unset).toArray = ls at hl ⊢
  have hl : lv_has ls 2 [(0, .int (nI i)), (1, .int (sI v))] := hl
  refine qr_nm (fun Q hQ => ?_)
  refine lv_iload_n hx hb dX0_turned_0 rfl (lv_at hl 0 rfl) ?_
  refine lv_bipush (v := nI 8) hx hb dX0_turned_1 (by decide) ?_
  refine qr_ge (tgt := 10) hx hb dX0_turned_3 rfl (by omega) (by omega) (fun b3 => ?_) (fun b3 => ?_)
  · refine lv_sipush (v := nI 255) hx hb dX0_turned_10 (by decide) ?_
    refine lv_iload_n hx hb dX0_turned_13 rfl (lv_at hl 1 rfl) ?_
    refine qr_isub (z := sI (255#8 ^^^ v)) hx hb dX0_turned_14 (qr_flip _) ?_
    subst hQ
    exact W.iret hx hb hr (fun t ht hW => ⟨_, rfl, congrArg sI (show _ = qs_t i v from (if_neg (by omega)).symm), ht⟩) (fun _ h => absurd h List.not_mem_nil) dX0_turned_15
  · refine lv_iload_n hx hb dX0_turned_6 rfl (lv_at hl 1 rfl) ?_
    refine lv_goto (tgt := 15) hx hb dX0_turned_7 rfl ?_
    subst hQ
    exact W.iret hx hb hr (fun t ht hW => ⟨_, rfl, congrArg sI (show _ = qs_t i v from (if_pos (by omega)).symm), ht⟩) (fun _ h => absurd h List.not_mem_nil) dX0_turned_15
set_option maxHeartbeats 4000000 in
set_option maxRecDepth 100000 in
/-- Disc.setPlain -/
theorem qc_set (l : Launch) (dC : Nat → ClassId) (dI : Nat → Nat → Nat) (cI : ClassId) (d0 d1 tw tr : Nat) (dd : Nat → BitVec 8) (x y : Nat) (v : BitVec 8) (sz : Nat) (hx0 : x < 48) (hy0 : y < 16) : Met l yX0_setPlain wsX0_setPlain ({ frames := 1, cells := 0, slots := 0, locals := 21 } : Room) (va_Pc [.ref d0, .int (nI x), .int (nI y), .int (sI v)] (fun U => U.heap.size = sz ∧ va_P (dC, dI) vwCl [(d0, .inr (0, [.ref d1, .int (nI tw), .int (nI tr)])), (d1, .inl (cI, 768, .inl (qS dd)))] U.heap ∧ va_K (dC, dI) vwCl [(cI, .int)] U ∧ va_D (fun _ => True) [(d0, .inr (0, [.ref d1, .int (nI tw), .int (nI tr)])), (d1, .inl (cI, 768, .inl (qS dd)))])) (va_Qv (fun (_ : Unit) => True) (fun _ t => va_P (dC, dI) vwCl [(d0, .inr (0, [.ref d1, .int (nI tw), .int (nI tr)])), (d1, .inl (cI, 768, .inl (qS (va_up dd (x * 16 + y) (qs_t y v)))))] t.heap ∧ va_K (dC, dI) vwCl [(cI, .int)] t ∧ va_D (va_A [(d0, .inr (0, [.ref d1, .int (nI tw), .int (nI tr)])), (d1, .inl (cI, 768, .inl (qS dd)))] sz) [(d0, .inr (0, [.ref d1, .int (nI tw), .int (nI tr)])), (d1, .inl (cI, 768, .inl (qS (va_up dd (x * 16 + y) (qs_t y v)))))]) (va_A [(d0, .inr (0, [.ref d1, .int (nI tw), .int (nI tr)])), (d1, .inl (cI, 768, .inl (qS dd)))] sz)) 0 0 (va_A [(d0, .inr (0, [.ref d1, .int (nI tw), .int (nI tr)])), (d1, .inl (cI, 768, .inl (qS dd)))] sz) := by
  refine Met.ofW (cc := cX0_setPlain) (maxL := 4) (ret := none) (by decide) rfl ?_
  intro p e s m args below meth c s₁ B hml hv
  obtain ⟨rfl, hsz, hP, hK, hD0⟩ := hv
  have hx := B.exec
  have hb := B.bytes
  have hr := B.returns
  have hts := atoms_spec (ws := wsX0_setPlain) B.pre
  have hown : s.vm.findClass RX0 = some m.cls := findClass_of_methodNamed B.named
  have hlocks := B.notSynchronized
  subst hsz
  have hD := hD0.self (sz := s.heap.size)
  generalize hAe : va_A [(d0, .inr (0, [.ref d1, .int (nI tw), .int (nI tr)])), (d1, .inl (cI, 768, .inl (qS dd)))] s.heap.size = A at hD ⊢
  have hA : ∀ q : Nat, s.heap.size ≤ q → A q := fun q h => by rw [← hAe]; exact Or.inr h
  have hS : va_S A s.heap s.heap [] := va_S.rf
  have hP : va_P (dC, dI) vwCl [(d0, .inr (0, [.ref d1, .int (nI tw), .int (nI tr)])), (d1, .inl (cI, 768, .inl (qS dd)))] s.heap := hP
  have hl := lv_entry ([.ref d0, .int (nI x), .int (nI y), .int (sI v)]) (n := 4) (Nat.le_of_ble_eq_true rfl)
  rw [lg_entry_eq]
  generalize (lg_sl ([.ref d0, .int (nI x), .int (nI y), .int (sI v)]) ++ List.replicate (4 - (lg_sl ([.ref d0, .int (nI x), .int (nI y), .int (sI v)])).length) Slot.unset).toArray = ls at hl ⊢
  have hl : lv_has ls 4 [(0, .ref d0), (1, .int (nI x)), (2, .int (nI y)), (3, .int (sI v))] := hl
  have k_9 := hts (.fieldLink RX0 9 "DiscCoder$Disc" "symbols" "[I") (by decide +kernel)
  have i_X0 : ∀ w ∈ u_ws RX0 TX0 3, w ∈ wsX0_setPlain := by decide +kernel
  refine qr_nm (fun Q hQ => ?_)
  refine lv_aload_n hx hb dX0_setPlain_0 rfl (lv_at hl 0 rfl) ?_
  refine va_get (D := (dC, dI)) (ci := 0) (v := .ref d1) (C := RX0) (T := TX0) (N := 3) hx hb hts i_X0 hown hK hP 0 rfl rfl 0 (by decide) k_9 (fun _ h9 => h9) rfl dX0_setPlain_1 ?_
  refine lv_iload_n hx hb dX0_setPlain_4 rfl (lv_at hl 1 rfl) ?_
  refine lv_bipush (v := nI 16) hx hb dX0_setPlain_5 (by decide) ?_
  refine qr_imul (z := nI (x * 16)) hx hb dX0_setPlain_7 (pk_mul _ _) ?_
  refine lv_iload_n hx hb dX0_setPlain_8 rfl (lv_at hl 2 rfl) ?_
  refine qr_iadd (z := nI ((x * 16) + y)) hx hb dX0_setPlain_9 (nI_add _ _) ?_
  refine lv_iload_n hx hb dX0_setPlain_10 rfl (lv_at hl 2 rfl) ?_
  refine lv_iload_n hx hb dX0_setPlain_11 rfl (lv_at hl 3 rfl) ?_
  refine vp_callSi (va_Run.run (va_runS (As := [.int (nI y), .int (sI v)]) (rest := [.int (nI ((x * 16) + y)), .ref d1]) ⟨hx, hb, hml, hown, hts⟩ (qc_turned l y v hy0) (va_cwS 2 hts gX0_setPlain_X0_turned rfl rfl rfl (by decide +kernel) ⟨Nat.le_of_ble_eq_true rfl, Nat.le_of_ble_eq_true rfl⟩) ⟨fun a U g mk q => q, fun U hU hW => ⟨rfl, trivial⟩⟩ rfl rfl hl.1 rfl (lv_room (Nat.le_of_ble_eq_true rfl)) dX0_setPlain_12 ⟨Nat.le_of_ble_eq_true rfl, Nat.le_of_ble_eq_true rfl⟩)) (fun r12 hr12 => ?_)
  have hr12 : r12 = sI (qs_t y v) := hr12
  subst hr12
  refine qr_istS (x := qs_t y v) hx hb hK hP hD hS 1 0 rfl rfl (by omega) (by omega) dX0_setPlain_15 (fun H locs hP hD hS => ?_)
  have hP : va_P (dC, dI) vwCl [(d0, .inr (0, [.ref d1, .int (nI tw), .int (nI tr)])), (d1, .inl (cI, 768, .inl (qS (va_up dd ((x * 16) + y) (qs_t y v)))))] H := hP
  have hD : va_D A [(d0, .inr (0, [.ref d1, .int (nI tw), .int (nI tr)])), (d1, .inl (cI, 768, .inl (qS (va_up dd ((x * 16) + y) (qs_t y v)))))] := hD
  subst hQ
  exact W.vret hx hb hr (fun t ht hW => ⟨⟨(), rfl, trivial, by rw [ht]; exact hP, va_K.moved hW.alike hK, hD⟩, hS.F ht⟩) hS.2.2 dX0_setPlain_16
set_option maxHeartbeats 4000000 in
set_option maxRecDepth 100000 in
/-- Disc.getPlain on a row -/
theorem qc_get (l : Launch) (dC : Nat → ClassId) (dI : Nat → Nat → Nat) (cI : ClassId) (d0 d1 tw tr : Nat) (dd : Nat → BitVec 8) (x y : Nat) (hx0 : x < tw) (htw : tw ≤ 48) (hy0 : y < 16) : Met l yX0_getPlain wsX0_getPlain ({ frames := 1, cells := 0, slots := 0, locals := 22 } : Room) (va_Pc [.ref d0, .int (nI x), .int (nI y)] (fun U => va_P (dC, dI) vwCl [(d0, .inr (0, [.ref d1, .int (nI tw), .int (nI tr)])), (d1, .inl (cI, 768, .inl (qS dd)))] U.heap ∧ va_K (dC, dI) vwCl [(cI, .int)] U)) (vp_Si (fun r => r = sI (qs_t y (dd (x * 16 + y))))) 0 0 (fun _ => False) := by
  refine Met.ofW (cc := cX0_getPlain) (maxL := 3) (ret := (some .int)) (by decide) rfl ?_
  intro p e s m args below meth c s₁ B hml hv
  obtain ⟨rfl, hP, hK⟩ := hv
  have hx := B.exec
  have hb := B.bytes
  have hr := B.returns
  have hts := atoms_spec (ws := wsX0_getPlain) B.pre
  have hown : s.vm.findClass RX0 = some m.cls := findClass_of_methodNamed B.named
  have hlocks := B.notSynchronized
  have hP : va_P (dC, dI) vwCl [(d0, .inr (0, [.ref d1, .int (nI tw), .int (nI tr)])), (d1, .inl (cI, 768, .inl (qS dd)))] s.heap := hP
  have hl := lv_entry ([.ref d0, .int (nI x), .int (nI y)]) (n := 3) (Nat.le_of_ble_eq_true rfl)
  rw [lg_entry_eq]
  generalize (lg_sl ([.ref d0, .int (nI x), .int (nI y)]) ++ List.replicate (3 - (lg_sl ([.ref d0, .int (nI x), .int (nI y)])).length) Slot.unset).toArray = ls at hl ⊢
  have hl : lv_has ls 3 [(0, .ref d0), (1, .int (nI x)), (2, .int (nI y))] := hl
  have k_9 := hts (.fieldLink RX0 9 "DiscCoder$Disc" "symbols" "[I") (by decide +kernel)
  have i_X0 : ∀ w ∈ u_ws RX0 TX0 3, w ∈ wsX0_getPlain := by decide +kernel
  refine qr_nm (fun Q hQ => ?_)
  refine lv_aload_n hx hb dX0_getPlain_0 rfl (lv_at hl 0 rfl) ?_
  refine lv_iload_n hx hb dX0_getPlain_1 rfl (lv_at hl 1 rfl) ?_
  refine lv_iload_n hx hb dX0_getPlain_2 rfl (lv_at hl 2 rfl) ?_
  have hPc := hP.sub (ws' := [(d0, .inr (0, [.ref d1, .int (nI tw), .int (nI tr)])), (d1, .inl (cI, 768, .inl (qS dd)))]) [0, 1] rfl
  have hKc := hK.sub (tys' := [(cI, .int)]) [0] rfl
  refine vp_callSi (va_Run.run (va_runV (As := [.int (nI x), .int (nI y)]) (rest := []) ⟨hx, hb, hml, hown, hts⟩ (qc_has l dC dI cI d0 d1 tw tr dd (nI x) (nI y) ) (cwV 2 hts gX0_getPlain_X0_has rfl rfl rfl (by decide +kernel) ⟨Nat.le_of_ble_eq_true rfl, Nat.le_of_ble_eq_true rfl⟩) ⟨fun a U g mk q => by obtain ⟨q0, qP, qK⟩ := q; exact ⟨q0, qP, va_K.moved (u := U) (U := U.calling g mk a) (Vm.Alike.refl U.vm) qK⟩, (va_recv (q0 := 0) (ci := 0) hK hP rfl rfl), fun U hU hW => ⟨rfl, by rw [hU]; exact hPc, va_K.moved hW.alike hKc⟩⟩ rfl rfl hl.1 rfl (lv_room (Nat.le_of_ble_eq_true rfl)) dX0_getPlain_3 ⟨Nat.le_of_ble_eq_true rfl, Nat.le_of_ble_eq_true rfl⟩)) (fun r3 hr3 => ?_)
  obtain ⟨v3, e3, hv3⟩ := hr3
  subst e3
  refine qr_ifeqZ (tgt := 27) hx hb dX0_getPlain_6 rfl  (fun h => absurd (hv3.mpr (qs_has hx0 htw hy0)) (by rw [h]; decide)) (fun b6 => ?_)
  refine lv_iload_n hx hb dX0_getPlain_9 rfl (lv_at hl 2 rfl) ?_
  refine lv_aload_n hx hb dX0_getPlain_10 rfl (lv_at hl 0 rfl) ?_
  refine va_get (D := (dC, dI)) (ci := 0) (v := .ref d1) (C := RX0) (T := TX0) (N := 3) hx hb hts i_X0 hown hK hP 0 rfl rfl 0 (by decide) k_9 (fun _ h9 => h9) rfl dX0_getPlain_11 ?_
  refine lv_iload_n hx hb dX0_getPlain_14 rfl (lv_at hl 1 rfl) ?_
  refine lv_bipush (v := nI 16) hx hb dX0_getPlain_15 (by decide) ?_
  refine qr_imul (z := nI (x * 16)) hx hb dX0_getPlain_17 (pk_mul _ _) ?_
  refine lv_iload_n hx hb dX0_getPlain_18 rfl (lv_at hl 2 rfl) ?_
  refine qr_iadd (z := nI ((x * 16) + y)) hx hb dX0_getPlain_19 (nI_add _ _) ?_
  refine qr_ildS hx hb hK hP 1 0 rfl rfl (by omega) (by omega) dX0_getPlain_20 ?_
  refine vp_callSi (va_Run.run (va_runS (As := [.int (nI y), .int (sI (dd ((x * 16) + y)))]) (rest := []) ⟨hx, hb, hml, hown, hts⟩ (qc_turned l y (dd ((x * 16) + y)) hy0) (va_cwS 2 hts gX0_getPlain_X0_turned rfl rfl rfl (by decide +kernel) ⟨Nat.le_of_ble_eq_true rfl, Nat.le_of_ble_eq_true rfl⟩) ⟨fun a U g mk q => q, fun U hU hW => ⟨rfl, trivial⟩⟩ rfl rfl hl.1 rfl (lv_room (Nat.le_of_ble_eq_true rfl)) dX0_getPlain_21 ⟨Nat.le_of_ble_eq_true rfl, Nat.le_of_ble_eq_true rfl⟩)) (fun r21 hr21 => ?_)
  have hr21 : r21 = sI (qs_t y (dd ((x * 16) + y))) := hr21
  subst hr21
  refine lv_goto (tgt := 28) hx hb dX0_getPlain_24 rfl ?_
  subst hQ
  exact W.iret hx hb hr (fun t ht hW => ⟨_, rfl, rfl, ht⟩) (fun _ h => absurd h List.not_mem_nil) dX0_getPlain_28
set_option maxHeartbeats 4000000 in
set_option maxRecDepth 100000 in
/-- Disc.getPlain ahead of the first row -/
theorem qc_getNeg (l : Launch) (dC : Nat → ClassId) (dI : Nat → Nat → Nat) (cI : ClassId) (d0 d1 tw tr : Nat) (dd : Nat → BitVec 8) (x : Int32) (y : Nat) (hx0 : x < 0) (hy0 : y < 16) : Met l yX0_getPlain wsX0_getPlain ({ frames := 1, cells := 0, slots := 0, locals := 22 } : Room) (va_Pc [.ref d0, .int x, .int (nI y)] (fun U => va_P (dC, dI) vwCl [(d0, .inr (0, [.ref d1, .int (nI tw), .int (nI tr)])), (d1, .inl (cI, 768, .inl (qS dd)))] U.heap ∧ va_K (dC, dI) vwCl [(cI, .int)] U)) (vp_Si (fun r => r = sI 0#8)) 0 0 (fun _ => False) := by
  refine Met.ofW (cc := cX0_getPlain) (maxL := 3) (ret := (some .int)) (by decide) rfl ?_
  intro p e s m args below meth c s₁ B hml hv
  obtain ⟨rfl, hP, hK⟩ := hv
  have hx := B.exec
  have hb := B.bytes
  have hr := B.returns
  have hts := atoms_spec (ws := wsX0_getPlain) B.pre
  have hown : s.vm.findClass RX0 = some m.cls := findClass_of_methodNamed B.named
  have hlocks := B.notSynchronized
  have hP : va_P (dC, dI) vwCl [(d0, .inr (0, [.ref d1, .int (nI tw), .int (nI tr)])), (d1, .inl (cI, 768, .inl (qS dd)))] s.heap := hP
  have hl := lv_entry ([.ref d0, .int x, .int (nI y)]) (n := 3) (Nat.le_of_ble_eq_true rfl)
  rw [lg_entry_eq]
  generalize (lg_sl ([.ref d0, .int x, .int (nI y)]) ++ List.replicate (3 - (lg_sl ([.ref d0, .int x, .int (nI y)])).length) Slot.unset).toArray = ls at hl ⊢
  have hl : lv_has ls 3 [(0, .ref d0), (1, .int x), (2, .int (nI y))] := hl
  have k_9 := hts (.fieldLink RX0 9 "DiscCoder$Disc" "symbols" "[I") (by decide +kernel)
  have i_X0 : ∀ w ∈ u_ws RX0 TX0 3, w ∈ wsX0_getPlain := by decide +kernel
  refine qr_nm (fun Q hQ => ?_)
  refine lv_aload_n hx hb dX0_getPlain_0 rfl (lv_at hl 0 rfl) ?_
  refine lv_iload_n hx hb dX0_getPlain_1 rfl (lv_at hl 1 rfl) ?_
  refine lv_iload_n hx hb dX0_getPlain_2 rfl (lv_at hl 2 rfl) ?_
  have hPc := hP.sub (ws' := [(d0, .inr (0, [.ref d1, .int (nI tw), .int (nI tr)])), (d1, .inl (cI, 768, .inl (qS dd)))]) [0, 1] rfl
  have hKc := hK.sub (tys' := [(cI, .int)]) [0] rfl
  refine vp_callSi (va_Run.run (va_runV (As := [.int x, .int (nI y)]) (rest := []) ⟨hx, hb, hml, hown, hts⟩ (qc_has l dC dI cI d0 d1 tw tr dd x (nI y) ) (cwV 2 hts gX0_getPlain_X0_has rfl rfl rfl (by decide +kernel) ⟨Nat.le_of_ble_eq_true rfl, Nat.le_of_ble_eq_true rfl⟩) ⟨fun a U g mk q => by obtain ⟨q0, qP, qK⟩ := q; exact ⟨q0, qP, va_K.moved (u := U) (U := U.calling g mk a) (Vm.Alike.refl U.vm) qK⟩, (va_recv (q0 := 0) (ci := 0) hK hP rfl rfl), fun U hU hW => ⟨rfl, by rw [hU]; exact hPc, va_K.moved hW.alike hKc⟩⟩ rfl rfl hl.1 rfl (lv_room (Nat.le_of_ble_eq_true rfl)) dX0_getPlain_3 ⟨Nat.le_of_ble_eq_true rfl, Nat.le_of_ble_eq_true rfl⟩)) (fun r3 hr3 => ?_)
  obtain ⟨v3, e3, hv3⟩ := hr3
  subst e3
  refine qr_ifeqZ (tgt := 27) hx hb dX0_getPlain_6 rfl  (fun b6 => ?_) (fun h => absurd hx0 (hv3.mp h).1)
  refine lv_iconst (v := sI 0#8) hx hb dX0_getPlain_27 (by decide) ?_
  subst hQ
  exact W.iret hx hb hr (fun t ht hW => ⟨_, rfl, rfl, ht⟩) (fun _ h => absurd h List.not_mem_nil) dX0_getPlain_28
