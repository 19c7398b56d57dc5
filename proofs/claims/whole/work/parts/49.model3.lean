set_option maxHeartbeats 4000000 in
set_option maxRecDepth 100000 in
/-- reference: thrown -/
theorem qc_thrown (l : Launch) (dC : Nat → ClassId) (dI : Nat → Nat → Nat) (cI cZ : ClassId) (h0 k0 T dn me du fi ls0 e1 e2 e3 e4 e5 e6 e7 e8 e9 e10 e11 e12 : Nat) (w : Nat → BitVec 8) (z : Nat → Bool) (M : Nat → Nat → BitVec 8) (pl : Nat → Nat) (mI mO mD mG mR : Nat → BitVec 8) (mB : Nat → Bool) (mU : Nat → BitVec 8) (mF : Nat → Bool)  : Met l yX6_thrown wsX6_thrown ({ frames := 0, cells := 0, slots := 0, locals := 0 } : Room) (va_Pc [.ref h0] (fun U => va_P (dC, dI) vwCl [(h0, .inr (5, [.int (nI k0), .int (nI T), .ref e1, .ref e2, .ref e3, .int (nI dn), .ref e4, .ref e5, .ref e6, .ref e7, .ref e8, .int (nI me), .int (nI du), .int (nI fi), .int (nI ls0), .ref e9, .ref e10, .ref e11, .ref e12])), (e9, .inl (cI, 16, .inl (qS w))), (e10, .inl (cZ, 16, .inl (qZ z))), (e11, .inl (cI, 20, .inl (qS (qg_f M)))), (e12, .inl (cI, 4, .inl (qN pl))), (e1, .inl (cI, 576, .inl (qS mI))), (e2, .inl (cI, 768, .inl (qS mO))), (e3, .inl (cI, 768, .inl (qS mD))), (e4, .inl (cI, 768, .inl (qS mG))), (e5, .inl (cI, 576, .inl (qS mR))), (e6, .inl (cZ, 48, .inl (qZ mB))), (e7, .inl (cI, 384, .inl (qS mU))), (e8, .inl (cZ, 384, .inl (qZ mF)))] U.heap ∧ va_K (dC, dI) vwCl [(cI, .int), (cZ, .boolean)] U)) (vp_Si (fun r => r = nI k0)) 0 0 (fun _ => False) := by
  refine Met.ofW (cc := cX6_thrown) (maxL := 1) (ret := (some .int)) (by decide) rfl ?_
  intro p e s m args below meth c s₁ B hml hv
  obtain ⟨rfl, hP, hK⟩ := hv
  have hx := B.exec
  have hb := B.bytes
  have hr := B.returns
  have hts := atoms_spec (ws := wsX6_thrown) B.pre
  have hown : s.vm.findClass RX6 = some m.cls := findClass_of_methodNamed B.named
  have hlocks := B.notSynchronized
  have hP : va_P (dC, dI) vwCl [(h0, .inr (5, [.int (nI k0), .int (nI T), .ref e1, .ref e2, .ref e3, .int (nI dn), .ref e4, .ref e5, .ref e6, .ref e7, .ref e8, .int (nI me), .int (nI du), .int (nI fi), .int (nI ls0), .ref e9, .ref e10, .ref e11, .ref e12])), (e9, .inl (cI, 16, .inl (qS w))), (e10, .inl (cZ, 16, .inl (qZ z))), (e11, .inl (cI, 20, .inl (qS (qg_f M)))), (e12, .inl (cI, 4, .inl (qN pl))), (e1, .inl (cI, 576, .inl (qS mI))), (e2, .inl (cI, 768, .inl (qS mO))), (e3, .inl (cI, 768, .inl (qS mD))), (e4, .inl (cI, 768, .inl (qS mG))), (e5, .inl (cI, 576, .inl (qS mR))), (e6, .inl (cZ, 48, .inl (qZ mB))), (e7, .inl (cI, 384, .inl (qS mU))), (e8, .inl (cZ, 384, .inl (qZ mF)))] s.heap := hP
  have hl := lv_entry ([.ref h0]) (n := 1) (Nat.le_of_ble_eq_true rfl)
  rw [lg_entry_eq]
  generalize (lg_sl ([.ref h0]) ++ List.replicate (1 - (lg_sl ([.ref h0])).length) Slot.unset).toArray = ls at hl ⊢
  have hl : lv_has ls 1 [(0, .ref h0)] := hl
  have k_47 := hts (.fieldLink RX6 47 "DiscCoderModel" "code" "I") (by decide +kernel)
  have i_X6 : ∀ w ∈ u_ws RX6 TX6 19, w ∈ wsX6_thrown := by decide +kernel
  refine qr_nm (fun Q hQ => ?_)
  refine lv_aload_n hx hb dX6_thrown_0 rfl (lv_at hl 0 rfl) ?_
  refine va_get (D := (dC, dI)) (ci := 5) (v := .int (nI k0)) (C := RX6) (T := TX6) (N := 19) hx hb hts i_X6 hown hK hP 0 rfl rfl 0 (by decide) k_47 (fun _ h9 => h9) rfl dX6_thrown_1 ?_
  subst hQ
  exact W.iret hx hb hr (fun t ht hW => ⟨_, rfl, rfl, ht⟩) (fun _ h => absurd h List.not_mem_nil) dX6_thrown_4
set_option maxHeartbeats 4000000 in
set_option maxRecDepth 100000 in
/-- reference: rows -/
theorem qc_mrows (l : Launch) (dC : Nat → ClassId) (dI : Nat → Nat → Nat) (cI cZ : ClassId) (h0 k0 T dn me du fi ls0 e1 e2 e3 e4 e5 e6 e7 e8 e9 e10 e11 e12 : Nat) (w : Nat → BitVec 8) (z : Nat → Bool) (M : Nat → Nat → BitVec 8) (pl : Nat → Nat) (mI mO mD mG mR : Nat → BitVec 8) (mB : Nat → Bool) (mU : Nat → BitVec 8) (mF : Nat → Bool) (sz : Nat)  : Met l yX6_rows wsX6_rows ({ frames := 0, cells := 0, slots := 0, locals := 0 } : Room) (va_Pc [.ref h0] (fun U => U.heap.size = sz ∧ va_P (dC, dI) vwCl [(h0, .inr (5, [.int (nI k0), .int (nI T), .ref e1, .ref e2, .ref e3, .int (nI dn), .ref e4, .ref e5, .ref e6, .ref e7, .ref e8, .int (nI me), .int (nI du), .int (nI fi), .int (nI ls0), .ref e9, .ref e10, .ref e11, .ref e12])), (e9, .inl (cI, 16, .inl (qS w))), (e10, .inl (cZ, 16, .inl (qZ z))), (e11, .inl (cI, 20, .inl (qS (qg_f M)))), (e12, .inl (cI, 4, .inl (qN pl))), (e1, .inl (cI, 576, .inl (qS mI))), (e2, .inl (cI, 768, .inl (qS mO))), (e3, .inl (cI, 768, .inl (qS mD))), (e4, .inl (cI, 768, .inl (qS mG))), (e5, .inl (cI, 576, .inl (qS mR))), (e6, .inl (cZ, 48, .inl (qZ mB))), (e7, .inl (cI, 384, .inl (qS mU))), (e8, .inl (cZ, 384, .inl (qZ mF)))] U.heap ∧ va_K (dC, dI) vwCl [(cI, .int), (cZ, .boolean)] U ∧ va_D (fun _ => True) [(h0, .inr (5, [.int (nI k0), .int (nI T), .ref e1, .ref e2, .ref e3, .int (nI dn), .ref e4, .ref e5, .ref e6, .ref e7, .ref e8, .int (nI me), .int (nI du), .int (nI fi), .int (nI ls0), .ref e9, .ref e10, .ref e11, .ref e12])), (e9, .inl (cI, 16, .inl (qS w))), (e10, .inl (cZ, 16, .inl (qZ z))), (e11, .inl (cI, 20, .inl (qS (qg_f M)))), (e12, .inl (cI, 4, .inl (qN pl))), (e1, .inl (cI, 576, .inl (qS mI))), (e2, .inl (cI, 768, .inl (qS mO))), (e3, .inl (cI, 768, .inl (qS mD))), (e4, .inl (cI, 768, .inl (qS mG))), (e5, .inl (cI, 576, .inl (qS mR))), (e6, .inl (cZ, 48, .inl (qZ mB))), (e7, .inl (cI, 384, .inl (qS mU))), (e8, .inl (cZ, 384, .inl (qZ mF)))])) (va_Qi (fun (r : Int32) (_ : Unit) => r = nI T) (fun _ t => va_P (dC, dI) vwCl [(h0, .inr (5, [.int (nI 0), .int (nI T), .ref e1, .ref e2, .ref e3, .int (nI dn), .ref e4, .ref e5, .ref e6, .ref e7, .ref e8, .int (nI me), .int (nI du), .int (nI fi), .int (nI ls0), .ref e9, .ref e10, .ref e11, .ref e12])), (e9, .inl (cI, 16, .inl (qS w))), (e10, .inl (cZ, 16, .inl (qZ z))), (e11, .inl (cI, 20, .inl (qS (qg_f M)))), (e12, .inl (cI, 4, .inl (qN pl))), (e1, .inl (cI, 576, .inl (qS mI))), (e2, .inl (cI, 768, .inl (qS mO))), (e3, .inl (cI, 768, .inl (qS mD))), (e4, .inl (cI, 768, .inl (qS mG))), (e5, .inl (cI, 576, .inl (qS mR))), (e6, .inl (cZ, 48, .inl (qZ mB))), (e7, .inl (cI, 384, .inl (qS mU))), (e8, .inl (cZ, 384, .inl (qZ mF)))] t.heap ∧ va_K (dC, dI) vwCl [(cI, .int), (cZ, .boolean)] t ∧ va_D (va_A [(h0, .inr (5, [.int (nI k0), .int (nI T), .ref e1, .ref e2, .ref e3, .int (nI dn), .ref e4, .ref e5, .ref e6, .ref e7, .ref e8, .int (nI me), .int (nI du), .int (nI fi), .int (nI ls0), .ref e9, .ref e10, .ref e11, .ref e12])), (e9, .inl (cI, 16, .inl (qS w))), (e10, .inl (cZ, 16, .inl (qZ z))), (e11, .inl (cI, 20, .inl (qS (qg_f M)))), (e12, .inl (cI, 4, .inl (qN pl))), (e1, .inl (cI, 576, .inl (qS mI))), (e2, .inl (cI, 768, .inl (qS mO))), (e3, .inl (cI, 768, .inl (qS mD))), (e4, .inl (cI, 768, .inl (qS mG))), (e5, .inl (cI, 576, .inl (qS mR))), (e6, .inl (cZ, 48, .inl (qZ mB))), (e7, .inl (cI, 384, .inl (qS mU))), (e8, .inl (cZ, 384, .inl (qZ mF)))] sz) [(h0, .inr (5, [.int (nI 0), .int (nI T), .ref e1, .ref e2, .ref e3, .int (nI dn), .ref e4, .ref e5, .ref e6, .ref e7, .ref e8, .int (nI me), .int (nI du), .int (nI fi), .int (nI ls0), .ref e9, .ref e10, .ref e11, .ref e12])), (e9, .inl (cI, 16, .inl (qS w))), (e10, .inl (cZ, 16, .inl (qZ z))), (e11, .inl (cI, 20, .inl (qS (qg_f M)))), (e12, .inl (cI, 4, .inl (qN pl))), (e1, .inl (cI, 576, .inl (qS mI))), (e2, .inl (cI, 768, .inl (qS mO))), (e3, .inl (cI, 768, .inl (qS mD))), (e4, .inl (cI, 768, .inl (qS mG))), (e5, .inl (cI, 576, .inl (qS mR))), (e6, .inl (cZ, 48, .inl (qZ mB))), (e7, .inl (cI, 384, .inl (qS mU))), (e8, .inl (cZ, 384, .inl (qZ mF)))]) (va_A [(h0, .inr (5, [.int (nI k0), .int (nI T), .ref e1, .ref e2, .ref e3, .int (nI dn), .ref e4, .ref e5, .ref e6, .ref e7, .ref e8, .int (nI me), .int (nI du), .int (nI fi), .int (nI ls0), .ref e9, .ref e10, .ref e11, .ref e12])), (e9, .inl (cI, 16, .inl (qS w))), (e10, .inl (cZ, 16, .inl (qZ z))), (e11, .inl (cI, 20, .inl (qS (qg_f M)))), (e12, .inl (cI, 4, .inl (qN pl))), (e1, .inl (cI, 576, .inl (qS mI))), (e2, .inl (cI, 768, .inl (qS mO))), (e3, .inl (cI, 768, .inl (qS mD))), (e4, .inl (cI, 768, .inl (qS mG))), (e5, .inl (cI, 576, .inl (qS mR))), (e6, .inl (cZ, 48, .inl (qZ mB))), (e7, .inl (cI, 384, .inl (qS mU))), (e8, .inl (cZ, 384, .inl (qZ mF)))] sz)) 0 0 (va_A [(h0, .inr (5, [.int (nI k0), .int (nI T), .ref e1, .ref e2, .ref e3, .int (nI dn), .ref e4, .ref e5, .ref e6, .ref e7, .ref e8, .int (nI me), .int (nI du), .int (nI fi), .int (nI ls0), .ref e9, .ref e10, .ref e11, .ref e12])), (e9, .inl (cI, 16, .inl (qS w))), (e10, .inl (cZ, 16, .inl (qZ z))), (e11, .inl (cI, 20, .inl (qS (qg_f M)))), (e12, .inl (cI, 4, .inl (qN pl))), (e1, .inl (cI, 576, .inl (qS mI))), (e2, .inl (cI, 768, .inl (qS mO))), (e3, .inl (cI, 768, .inl (qS mD))), (e4, .inl (cI, 768, .inl (qS mG))), (e5, .inl (cI, 576, .inl (qS mR))), (e6, .inl (cZ, 48, .inl (qZ mB))), (e7, .inl (cI, 384, .inl (qS mU))), (e8, .inl (cZ, 384, .inl (qZ mF)))] sz) := by
  refine Met.ofW (cc := cX6_rows) (maxL := 1) (ret := (some .int)) (by decide) rfl ?_
  intro p e s m args below meth c s₁ B hml hv
  obtain ⟨rfl, hsz, hP, hK, hD0⟩ := hv
  have hx := B.exec
  have hb := B.bytes
  have hr := B.returns
  have hts := atoms_spec (ws := wsX6_rows) B.pre
  have hown : s.vm.findClass RX6 = some m.cls := findClass_of_methodNamed B.named
  have hlocks := B.notSynchronized
  subst hsz
  have hD := hD0.self (sz := s.heap.size)
  generalize hAe : va_A [(h0, .inr (5, [.int (nI k0), .int (nI T), .ref e1, .ref e2, .ref e3, .int (nI dn), .ref e4, .ref e5, .ref e6, .ref e7, .ref e8, .int (nI me), .int (nI du), .int (nI fi), .int (nI ls0), .ref e9, .ref e10, .ref e11, .ref e12])), (e9, .inl (cI, 16, .inl (qS w))), (e10, .inl (cZ, 16, .inl (qZ z))), (e11, .inl (cI, 20, .inl (qS (qg_f M)))), (e12, .inl (cI, 4, .inl (qN pl))), (e1, .inl (cI, 576, .inl (qS mI))), (e2, .inl (cI, 768, .inl (qS mO))), (e3, .inl (cI, 768, .inl (qS mD))), (e4, .inl (cI, 768, .inl (qS mG))), (e5, .inl (cI, 576, .inl (qS mR))), (e6, .inl (cZ, 48, .inl (qZ mB))), (e7, .inl (cI, 384, .inl (qS mU))), (e8, .inl (cZ, 384, .inl (qZ mF)))] s.heap.size = A at hD ⊢
  have hA : ∀ q : Nat, s.heap.size ≤ q → A q := fun q h => by rw [← hAe]; exact Or.inr h
  have hS : va_S A s.heap s.heap [] := va_S.rf
  have hP : va_P (dC, dI) vwCl [(h0, .inr (5, [.int (nI k0), .int (nI T), .ref e1, .ref e2, .ref e3, .int (nI dn), .ref e4, .ref e5, .ref e6, .ref e7, .ref e8, .int (nI me), .int (nI du), .int (nI fi), .int (nI ls0), .ref e9, .ref e10, .ref e11, .ref e12])), (e9, .inl (cI, 16, .inl (qS w))), (e10, .inl (cZ, 16, .inl (qZ z))), (e11, .inl (cI, 20, .inl (qS (qg_f M)))), (e12, .inl (cI, 4, .inl (qN pl))), (e1, .inl (cI, 576, .inl (qS mI))), (e2, .inl (cI, 768, .inl (qS mO))), (e3, .inl (cI, 768, .inl (qS mD))), (e4, .inl (cI, 768, .inl (qS mG))), (e5, .inl (cI, 576, .inl (qS mR))), (e6, .inl (cZ, 48, .inl (qZ mB))), (e7, .inl (cI, 384, .inl (qS mU))), (e8, .inl (cZ, 384, .inl (qZ mF)))] s.heap := hP
  have hl := lv_entry ([.ref h0]) (n := 1) (Nat.le_of_ble_eq_true rfl)
  rw [lg_entry_eq]
  generalize (lg_sl ([.ref h0]) ++ List.replicate (1 - (lg_sl ([.ref h0])).length) Slot.unset).toArray = ls at hl ⊢
  have hl : lv_has ls 1 [(0, .ref h0)] := hl
  have k_47 := hts (.fieldLink RX6 47 "DiscCoderModel" "code" "I") (by decide +kernel)
  have k_79 := hts (.fieldLink RX6 79 "DiscCoderModel" "frames" "I") (by decide +kernel)
  have i_X6 : ∀ w ∈ u_ws RX6 TX6 19, w ∈ wsX6_rows := by decide +kernel
  refine qr_nm (fun Q hQ => ?_)
  refine lv_aload_n hx hb dX6_rows_0 rfl (lv_at hl 0 rfl) ?_
  refine lv_iconst (v := nI 0) hx hb dX6_rows_1 (by decide) ?_
  refine va_put (D := (dC, dI)) (ci := 5) (v := .int (nI 0)) (ty := .int) (C := RX6) (T := TX6) (N := 19) hx hb hts i_X6 tyX6 tyX6_ok nmX6 hown hK hP hD hS 0 rfl rfl 0 (by decide) k_47 (fun _ h9 => h9) rfl (by decide +kernel) rfl rfl (Nat.le_of_ble_eq_true rfl) dX6_rows_2 (fun H locs hP hD hS => ?_)
  have hP : va_P (dC, dI) vwCl [(h0, .inr (5, [.int (nI 0), .int (nI T), .ref e1, .ref e2, .ref e3, .int (nI dn), .ref e4, .ref e5, .ref e6, .ref e7, .ref e8, .int (nI me), .int (nI du), .int (nI fi), .int (nI ls0), .ref e9, .ref e10, .ref e11, .ref e12])), (e9, .inl (cI, 16, .inl (qS w))), (e10, .inl (cZ, 16, .inl (qZ z))), (e11, .inl (cI, 20, .inl (qS (qg_f M)))), (e12, .inl (cI, 4, .inl (qN pl))), (e1, .inl (cI, 576, .inl (qS mI))), (e2, .inl (cI, 768, .inl (qS mO))), (e3, .inl (cI, 768, .inl (qS mD))), (e4, .inl (cI, 768, .inl (qS mG))), (e5, .inl (cI, 576, .inl (qS mR))), (e6, .inl (cZ, 48, .inl (qZ mB))), (e7, .inl (cI, 384, .inl (qS mU))), (e8, .inl (cZ, 384, .inl (qZ mF)))] H := hP
  have hD : va_D A [(h0, .inr (5, [.int (nI 0), .int (nI T), .ref e1, .ref e2, .ref e3, .int (nI dn), .ref e4, .ref e5, .ref e6, .ref e7, .ref e8, .int (nI me), .int (nI du), .int (nI fi), .int (nI ls0), .ref e9, .ref e10, .ref e11, .ref e12])), (e9, .inl (cI, 16, .inl (qS w))), (e10, .inl (cZ, 16, .inl (qZ z))), (e11, .inl (cI, 20, .inl (qS (qg_f M)))), (e12, .inl (cI, 4, .inl (qN pl))), (e1, .inl (cI, 576, .inl (qS mI))), (e2, .inl (cI, 768, .inl (qS mO))), (e3, .inl (cI, 768, .inl (qS mD))), (e4, .inl (cI, 768, .inl (qS mG))), (e5, .inl (cI, 576, .inl (qS mR))), (e6, .inl (cZ, 48, .inl (qZ mB))), (e7, .inl (cI, 384, .inl (qS mU))), (e8, .inl (cZ, 384, .inl (qZ mF)))] := hD
  refine lv_aload_n hx hb dX6_rows_5 rfl (lv_at hl 0 rfl) ?_
  refine va_get (D := (dC, dI)) (ci := 5) (v := .int (nI T)) (C := RX6) (T := TX6) (N := 19) hx hb hts i_X6 hown hK hP 0 rfl rfl 1 (by decide) k_79 (fun _ h9 => h9) rfl dX6_rows_6 ?_
  subst hQ
  exact W.iret hx hb hr (fun t ht hW => ⟨⟨_, (), rfl, rfl, by rw [ht]; exact hP, va_K.moved hW.alike hK, hD⟩, hS.F ht⟩) hS.2.2 dX6_rows_9
set_option maxHeartbeats 4000000 in
set_option maxRecDepth 100000 in
/-- reference: onDisc -/
theorem qc_onDisc (l : Launch) (dC : Nat → ClassId) (dI : Nat → Nat → Nat) (cI cZ : ClassId) (h0 k0 T dn me du fi ls0 e1 e2 e3 e4 e5 e6 e7 e8 e9 e10 e11 e12 : Nat) (w : Nat → BitVec 8) (z : Nat → Bool) (M : Nat → Nat → BitVec 8) (pl : Nat → Nat) (mI mO mD mG mR : Nat → BitVec 8) (mB : Nat → Bool) (mU : Nat → BitVec 8) (mF : Nat → Bool) (x y : Int32)  : Met l yX6_onDisc wsX6_onDisc ({ frames := 0, cells := 0, slots := 0, locals := 0 } : Room) (va_Pc [.ref h0, .int x, .int y] (fun U => va_P (dC, dI) vwCl [(h0, .inr (5, [.int (nI k0), .int (nI T), .ref e1, .ref e2, .ref e3, .int (nI dn), .ref e4, .ref e5, .ref e6, .ref e7, .ref e8, .int (nI me), .int (nI du), .int (nI fi), .int (nI ls0), .ref e9, .ref e10, .ref e11, .ref e12])), (e9, .inl (cI, 16, .inl (qS w))), (e10, .inl (cZ, 16, .inl (qZ z))), (e11, .inl (cI, 20, .inl (qS (qg_f M)))), (e12, .inl (cI, 4, .inl (qN pl))), (e1, .inl (cI, 576, .inl (qS mI))), (e2, .inl (cI, 768, .inl (qS mO))), (e3, .inl (cI, 768, .inl (qS mD))), (e4, .inl (cI, 768, .inl (qS mG))), (e5, .inl (cI, 576, .inl (qS mR))), (e6, .inl (cZ, 48, .inl (qZ mB))), (e7, .inl (cI, 384, .inl (qS mU))), (e8, .inl (cZ, 384, .inl (qZ mF)))] U.heap ∧ va_K (dC, dI) vwCl [(cI, .int), (cZ, .boolean)] U)) (vp_Si (fun r => ∃ b : Bool, r = zI b ∧ (b = true ↔ (¬ x < 0 ∧ ¬ nI T ≤ x ∧ ¬ y < 0 ∧ ¬ nI 16 ≤ y)))) 0 0 (fun _ => False) := by
  refine Met.ofW (cc := cX6_onDisc) (maxL := 3) (ret := (some .boolean)) (by decide) rfl ?_
  intro p e s m args below meth c s₁ B hml hv
  obtain ⟨rfl, hP, hK⟩ := hv
  have hx := B.exec
  have hb := B.bytes
  have hr := B.returns
  have hts := atoms_spec (ws := wsX6_onDisc) B.pre
  have hown : s.vm.findClass RX6 = some m.cls := findClass_of_methodNamed B.named
  have hlocks := B.notSynchronized
  have hP : va_P (dC, dI) vwCl [(h0, .inr (5, [.int (nI k0), .int (nI T), .ref e1, .ref e2, .ref e3, .int (nI dn), .ref e4, .ref e5, .ref e6, .ref e7, .ref e8, .int (nI me), .int (nI du), .int (nI fi), .int (nI ls0), .ref e9, .ref e10, .ref e11, .ref e12])), (e9, .inl (cI, 16, .inl (qS w))), (e10, .inl (cZ, 16, .inl (qZ z))), (e11, .inl (cI, 20, .inl (qS (qg_f M)))), (e12, .inl (cI, 4, .inl (qN pl))), (e1, .inl (cI, 576, .inl (qS mI))), (e2, .inl (cI, 768, .inl (qS mO))), (e3, .inl (cI, 768, .inl (qS mD))), (e4, .inl (cI, 768, .inl (qS mG))), (e5, .inl (cI, 576, .inl (qS mR))), (e6, .inl (cZ, 48, .inl (qZ mB))), (e7, .inl (cI, 384, .inl (qS mU))), (e8, .inl (cZ, 384, .inl (qZ mF)))] s.heap := hP
  have hl := lv_entry ([.ref h0, .int x, .int y]) (n := 3) (Nat.le_of_ble_eq_true rfl)
  rw [lg_entry_eq]
  generalize (lg_sl ([.ref h0, .int x, .int y]) ++ List.replicate (3 - (lg_sl ([.ref h0, .int x, .int y])).length) Slot.unset).toArray = ls at hl ⊢
  have hl : lv_has ls 3 [(0, .ref h0), (1, .int x), (2, .int y)] := hl
  have k_79 := hts (.fieldLink RX6 79 "DiscCoderModel" "frames" "I") (by decide +kernel)
  have i_X6 : ∀ w ∈ u_ws RX6 TX6 19, w ∈ wsX6_onDisc := by decide +kernel
  refine qr_nm (fun Q hQ => ?_)
  refine lv_iload_n hx hb dX6_onDisc_0 rfl (lv_at hl 1 rfl) ?_
  refine lv_if_lt (tgt := 26) hx hb dX6_onDisc_1 rfl  (fun b1 => ?_) (fun b1 => ?_)
  · refine lv_iconst (v := zI false) hx hb dX6_onDisc_26 (by decide) ?_
    subst hQ
    exact W.zret hx hb hr (qr_narZ _) (fun t ht hW => ⟨_, rfl, ⟨false, rfl, ⟨fun h => Bool.noConfusion h, fun h => absurd b1 (h.1)⟩⟩, ht⟩) (fun _ h => absurd h List.not_mem_nil) dX6_onDisc_27
  · refine lv_iload_n hx hb dX6_onDisc_4 rfl (lv_at hl 1 rfl) ?_
    refine lv_aload_n hx hb dX6_onDisc_5 rfl (lv_at hl 0 rfl) ?_
    refine va_get (D := (dC, dI)) (ci := 5) (v := .int (nI T)) (C := RX6) (T := TX6) (N := 19) hx hb hts i_X6 hown hK hP 0 rfl rfl 1 (by decide) k_79 (fun _ h9 => h9) rfl dX6_onDisc_6 ?_
    refine lv_icmp_ge (tgt := 26) hx hb dX6_onDisc_9 rfl  (fun b9 => ?_) (fun b9 => ?_)
    · refine lv_iconst (v := zI false) hx hb dX6_onDisc_26 (by decide) ?_
      subst hQ
      exact W.zret hx hb hr (qr_narZ _) (fun t ht hW => ⟨_, rfl, ⟨false, rfl, ⟨fun h => Bool.noConfusion h, fun h => absurd b9 (h.2.1)⟩⟩, ht⟩) (fun _ h => absurd h List.not_mem_nil) dX6_onDisc_27
    · refine lv_iload_n hx hb dX6_onDisc_12 rfl (lv_at hl 2 rfl) ?_
      refine lv_if_lt (tgt := 26) hx hb dX6_onDisc_13 rfl  (fun b13 => ?_) (fun b13 => ?_)
      · refine lv_iconst (v := zI false) hx hb dX6_onDisc_26 (by decide) ?_
        subst hQ
        exact W.zret hx hb hr (qr_narZ _) (fun t ht hW => ⟨_, rfl, ⟨false, rfl, ⟨fun h => Bool.noConfusion h, fun h => absurd b13 (h.2.2.1)⟩⟩, ht⟩) (fun _ h => absurd h List.not_mem_nil) dX6_onDisc_27
      · refine lv_iload_n hx hb dX6_onDisc_16 rfl (lv_at hl 2 rfl) ?_
        refine lv_bipush (v := nI 16) hx hb dX6_onDisc_17 (by decide) ?_
        refine lv_icmp_ge (tgt := 26) hx hb dX6_onDisc_19 rfl  (fun b19 => ?_) (fun b19 => ?_)
        · refine lv_iconst (v := zI false) hx hb dX6_onDisc_26 (by decide) ?_
          subst hQ
          exact W.zret hx hb hr (qr_narZ _) (fun t ht hW => ⟨_, rfl, ⟨false, rfl, ⟨fun h => Bool.noConfusion h, fun h => absurd b19 (h.2.2.2)⟩⟩, ht⟩) (fun _ h => absurd h List.not_mem_nil) dX6_onDisc_27
        · refine lv_iconst (v := zI true) hx hb dX6_onDisc_22 (by decide) ?_
          refine lv_goto (tgt := 27) hx hb dX6_onDisc_23 rfl ?_
          subst hQ
          exact W.zret hx hb hr (qr_narZ _) (fun t ht hW => ⟨_, rfl, ⟨true, rfl, ⟨fun _ => ⟨b1, b9, b13, b19⟩, fun _ => rfl⟩⟩, ht⟩) (fun _ h => absurd h List.not_mem_nil) dX6_onDisc_27
set_option maxHeartbeats 4000000 in
set_option maxRecDepth 100000 in
/-- reference: isSymbol -/
theorem qc_isSym (l : Launch) (x : Int32)  : Met l yX6_isSymbol wsX6_isSymbol ({ frames := 0, cells := 0, slots := 0, locals := 0 } : Room) (va_Pc [.int x] (fun _ => True)) (vp_Si (fun r => ∃ b : Bool, r = zI b ∧ (b = true ↔ (¬ x < 0 ∧ ¬ nI 255 < x)))) 0 0 (fun _ => False) := by
  refine Met.ofW (cc := cX6_isSymbol) (maxL := 1) (ret := (some .boolean)) (by decide) rfl ?_
  intro p e s m args below meth c s₁ B hml hv
  obtain ⟨rfl, -⟩ := hv
  have hx := B.exec
  have hb := B.bytes
  have hr := B.returns
  have hts := atoms_spec (ws := wsX6_isSymbol) B.pre
  have hown : s.vm.findClass RX6 = some m.cls := findClass_of_methodNamed B.named
  have hlocks := B.notSynchronized
  have hl := lv_entry ([.int x]) (n := 1) (Nat.le_of_ble_eq_true rfl)
  rw [lg_entry_eq]
  generalize (lg_sl ([.int x]) ++ List.replicate (1 - (lg_sl ([.int x])).length) Slot.unset).toArray = ls at hl ⊢
  have hl : lv_has ls 1 [(0, .int x)] := hl
  refine qr_nm (fun Q hQ => ?_)
  refine lv_iload_n hx hb dX6_isSymbol_0 rfl (lv_at hl 0 rfl) ?_
  refine lv_if_lt (tgt := 15) hx hb dX6_isSymbol_1 rfl  (fun b1 => ?_) (fun b1 => ?_)
  · refine lv_iconst (v := zI false) hx hb dX6_isSymbol_15 (by decide) ?_
    subst hQ
    exact W.zret hx hb hr (qr_narZ _) (fun t ht hW => ⟨_, rfl, ⟨false, rfl, ⟨fun h => Bool.noConfusion h, fun h => absurd b1 h.1⟩⟩, ht⟩) (fun _ h => absurd h List.not_mem_nil) dX6_isSymbol_16
  · refine lv_iload_n hx hb dX6_isSymbol_4 rfl (lv_at hl 0 rfl) ?_
    refine lv_sipush (v := nI 255) hx hb dX6_isSymbol_5 (by decide) ?_
    refine lv_icmp_gt (tgt := 15) hx hb dX6_isSymbol_8 rfl  (fun b8 => ?_) (fun b8 => ?_)
    · refine lv_iconst (v := zI false) hx hb dX6_isSymbol_15 (by decide) ?_
      subst hQ
      exact W.zret hx hb hr (qr_narZ _) (fun t ht hW => ⟨_, rfl, ⟨false, rfl, ⟨fun h => Bool.noConfusion h, fun h => absurd b8 h.2⟩⟩, ht⟩) (fun _ h => absurd h List.not_mem_nil) dX6_isSymbol_16
    · refine lv_iconst (v := zI true) hx hb dX6_isSymbol_11 (by decide) ?_
      refine lv_goto (tgt := 16) hx hb dX6_isSymbol_12 rfl ?_
      subst hQ
      exact W.zret hx hb hr (qr_narZ _) (fun t ht hW => ⟨_, rfl, ⟨true, rfl, ⟨fun _ => ⟨b1, b8⟩, fun _ => rfl⟩⟩, ht⟩) (fun _ h => absurd h List.not_mem_nil) dX6_isSymbol_16
set_option maxHeartbeats 4000000 in
set_option maxRecDepth 100000 in
/-- reference: gather -/
theorem qc_gather (l : Launch) (dC : Nat → ClassId) (dI : Nat → Nat → Nat) (cI cZ : ClassId) (h0 k0 T dn me du fi ls0 e1 e2 e3 e4 e5 e6 e7 e8 e9 e10 e11 e12 : Nat) (w : Nat → BitVec 8) (z : Nat → Bool) (M : Nat → Nat → BitVec 8) (pl : Nat → Nat) (mI mO mD mG mR : Nat → BitVec 8) (mB : Nat → Bool) (mU : Nat → BitVec 8) (mF : Nat → Bool) (x : Nat) (sz : Nat) (hx0 : x < 48) : Met l yX6_gather wsX6_gather ({ frames := 0, cells := 0, slots := 0, locals := 0 } : Room) (va_Pc [.ref h0, .int (nI x)] (fun U => U.heap.size = sz ∧ va_P (dC, dI) vwCl [(h0, .inr (5, [.int (nI k0), .int (nI T), .ref e1, .ref e2, .ref e3, .int (nI dn), .ref e4, .ref e5, .ref e6, .ref e7, .ref e8, .int (nI me), .int (nI du), .int (nI fi), .int (nI ls0), .ref e9, .ref e10, .ref e11, .ref e12])), (e9, .inl (cI, 16, .inl (qS w))), (e10, .inl (cZ, 16, .inl (qZ z))), (e11, .inl (cI, 20, .inl (qS (qg_f M)))), (e12, .inl (cI, 4, .inl (qN pl))), (e1, .inl (cI, 576, .inl (qS mI))), (e2, .inl (cI, 768, .inl (qS mO))), (e3, .inl (cI, 768, .inl (qS mD))), (e4, .inl (cI, 768, .inl (qS mG))), (e5, .inl (cI, 576, .inl (qS mR))), (e6, .inl (cZ, 48, .inl (qZ mB))), (e7, .inl (cI, 384, .inl (qS mU))), (e8, .inl (cZ, 384, .inl (qZ mF)))] U.heap ∧ va_K (dC, dI) vwCl [(cI, .int), (cZ, .boolean)] U ∧ va_D (fun _ => True) [(h0, .inr (5, [.int (nI k0), .int (nI T), .ref e1, .ref e2, .ref e3, .int (nI dn), .ref e4, .ref e5, .ref e6, .ref e7, .ref e8, .int (nI me), .int (nI du), .int (nI fi), .int (nI ls0), .ref e9, .ref e10, .ref e11, .ref e12])), (e9, .inl (cI, 16, .inl (qS w))), (e10, .inl (cZ, 16, .inl (qZ z))), (e11, .inl (cI, 20, .inl (qS (qg_f M)))), (e12, .inl (cI, 4, .inl (qN pl))), (e1, .inl (cI, 576, .inl (qS mI))), (e2, .inl (cI, 768, .inl (qS mO))), (e3, .inl (cI, 768, .inl (qS mD))), (e4, .inl (cI, 768, .inl (qS mG))), (e5, .inl (cI, 576, .inl (qS mR))), (e6, .inl (cZ, 48, .inl (qZ mB))), (e7, .inl (cI, 384, .inl (qS mU))), (e8, .inl (cZ, 384, .inl (qZ mF)))])) (va_Qv (fun (_ : Unit) => True) (fun _ t => va_P (dC, dI) vwCl [(h0, .inr (5, [.int (nI k0), .int (nI T), .ref e1, .ref e2, .ref e3, .int (nI dn), .ref e4, .ref e5, .ref e6, .ref e7, .ref e8, .int (nI me), .int (nI du), .int (nI fi), .int (nI ls0), .ref e9, .ref e10, .ref e11, .ref e12])), (e9, .inl (cI, 16, .inl (qS (qs_r1 mG x)))), (e10, .inl (cZ, 16, .inl (qZ z))), (e11, .inl (cI, 20, .inl (qS (qg_f M)))), (e12, .inl (cI, 4, .inl (qN pl))), (e1, .inl (cI, 576, .inl (qS mI))), (e2, .inl (cI, 768, .inl (qS mO))), (e3, .inl (cI, 768, .inl (qS mD))), (e4, .inl (cI, 768, .inl (qS mG))), (e5, .inl (cI, 576, .inl (qS mR))), (e6, .inl (cZ, 48, .inl (qZ mB))), (e7, .inl (cI, 384, .inl (qS mU))), (e8, .inl (cZ, 384, .inl (qZ mF)))] t.heap ∧ va_K (dC, dI) vwCl [(cI, .int), (cZ, .boolean)] t ∧ va_D (va_A [(h0, .inr (5, [.int (nI k0), .int (nI T), .ref e1, .ref e2, .ref e3, .int (nI dn), .ref e4, .ref e5, .ref e6, .ref e7, .ref e8, .int (nI me), .int (nI du), .int (nI fi), .int (nI ls0), .ref e9, .ref e10, .ref e11, .ref e12])), (e9, .inl (cI, 16, .inl (qS w))), (e10, .inl (cZ, 16, .inl (qZ z))), (e11, .inl (cI, 20, .inl (qS (qg_f M)))), (e12, .inl (cI, 4, .inl (qN pl))), (e1, .inl (cI, 576, .inl (qS mI))), (e2, .inl (cI, 768, .inl (qS mO))), (e3, .inl (cI, 768, .inl (qS mD))), (e4, .inl (cI, 768, .inl (qS mG))), (e5, .inl (cI, 576, .inl (qS mR))), (e6, .inl (cZ, 48, .inl (qZ mB))), (e7, .inl (cI, 384, .inl (qS mU))), (e8, .inl (cZ, 384, .inl (qZ mF)))] sz) [(h0, .inr (5, [.int (nI k0), .int (nI T), .ref e1, .ref e2, .ref e3, .int (nI dn), .ref e4, .ref e5, .ref e6, .ref e7, .ref e8, .int (nI me), .int (nI du), .int (nI fi), .int (nI ls0), .ref e9, .ref e10, .ref e11, .ref e12])), (e9, .inl (cI, 16, .inl (qS (qs_r1 mG x)))), (e10, .inl (cZ, 16, .inl (qZ z))), (e11, .inl (cI, 20, .inl (qS (qg_f M)))), (e12, .inl (cI, 4, .inl (qN pl))), (e1, .inl (cI, 576, .inl (qS mI))), (e2, .inl (cI, 768, .inl (qS mO))), (e3, .inl (cI, 768, .inl (qS mD))), (e4, .inl (cI, 768, .inl (qS mG))), (e5, .inl (cI, 576, .inl (qS mR))), (e6, .inl (cZ, 48, .inl (qZ mB))), (e7, .inl (cI, 384, .inl (qS mU))), (e8, .inl (cZ, 384, .inl (qZ mF)))]) (va_A [(h0, .inr (5, [.int (nI k0), .int (nI T), .ref e1, .ref e2, .ref e3, .int (nI dn), .ref e4, .ref e5, .ref e6, .ref e7, .ref e8, .int (nI me), .int (nI du), .int (nI fi), .int (nI ls0), .ref e9, .ref e10, .ref e11, .ref e12])), (e9, .inl (cI, 16, .inl (qS w))), (e10, .inl (cZ, 16, .inl (qZ z))), (e11, .inl (cI, 20, .inl (qS (qg_f M)))), (e12, .inl (cI, 4, .inl (qN pl))), (e1, .inl (cI, 576, .inl (qS mI))), (e2, .inl (cI, 768, .inl (qS mO))), (e3, .inl (cI, 768, .inl (qS mD))), (e4, .inl (cI, 768, .inl (qS mG))), (e5, .inl (cI, 576, .inl (qS mR))), (e6, .inl (cZ, 48, .inl (qZ mB))), (e7, .inl (cI, 384, .inl (qS mU))), (e8, .inl (cZ, 384, .inl (qZ mF)))] sz)) 0 0 (va_A [(h0, .inr (5, [.int (nI k0), .int (nI T), .ref e1, .ref e2, .ref e3, .int (nI dn), .ref e4, .ref e5, .ref e6, .ref e7, .ref e8, .int (nI me), .int (nI du), .int (nI fi), .int (nI ls0), .ref e9, .ref e10, .ref e11, .ref e12])), (e9, .inl (cI, 16, .inl (qS w))), (e10, .inl (cZ, 16, .inl (qZ z))), (e11, .inl (cI, 20, .inl (qS (qg_f M)))), (e12, .inl (cI, 4, .inl (qN pl))), (e1, .inl (cI, 576, .inl (qS mI))), (e2, .inl (cI, 768, .inl (qS mO))), (e3, .inl (cI, 768, .inl (qS mD))), (e4, .inl (cI, 768, .inl (qS mG))), (e5, .inl (cI, 576, .inl (qS mR))), (e6, .inl (cZ, 48, .inl (qZ mB))), (e7, .inl (cI, 384, .inl (qS mU))), (e8, .inl (cZ, 384, .inl (qZ mF)))] sz) := by
  refine Met.ofW (cc := cX6_gather) (maxL := 4) (ret := none) (by decide) rfl ?_
  intro p e s m args below meth c s₁ B hml hv
  obtain ⟨rfl, hsz, hP, hK, hD0⟩ := hv
  have hx := B.exec
  have hb := B.bytes
  have hr := B.returns
  have hts := atoms_spec (ws := wsX6_gather) B.pre
  have hown : s.vm.findClass RX6 = some m.cls := findClass_of_methodNamed B.named
  have hlocks := B.notSynchronized
  subst hsz
  have hD := hD0.self (sz := s.heap.size)
  generalize hAe : va_A [(h0, .inr (5, [.int (nI k0), .int (nI T), .ref e1, .ref e2, .ref e3, .int (nI dn), .ref e4, .ref e5, .ref e6, .ref e7, .ref e8, .int (nI me), .int (nI du), .int (nI fi), .int (nI ls0), .ref e9, .ref e10, .ref e11, .ref e12])), (e9, .inl (cI, 16, .inl (qS w))), (e10, .inl (cZ, 16, .inl (qZ z))), (e11, .inl (cI, 20, .inl (qS (qg_f M)))), (e12, .inl (cI, 4, .inl (qN pl))), (e1, .inl (cI, 576, .inl (qS mI))), (e2, .inl (cI, 768, .inl (qS mO))), (e3, .inl (cI, 768, .inl (qS mD))), (e4, .inl (cI, 768, .inl (qS mG))), (e5, .inl (cI, 576, .inl (qS mR))), (e6, .inl (cZ, 48, .inl (qZ mB))), (e7, .inl (cI, 384, .inl (qS mU))), (e8, .inl (cZ, 384, .inl (qZ mF)))] s.heap.size = A at hD ⊢
  have hA : ∀ q : Nat, s.heap.size ≤ q → A q := fun q h => by rw [← hAe]; exact Or.inr h
  have hS : va_S A s.heap s.heap [] := va_S.rf
  have hP : va_P (dC, dI) vwCl [(h0, .inr (5, [.int (nI k0), .int (nI T), .ref e1, .ref e2, .ref e3, .int (nI dn), .ref e4, .ref e5, .ref e6, .ref e7, .ref e8, .int (nI me), .int (nI du), .int (nI fi), .int (nI ls0), .ref e9, .ref e10, .ref e11, .ref e12])), (e9, .inl (cI, 16, .inl (qS w))), (e10, .inl (cZ, 16, .inl (qZ z))), (e11, .inl (cI, 20, .inl (qS (qg_f M)))), (e12, .inl (cI, 4, .inl (qN pl))), (e1, .inl (cI, 576, .inl (qS mI))), (e2, .inl (cI, 768, .inl (qS mO))), (e3, .inl (cI, 768, .inl (qS mD))), (e4, .inl (cI, 768, .inl (qS mG))), (e5, .inl (cI, 576, .inl (qS mR))), (e6, .inl (cZ, 48, .inl (qZ mB))), (e7, .inl (cI, 384, .inl (qS mU))), (e8, .inl (cZ, 384, .inl (qZ mF)))] s.heap := hP
  have hl := lv_entry ([.ref h0, .int (nI x)]) (n := 4) (Nat.le_of_ble_eq_true rfl)
  rw [lg_entry_eq]
  generalize (lg_sl ([.ref h0, .int (nI x)]) ++ List.replicate (4 - (lg_sl ([.ref h0, .int (nI x)])).length) Slot.unset).toArray = ls at hl ⊢
  have hl : lv_has ls 4 [(0, .ref h0), (1, .int (nI x))] := hl
  have k_35 := hts (.fieldLink RX6 35 "DiscCoderModel" "word" "[I") (by decide +kernel)
  have k_19 := hts (.fieldLink RX6 19 "DiscCoderModel" "got" "[I") (by decide +kernel)
  have i_X6 : ∀ w ∈ u_ws RX6 TX6 19, w ∈ wsX6_gather := by decide +kernel
  refine qr_nm (fun Q hQ => ?_)
  refine lv_iconst (v := nI 0) hx hb dX6_gather_0 (by decide) ?_
  refine lv_istore_n (lv' := [(2, .int (nI 0)), (0, .ref h0), (1, .int (nI x))]) hx hb dX6_gather_1 rfl hl (by decide) rfl (fun ls hl => ?_)
  have lp2 : ∀ (q i : Nat), i + q = 16 → ∀  (ls : Array Slot) (H : Heap) (locs : List Loc), lv_has ls 4 [(0, .ref h0), (1, .int (nI x)), (2, .int (nI i))] → va_P (dC, dI) vwCl [(h0, .inr (5, [.int (nI k0), .int (nI T), .ref e1, .ref e2, .ref e3, .int (nI dn), .ref e4, .ref e5, .ref e6, .ref e7, .ref e8, .int (nI me), .int (nI du), .int (nI fi), .int (nI ls0), .ref e9, .ref e10, .ref e11, .ref e12])), (e9, .inl (cI, 16, .inl (qS (qm_cs w (qs_r0 mG x) i)))), (e10, .inl (cZ, 16, .inl (qZ z))), (e11, .inl (cI, 20, .inl (qS (qg_f M)))), (e12, .inl (cI, 4, .inl (qN pl))), (e1, .inl (cI, 576, .inl (qS mI))), (e2, .inl (cI, 768, .inl (qS mO))), (e3, .inl (cI, 768, .inl (qS mD))), (e4, .inl (cI, 768, .inl (qS mG))), (e5, .inl (cI, 576, .inl (qS mR))), (e6, .inl (cZ, 48, .inl (qZ mB))), (e7, .inl (cI, 384, .inl (qS mU))), (e8, .inl (cZ, 384, .inl (qZ mF)))] H → va_D A [(h0, .inr (5, [.int (nI k0), .int (nI T), .ref e1, .ref e2, .ref e3, .int (nI dn), .ref e4, .ref e5, .ref e6, .ref e7, .ref e8, .int (nI me), .int (nI du), .int (nI fi), .int (nI ls0), .ref e9, .ref e10, .ref e11, .ref e12])), (e9, .inl (cI, 16, .inl (qS (qm_cs w (qs_r0 mG x) i)))), (e10, .inl (cZ, 16, .inl (qZ z))), (e11, .inl (cI, 20, .inl (qS (qg_f M)))), (e12, .inl (cI, 4, .inl (qN pl))), (e1, .inl (cI, 576, .inl (qS mI))), (e2, .inl (cI, 768, .inl (qS mO))), (e3, .inl (cI, 768, .inl (qS mD))), (e4, .inl (cI, 768, .inl (qS mG))), (e5, .inl (cI, 576, .inl (qS mR))), (e6, .inl (cZ, 48, .inl (qZ mB))), (e7, .inl (cI, 384, .inl (qS mU))), (e8, .inl (cZ, 384, .inl (qZ mF)))] → va_S A s.heap H locs → W p l e (headSpec wsX6_gather ({ frames := 0, cells := 0, slots := 0, locals := 0 } : Room)).room s m ([.ref h0, .int (nI x)] : List Value).toArray below meth c H locs 0 0 Q (F0 m 2 ls []) := by
    intro q
    induction q with
    | zero =>
      intro i hi  ls H locs hl hP hD hS
      have e9 : 16 = i := by omega
      subst e9
      refine lv_iload_n hx hb dX6_gather_2 rfl (lv_at hl 2 rfl) ?_
      refine lv_bipush (v := nI 16) hx hb dX6_gather_3 (by decide) ?_
      refine qr_ge (tgt := 47) hx hb dX6_gather_5 rfl (by omega) (by omega) (fun b5 => ?_) (fun h => absurd h (by omega))
      obtain ⟨hP, hD⟩ := qr_same (g := qS (qs_r1 mG x)) hP hD 1 rfl (fun j hj => congrArg sI ((qm_cs_at hj).trans (if_pos hj).symm))
      have hP : va_P (dC, dI) vwCl [(h0, .inr (5, [.int (nI k0), .int (nI T), .ref e1, .ref e2, .ref e3, .int (nI dn), .ref e4, .ref e5, .ref e6, .ref e7, .ref e8, .int (nI me), .int (nI du), .int (nI fi), .int (nI ls0), .ref e9, .ref e10, .ref e11, .ref e12])), (e9, .inl (cI, 16, .inl (qS (qs_r1 mG x)))), (e10, .inl (cZ, 16, .inl (qZ z))), (e11, .inl (cI, 20, .inl (qS (qg_f M)))), (e12, .inl (cI, 4, .inl (qN pl))), (e1, .inl (cI, 576, .inl (qS mI))), (e2, .inl (cI, 768, .inl (qS mO))), (e3, .inl (cI, 768, .inl (qS mD))), (e4, .inl (cI, 768, .inl (qS mG))), (e5, .inl (cI, 576, .inl (qS mR))), (e6, .inl (cZ, 48, .inl (qZ mB))), (e7, .inl (cI, 384, .inl (qS mU))), (e8, .inl (cZ, 384, .inl (qZ mF)))] H := hP
      have hD : va_D A [(h0, .inr (5, [.int (nI k0), .int (nI T), .ref e1, .ref e2, .ref e3, .int (nI dn), .ref e4, .ref e5, .ref e6, .ref e7, .ref e8, .int (nI me), .int (nI du), .int (nI fi), .int (nI ls0), .ref e9, .ref e10, .ref e11, .ref e12])), (e9, .inl (cI, 16, .inl (qS (qs_r1 mG x)))), (e10, .inl (cZ, 16, .inl (qZ z))), (e11, .inl (cI, 20, .inl (qS (qg_f M)))), (e12, .inl (cI, 4, .inl (qN pl))), (e1, .inl (cI, 576, .inl (qS mI))), (e2, .inl (cI, 768, .inl (qS mO))), (e3, .inl (cI, 768, .inl (qS mD))), (e4, .inl (cI, 768, .inl (qS mG))), (e5, .inl (cI, 576, .inl (qS mR))), (e6, .inl (cZ, 48, .inl (qZ mB))), (e7, .inl (cI, 384, .inl (qS mU))), (e8, .inl (cZ, 384, .inl (qZ mF)))] := hD
      subst hQ
      exact W.vret hx hb hr (fun t ht hW => ⟨⟨(), rfl, trivial, by rw [ht]; exact hP, va_K.moved hW.alike hK, hD⟩, hS.F ht⟩) hS.2.2 dX6_gather_47
    | succ q ih =>
      intro i hi  ls H locs hl hP hD hS
      have li : i < 16 := by omega
      refine lv_iload_n hx hb dX6_gather_2 rfl (lv_at hl 2 rfl) ?_
      refine lv_bipush (v := nI 16) hx hb dX6_gather_3 (by decide) ?_
      refine qr_ge (tgt := 47) hx hb dX6_gather_5 rfl (by omega) (by omega) (fun h => absurd h (by omega)) (fun b5 => ?_)
      by_cases hsp : x = 0 ∧ i % 2 = 0
      · refine lv_iload_n hx hb dX6_gather_8 rfl (lv_at hl 1 rfl) ?_
        refine lv_iconst (v := nI 1) hx hb dX6_gather_9 (by decide) ?_
        refine qr_isub (z := nI x - nI 1) hx hb dX6_gather_10 rfl ?_
        refine lv_iload_n hx hb dX6_gather_11 rfl (lv_at hl 2 rfl) ?_
        refine lv_iconst (v := nI 2) hx hb dX6_gather_12 (by decide) ?_
        refine qr_irem (z := nI (i % 2)) hx hb dX6_gather_13 (by decide) (pk_rem (by omega) (by omega) (by omega)) ?_
        refine qr_iadd (z := nI x - nI 1 + nI (i % 2)) hx hb dX6_gather_14 rfl ?_
        refine lv_istore_n (lv' := [(3, .int (nI x - nI 1 + nI (i % 2))), (0, .ref h0), (1, .int (nI x)), (2, .int (nI i))]) hx hb dX6_gather_15 rfl hl (by decide) rfl (fun ls hl => ?_)
        refine lv_aload_n hx hb dX6_gather_16 rfl (lv_at hl 1 rfl) ?_
        refine va_get (D := (dC, dI)) (ci := 5) (v := .ref e9) (C := RX6) (T := TX6) (N := 19) hx hb hts i_X6 hown hK hP 0 rfl rfl 15 (by decide) k_35 (fun _ h9 => h9) rfl dX6_gather_17 ?_
        refine lv_iload_n hx hb dX6_gather_20 rfl (lv_at hl 3 rfl) ?_
        refine lv_iload_n hx hb dX6_gather_21 rfl (lv_at hl 0 rfl) ?_
        refine lv_if_ge (tgt := 29) hx hb dX6_gather_22 rfl  (fun h => absurd h (qs_neg1 hsp)) (fun b22 => ?_)
        refine lv_iconst (v := sI 0#8) hx hb dX6_gather_25 (by decide) ?_
        refine lv_goto (tgt := 40) hx hb dX6_gather_26 rfl ?_
        refine qr_istS (x := 0#8) hx hb hK hP hD hS 1 0 rfl rfl (by omega) (by omega) dX6_gather_40 (fun H locs hP hD hS => ?_)
        have hP : va_P (dC, dI) vwCl [(h0, .inr (5, [.int (nI k0), .int (nI T), .ref e1, .ref e2, .ref e3, .int (nI dn), .ref e4, .ref e5, .ref e6, .ref e7, .ref e8, .int (nI me), .int (nI du), .int (nI fi), .int (nI ls0), .ref e9, .ref e10, .ref e11, .ref e12])), (e9, .inl (cI, 16, .inl (qS (va_up (qm_cs w (qs_r0 mG x) i) i 0#8)))), (e10, .inl (cZ, 16, .inl (qZ z))), (e11, .inl (cI, 20, .inl (qS (qg_f M)))), (e12, .inl (cI, 4, .inl (qN pl))), (e1, .inl (cI, 576, .inl (qS mI))), (e2, .inl (cI, 768, .inl (qS mO))), (e3, .inl (cI, 768, .inl (qS mD))), (e4, .inl (cI, 768, .inl (qS mG))), (e5, .inl (cI, 576, .inl (qS mR))), (e6, .inl (cZ, 48, .inl (qZ mB))), (e7, .inl (cI, 384, .inl (qS mU))), (e8, .inl (cZ, 384, .inl (qZ mF)))] H := hP
        have hD : va_D A [(h0, .inr (5, [.int (nI k0), .int (nI T), .ref e1, .ref e2, .ref e3, .int (nI dn), .ref e4, .ref e5, .ref e6, .ref e7, .ref e8, .int (nI me), .int (nI du), .int (nI fi), .int (nI ls0), .ref e9, .ref e10, .ref e11, .ref e12])), (e9, .inl (cI, 16, .inl (qS (va_up (qm_cs w (qs_r0 mG x) i) i 0#8)))), (e10, .inl (cZ, 16, .inl (qZ z))), (e11, .inl (cI, 20, .inl (qS (qg_f M)))), (e12, .inl (cI, 4, .inl (qN pl))), (e1, .inl (cI, 576, .inl (qS mI))), (e2, .inl (cI, 768, .inl (qS mO))), (e3, .inl (cI, 768, .inl (qS mD))), (e4, .inl (cI, 768, .inl (qS mG))), (e5, .inl (cI, 576, .inl (qS mR))), (e6, .inl (cZ, 48, .inl (qZ mB))), (e7, .inl (cI, 384, .inl (qS mU))), (e8, .inl (cZ, 384, .inl (qZ mF)))] := hD
        refine lv_iinc (k := 3) (v := nI (i + 1)) (lv' := [(2, .int (nI (i + 1))), (3, .int (nI x - nI 1 + nI (i % 2))), (0, .ref h0), (1, .int (nI x))]) hx hb dX6_gather_41 hl rfl (qr_inc _) (by decide) rfl (fun ls hl => ?_)
        refine lv_goto (tgt := 2) hx hb dX6_gather_44 rfl ?_
        have hl := lv_sub (l' := [(0, .ref h0), (1, .int (nI x)), (2, .int (nI (i + 1)))]) hl [2, 3, 0] rfl
        have e1 : qm_cs w (qs_r0 mG x) (i + 1) = va_up (qm_cs w (qs_r0 mG x) i) i 0#8 := by rw [qm_cs, show qs_r0 mG x i = 0#8 from if_pos hsp]
        exact ih (i + 1) (by omega)  ls H _ (by exact hl) (by rw [e1]; exact hP) (by rw [e1]; exact hD) hS 
      · refine lv_iload_n hx hb dX6_gather_8 rfl (lv_at hl 1 rfl) ?_
        refine lv_iconst (v := nI 1) hx hb dX6_gather_9 (by decide) ?_
        refine qr_isub (z := nI x - nI 1) hx hb dX6_gather_10 rfl ?_
        refine lv_iload_n hx hb dX6_gather_11 rfl (lv_at hl 2 rfl) ?_
        refine lv_iconst (v := nI 2) hx hb dX6_gather_12 (by decide) ?_
        refine qr_irem (z := nI (i % 2)) hx hb dX6_gather_13 (by decide) (pk_rem (by omega) (by omega) (by omega)) ?_
        refine qr_iadd (z := nI (x + i % 2 - 1)) hx hb dX6_gather_14 (qs_sub1 (by omega)) ?_
        refine lv_istore_n (lv' := [(3, .int (nI (x + i % 2 - 1))), (0, .ref h0), (1, .int (nI x)), (2, .int (nI i))]) hx hb dX6_gather_15 rfl hl (by decide) rfl (fun ls hl => ?_)
        refine lv_aload_n hx hb dX6_gather_16 rfl (lv_at hl 1 rfl) ?_
        refine va_get (D := (dC, dI)) (ci := 5) (v := .ref e9) (C := RX6) (T := TX6) (N := 19) hx hb hts i_X6 hown hK hP 0 rfl rfl 15 (by decide) k_35 (fun _ h9 => h9) rfl dX6_gather_17 ?_
        refine lv_iload_n hx hb dX6_gather_20 rfl (lv_at hl 3 rfl) ?_
        refine lv_iload_n hx hb dX6_gather_21 rfl (lv_at hl 0 rfl) ?_
        refine lv_if_ge (tgt := 29) hx hb dX6_gather_22 rfl  (fun b22 => ?_) (fun h => absurd (nI_pos' (by omega)) h)
        refine lv_aload_n hx hb dX6_gather_29 rfl (lv_at hl 1 rfl) ?_
        refine va_get (D := (dC, dI)) (ci := 5) (v := .ref e4) (C := RX6) (T := TX6) (N := 19) hx hb hts i_X6 hown hK hP 0 rfl rfl 6 (by decide) k_19 (fun _ h9 => h9) rfl dX6_gather_30 ?_
        refine lv_bipush (v := nI 16) hx hb dX6_gather_33 (by decide) ?_
        refine lv_iload_n hx hb dX6_gather_35 rfl (lv_at hl 0 rfl) ?_
        refine qr_imul (z := nI (16 * (x + i % 2 - 1))) hx hb dX6_gather_36 (pk_mul _ _) ?_
        refine lv_iload_n hx hb dX6_gather_37 rfl (lv_at hl 3 rfl) ?_
        refine qr_iadd (z := nI ((16 * (x + i % 2 - 1)) + i)) hx hb dX6_gather_38 (nI_add _ _) ?_
        refine qr_ildS hx hb hK hP 8 0 rfl rfl (by omega) (by omega) dX6_gather_39 ?_
        refine qr_istS (x := mG ((16 * (x + i % 2 - 1)) + i)) hx hb hK hP hD hS 1 0 rfl rfl (by omega) (by omega) dX6_gather_40 (fun H locs hP hD hS => ?_)
        have hP : va_P (dC, dI) vwCl [(h0, .inr (5, [.int (nI k0), .int (nI T), .ref e1, .ref e2, .ref e3, .int (nI dn), .ref e4, .ref e5, .ref e6, .ref e7, .ref e8, .int (nI me), .int (nI du), .int (nI fi), .int (nI ls0), .ref e9, .ref e10, .ref e11, .ref e12])), (e9, .inl (cI, 16, .inl (qS (va_up (qm_cs w (qs_r0 mG x) i) i (mG ((16 * (x + i % 2 - 1)) + i)))))), (e10, .inl (cZ, 16, .inl (qZ z))), (e11, .inl (cI, 20, .inl (qS (qg_f M)))), (e12, .inl (cI, 4, .inl (qN pl))), (e1, .inl (cI, 576, .inl (qS mI))), (e2, .inl (cI, 768, .inl (qS mO))), (e3, .inl (cI, 768, .inl (qS mD))), (e4, .inl (cI, 768, .inl (qS mG))), (e5, .inl (cI, 576, .inl (qS mR))), (e6, .inl (cZ, 48, .inl (qZ mB))), (e7, .inl (cI, 384, .inl (qS mU))), (e8, .inl (cZ, 384, .inl (qZ mF)))] H := hP
        have hD : va_D A [(h0, .inr (5, [.int (nI k0), .int (nI T), .ref e1, .ref e2, .ref e3, .int (nI dn), .ref e4, .ref e5, .ref e6, .ref e7, .ref e8, .int (nI me), .int (nI du), .int (nI fi), .int (nI ls0), .ref e9, .ref e10, .ref e11, .ref e12])), (e9, .inl (cI, 16, .inl (qS (va_up (qm_cs w (qs_r0 mG x) i) i (mG ((16 * (x + i % 2 - 1)) + i)))))), (e10, .inl (cZ, 16, .inl (qZ z))), (e11, .inl (cI, 20, .inl (qS (qg_f M)))), (e12, .inl (cI, 4, .inl (qN pl))), (e1, .inl (cI, 576, .inl (qS mI))), (e2, .inl (cI, 768, .inl (qS mO))), (e3, .inl (cI, 768, .inl (qS mD))), (e4, .inl (cI, 768, .inl (qS mG))), (e5, .inl (cI, 576, .inl (qS mR))), (e6, .inl (cZ, 48, .inl (qZ mB))), (e7, .inl (cI, 384, .inl (qS mU))), (e8, .inl (cZ, 384, .inl (qZ mF)))] := hD
        refine lv_iinc (k := 3) (v := nI (i + 1)) (lv' := [(2, .int (nI (i + 1))), (3, .int (nI (x + i % 2 - 1))), (0, .ref h0), (1, .int (nI x))]) hx hb dX6_gather_41 hl rfl (qr_inc _) (by decide) rfl (fun ls hl => ?_)
        refine lv_goto (tgt := 2) hx hb dX6_gather_44 rfl ?_
        have hl := lv_sub (l' := [(0, .ref h0), (1, .int (nI x)), (2, .int (nI (i + 1)))]) hl [2, 3, 0] rfl
        have e2 : qm_cs w (qs_r0 mG x) (i + 1) = va_up (qm_cs w (qs_r0 mG x) i) i (mG ((16 * (x + i % 2 - 1)) + i)) := by rw [qm_cs, show qs_r0 mG x i = mG (16 * (x + i % 2 - 1) + i) from if_neg hsp]
        exact ih (i + 1) (by omega)  ls H _ (by exact hl) (by rw [e2]; exact hP) (by rw [e2]; exact hD) hS 
  have hl := lv_sub (l' := [(0, .ref h0), (1, .int (nI x)), (2, .int (nI 0))]) hl [1, 2, 0] rfl
  exact lp2 16 0 (by omega)  ls s.heap _ hl hP hD hS 
