set_option maxHeartbeats 4000000 in
set_option maxRecDepth 100000 in
/-- reference: burst -/
theorem qc_mbur (l : Launch) (dC : Nat → ClassId) (dI : Nat → Nat → Nat) (cI cZ : ClassId) (h0 k0 T dn me du fi ls0 e1 e2 e3 e4 e5 e6 e7 e8 e9 e10 e11 e12 : Nat) (w : Nat → BitVec 8) (z : Nat → Bool) (M : Nat → Nat → BitVec 8) (pl : Nat → Nat) (mI mO mD mG mR : Nat → BitVec 8) (mB : Nat → Bool) (mU : Nat → BitVec 8) (mF : Nat → Bool) (x q : Nat) (v : BitVec 8) (sz : Nat) (hT : T ≤ 48) (hdn : dn ≤ 48) (hq0 : 0 < q) (hr0 : x + q ≤ 16 * T) (hd0 : dn ≤ x / 16) : Met l yX6_burst wsX6_burst ({ frames := 1, cells := 0, slots := 0, locals := 20 } : Room) (va_Pc [.ref h0, .int (nI x), .int (nI q), .int (sI v)] (fun U => U.heap.size = sz ∧ va_P (dC, dI) vwCl [(h0, .inr (5, [.int (nI k0), .int (nI T), .ref e1, .ref e2, .ref e3, .int (nI dn), .ref e4, .ref e5, .ref e6, .ref e7, .ref e8, .int (nI me), .int (nI du), .int (nI fi), .int (nI ls0), .ref e9, .ref e10, .ref e11, .ref e12])), (e9, .inl (cI, 16, .inl (qS w))), (e10, .inl (cZ, 16, .inl (qZ z))), (e11, .inl (cI, 20, .inl (qS (qg_f M)))), (e12, .inl (cI, 4, .inl (qN pl))), (e1, .inl (cI, 576, .inl (qS mI))), (e2, .inl (cI, 768, .inl (qS mO))), (e3, .inl (cI, 768, .inl (qS mD))), (e4, .inl (cI, 768, .inl (qS mG))), (e5, .inl (cI, 576, .inl (qS mR))), (e6, .inl (cZ, 48, .inl (qZ mB))), (e7, .inl (cI, 384, .inl (qS mU))), (e8, .inl (cZ, 384, .inl (qZ mF)))] U.heap ∧ va_K (dC, dI) vwCl [(cI, .int), (cZ, .boolean)] U ∧ va_D (fun _ => True) [(h0, .inr (5, [.int (nI k0), .int (nI T), .ref e1, .ref e2, .ref e3, .int (nI dn), .ref e4, .ref e5, .ref e6, .ref e7, .ref e8, .int (nI me), .int (nI du), .int (nI fi), .int (nI ls0), .ref e9, .ref e10, .ref e11, .ref e12])), (e9, .inl (cI, 16, .inl (qS w))), (e10, .inl (cZ, 16, .inl (qZ z))), (e11, .inl (cI, 20, .inl (qS (qg_f M)))), (e12, .inl (cI, 4, .inl (qN pl))), (e1, .inl (cI, 576, .inl (qS mI))), (e2, .inl (cI, 768, .inl (qS mO))), (e3, .inl (cI, 768, .inl (qS mD))), (e4, .inl (cI, 768, .inl (qS mG))), (e5, .inl (cI, 576, .inl (qS mR))), (e6, .inl (cZ, 48, .inl (qZ mB))), (e7, .inl (cI, 384, .inl (qS mU))), (e8, .inl (cZ, 384, .inl (qZ mF)))])) (va_Qv (fun (_ : Unit) => True) (fun _ t => va_P (dC, dI) vwCl [(h0, .inr (5, [.int (nI 0), .int (nI T), .ref e1, .ref e2, .ref e3, .int (nI dn), .ref e4, .ref e5, .ref e6, .ref e7, .ref e8, .int (nI me), .int (nI du), .int (nI fi), .int (nI ls0), .ref e9, .ref e10, .ref e11, .ref e12])), (e9, .inl (cI, 16, .inl (qS w))), (e10, .inl (cZ, 16, .inl (qZ z))), (e11, .inl (cI, 20, .inl (qS (qg_f M)))), (e12, .inl (cI, 4, .inl (qN pl))), (e1, .inl (cI, 576, .inl (qS mI))), (e2, .inl (cI, 768, .inl (qS mO))), (e3, .inl (cI, 768, .inl (qS (qs_bu mD x v q)))), (e4, .inl (cI, 768, .inl (qS mG))), (e5, .inl (cI, 576, .inl (qS mR))), (e6, .inl (cZ, 48, .inl (qZ mB))), (e7, .inl (cI, 384, .inl (qS mU))), (e8, .inl (cZ, 384, .inl (qZ mF)))] t.heap ∧ va_K (dC, dI) vwCl [(cI, .int), (cZ, .boolean)] t ∧ va_D (va_A [(h0, .inr (5, [.int (nI k0), .int (nI T), .ref e1, .ref e2, .ref e3, .int (nI dn), .ref e4, .ref e5, .ref e6, .ref e7, .ref e8, .int (nI me), .int (nI du), .int (nI fi), .int (nI ls0), .ref e9, .ref e10, .ref e11, .ref e12])), (e9, .inl (cI, 16, .inl (qS w))), (e10, .inl (cZ, 16, .inl (qZ z))), (e11, .inl (cI, 20, .inl (qS (qg_f M)))), (e12, .inl (cI, 4, .inl (qN pl))), (e1, .inl (cI, 576, .inl (qS mI))), (e2, .inl (cI, 768, .inl (qS mO))), (e3, .inl (cI, 768, .inl (qS mD))), (e4, .inl (cI, 768, .inl (qS mG))), (e5, .inl (cI, 576, .inl (qS mR))), (e6, .inl (cZ, 48, .inl (qZ mB))), (e7, .inl (cI, 384, .inl (qS mU))), (e8, .inl (cZ, 384, .inl (qZ mF)))] sz) [(h0, .inr (5, [.int (nI 0), .int (nI T), .ref e1, .ref e2, .ref e3, .int (nI dn), .ref e4, .ref e5, .ref e6, .ref e7, .ref e8, .int (nI me), .int (nI du), .int (nI fi), .int (nI ls0), .ref e9, .ref e10, .ref e11, .ref e12])), (e9, .inl (cI, 16, .inl (qS w))), (e10, .inl (cZ, 16, .inl (qZ z))), (e11, .inl (cI, 20, .inl (qS (qg_f M)))), (e12, .inl (cI, 4, .inl (qN pl))), (e1, .inl (cI, 576, .inl (qS mI))), (e2, .inl (cI, 768, .inl (qS mO))), (e3, .inl (cI, 768, .inl (qS (qs_bu mD x v q)))), (e4, .inl (cI, 768, .inl (qS mG))), (e5, .inl (cI, 576, .inl (qS mR))), (e6, .inl (cZ, 48, .inl (qZ mB))), (e7, .inl (cI, 384, .inl (qS mU))), (e8, .inl (cZ, 384, .inl (qZ mF)))]) (va_A [(h0, .inr (5, [.int (nI k0), .int (nI T), .ref e1, .ref e2, .ref e3, .int (nI dn), .ref e4, .ref e5, .ref e6, .ref e7, .ref e8, .int (nI me), .int (nI du), .int (nI fi), .int (nI ls0), .ref e9, .ref e10, .ref e11, .ref e12])), (e9, .inl (cI, 16, .inl (qS w))), (e10, .inl (cZ, 16, .inl (qZ z))), (e11, .inl (cI, 20, .inl (qS (qg_f M)))), (e12, .inl (cI, 4, .inl (qN pl))), (e1, .inl (cI, 576, .inl (qS mI))), (e2, .inl (cI, 768, .inl (qS mO))), (e3, .inl (cI, 768, .inl (qS mD))), (e4, .inl (cI, 768, .inl (qS mG))), (e5, .inl (cI, 576, .inl (qS mR))), (e6, .inl (cZ, 48, .inl (qZ mB))), (e7, .inl (cI, 384, .inl (qS mU))), (e8, .inl (cZ, 384, .inl (qZ mF)))] sz)) 0 0 (va_A [(h0, .inr (5, [.int (nI k0), .int (nI T), .ref e1, .ref e2, .ref e3, .int (nI dn), .ref e4, .ref e5, .ref e6, .ref e7, .ref e8, .int (nI me), .int (nI du), .int (nI fi), .int (nI ls0), .ref e9, .ref e10, .ref e11, .ref e12])), (e9, .inl (cI, 16, .inl (qS w))), (e10, .inl (cZ, 16, .inl (qZ z))), (e11, .inl (cI, 20, .inl (qS (qg_f M)))), (e12, .inl (cI, 4, .inl (qN pl))), (e1, .inl (cI, 576, .inl (qS mI))), (e2, .inl (cI, 768, .inl (qS mO))), (e3, .inl (cI, 768, .inl (qS mD))), (e4, .inl (cI, 768, .inl (qS mG))), (e5, .inl (cI, 576, .inl (qS mR))), (e6, .inl (cZ, 48, .inl (qZ mB))), (e7, .inl (cI, 384, .inl (qS mU))), (e8, .inl (cZ, 384, .inl (qZ mF)))] sz) := by
  refine Met.ofW (cc := cX6_burst) (maxL := 5) (ret := none) (by decide) rfl ?_
  intro p e s m args below meth c s₁ B hml hv
  obtain ⟨rfl, hsz, hP, hK, hD0⟩ := hv
  have hx := B.exec
  have hb := B.bytes
  have hr := B.returns
  have hts := atoms_spec (ws := wsX6_burst) B.pre
  have hown : s.vm.findClass RX6 = some m.cls := findClass_of_methodNamed B.named
  have hlocks := B.notSynchronized
  subst hsz
  have hD := hD0.self (sz := s.heap.size)
  generalize hAe : va_A [(h0, .inr (5, [.int (nI k0), .int (nI T), .ref e1, .ref e2, .ref e3, .int (nI dn), .ref e4, .ref e5, .ref e6, .ref e7, .ref e8, .int (nI me), .int (nI du), .int (nI fi), .int (nI ls0), .ref e9, .ref e10, .ref e11, .ref e12])), (e9, .inl (cI, 16, .inl (qS w))), (e10, .inl (cZ, 16, .inl (qZ z))), (e11, .inl (cI, 20, .inl (qS (qg_f M)))), (e12, .inl (cI, 4, .inl (qN pl))), (e1, .inl (cI, 576, .inl (qS mI))), (e2, .inl (cI, 768, .inl (qS mO))), (e3, .inl (cI, 768, .inl (qS mD))), (e4, .inl (cI, 768, .inl (qS mG))), (e5, .inl (cI, 576, .inl (qS mR))), (e6, .inl (cZ, 48, .inl (qZ mB))), (e7, .inl (cI, 384, .inl (qS mU))), (e8, .inl (cZ, 384, .inl (qZ mF)))] s.heap.size = A at hD ⊢
  have hA : ∀ q : Nat, s.heap.size ≤ q → A q := fun q h => by rw [← hAe]; exact Or.inr h
  have hS : va_S A s.heap s.heap [] := va_S.rf
  have hP : va_P (dC, dI) vwCl [(h0, .inr (5, [.int (nI k0), .int (nI T), .ref e1, .ref e2, .ref e3, .int (nI dn), .ref e4, .ref e5, .ref e6, .ref e7, .ref e8, .int (nI me), .int (nI du), .int (nI fi), .int (nI ls0), .ref e9, .ref e10, .ref e11, .ref e12])), (e9, .inl (cI, 16, .inl (qS w))), (e10, .inl (cZ, 16, .inl (qZ z))), (e11, .inl (cI, 20, .inl (qS (qg_f M)))), (e12, .inl (cI, 4, .inl (qN pl))), (e1, .inl (cI, 576, .inl (qS mI))), (e2, .inl (cI, 768, .inl (qS mO))), (e3, .inl (cI, 768, .inl (qS mD))), (e4, .inl (cI, 768, .inl (qS mG))), (e5, .inl (cI, 576, .inl (qS mR))), (e6, .inl (cZ, 48, .inl (qZ mB))), (e7, .inl (cI, 384, .inl (qS mU))), (e8, .inl (cZ, 384, .inl (qZ mF)))] s.heap := hP
  have hl := lv_entry ([.ref h0, .int (nI x), .int (nI q), .int (sI v)]) (n := 5) (Nat.le_of_ble_eq_true rfl)
  rw [lg_entry_eq]
  generalize (lg_sl ([.ref h0, .int (nI x), .int (nI q), .int (sI v)]) ++ List.replicate (5 - (lg_sl ([.ref h0, .int (nI x), .int (nI q), .int (sI v)])).length) Slot.unset).toArray = ls at hl ⊢
  have hl : lv_has ls 5 [(0, .ref h0), (1, .int (nI x)), (2, .int (nI q)), (3, .int (sI v))] := hl
  have k_79 := hts (.fieldLink RX6 79 "DiscCoderModel" "frames" "I") (by decide +kernel)
  have k_96 := hts (.fieldLink RX6 96 "DiscCoderModel" "done" "I") (by decide +kernel)
  have k_47 := hts (.fieldLink RX6 47 "DiscCoderModel" "code" "I") (by decide +kernel)
  have k_16 := hts (.fieldLink RX6 16 "DiscCoderModel" "disc" "[I") (by decide +kernel)
  have i_X6 : ∀ w ∈ u_ws RX6 TX6 19, w ∈ wsX6_burst := by decide +kernel
  refine qr_nm (fun Q hQ => ?_)
  refine lv_aload_n hx hb dX6_burst_0 rfl (lv_at hl 0 rfl) ?_
  refine lv_iload_n hx hb dX6_burst_1 rfl (lv_at hl 2 rfl) ?_
  refine lv_if_lt (tgt := 12) hx hb dX6_burst_2 rfl  (fun h => absurd h (nI_pos (by omega))) (fun b2 => ?_)
  refine lv_iload_n hx hb dX6_burst_5 rfl (lv_at hl 3 rfl) ?_
  refine vp_callSi (va_Run.run (va_runS (As := [.int (sI v)]) (rest := [.ref h0]) ⟨hx, hb, hml, hown, hts⟩ (qc_isSym l (sI v) ) (va_cwS 1 hts gX6_burst_X6_isSymbol rfl rfl rfl (by decide +kernel) ⟨Nat.le_of_ble_eq_true rfl, Nat.le_of_ble_eq_true rfl⟩) ⟨fun a U g mk q => q, fun U hU hW => ⟨rfl, trivial⟩⟩ rfl rfl hl.1 rfl (lv_room (Nat.le_of_ble_eq_true rfl)) dX6_burst_6 ⟨Nat.le_of_ble_eq_true rfl, Nat.le_of_ble_eq_true rfl⟩)) (fun rv6 hr6 => ?_)
  obtain ⟨v6, e6, hv6⟩ := hr6
  subst e6
  refine qr_ifneZ (tgt := 16) hx hb dX6_burst_9 rfl  (fun b9 => ?_) (fun h => absurd (hv6.mpr (qs_sym v)) (by rw [h]; decide))
  refine lv_iload_n hx hb dX6_burst_16 rfl (lv_at hl 2 rfl) ?_
  refine lv_if_le (tgt := 52) hx hb dX6_burst_17 rfl  (fun h => absurd h (nI_nle (by omega) (by omega))) (fun b17 => ?_)
  refine lv_iload_n hx hb dX6_burst_20 rfl (lv_at hl 1 rfl) ?_
  refine lv_if_lt (tgt := 48) hx hb dX6_burst_21 rfl  (fun h => absurd h (nI_pos (by omega))) (fun b21 => ?_)
  refine lv_iload_n hx hb dX6_burst_24 rfl (lv_at hl 1 rfl) ?_
  refine lv_bipush (v := nI 16) hx hb dX6_burst_25 (by decide) ?_
  refine lv_aload_n hx hb dX6_burst_27 rfl (lv_at hl 0 rfl) ?_
  refine va_get (D := (dC, dI)) (ci := 5) (v := .int (nI T)) (C := RX6) (T := TX6) (N := 19) hx hb hts i_X6 hown hK hP 0 rfl rfl 1 (by decide) k_79 (fun _ h9 => h9) rfl dX6_burst_28 ?_
  refine qr_imul (z := nI (16 * T)) hx hb dX6_burst_31 (pk_mul _ _) ?_
  refine qr_ge (tgt := 48) hx hb dX6_burst_32 rfl (by omega) (by omega) (fun h => absurd h (by omega)) (fun b32 => ?_)
  refine lv_iload_n hx hb dX6_burst_35 rfl (lv_at hl 2 rfl) ?_
  refine lv_bipush (v := nI 16) hx hb dX6_burst_36 (by decide) ?_
  refine lv_aload_n hx hb dX6_burst_38 rfl (lv_at hl 0 rfl) ?_
  refine va_get (D := (dC, dI)) (ci := 5) (v := .int (nI T)) (C := RX6) (T := TX6) (N := 19) hx hb hts i_X6 hown hK hP 0 rfl rfl 1 (by decide) k_79 (fun _ h9 => h9) rfl dX6_burst_39 ?_
  refine qr_imul (z := nI (16 * T)) hx hb dX6_burst_42 (pk_mul _ _) ?_
  refine lv_iload_n hx hb dX6_burst_43 rfl (lv_at hl 1 rfl) ?_
  refine qr_isub (z := nI ((16 * T) - x)) hx hb dX6_burst_44 (pk_sub (by omega)) ?_
  refine qr_le (tgt := 52) hx hb dX6_burst_45 rfl (by omega) (by omega) (fun b45 => ?_) (fun h => absurd h (by omega))
  refine lv_iload_n hx hb dX6_burst_52 rfl (lv_at hl 2 rfl) ?_
  refine lv_if_le (tgt := 71) hx hb dX6_burst_53 rfl  (fun h => absurd h (nI_nle (by omega) (by omega))) (fun b53 => ?_)
  refine lv_iload_n hx hb dX6_burst_56 rfl (lv_at hl 1 rfl) ?_
  refine lv_bipush (v := nI 16) hx hb dX6_burst_57 (by decide) ?_
  refine qr_idiv (z := nI (x / 16)) hx hb dX6_burst_59 (by decide) (pk_div (by omega) (by omega) (by omega)) ?_
  refine lv_aload_n hx hb dX6_burst_60 rfl (lv_at hl 0 rfl) ?_
  refine va_get (D := (dC, dI)) (ci := 5) (v := .int (nI dn)) (C := RX6) (T := TX6) (N := 19) hx hb hts i_X6 hown hK hP 0 rfl rfl 5 (by decide) k_96 (fun _ h9 => h9) rfl dX6_burst_61 ?_
  refine qr_ge (tgt := 71) hx hb dX6_burst_64 rfl (by omega) (by omega) (fun b64 => ?_) (fun h => absurd h (by omega))
  refine lv_iconst (v := nI 0) hx hb dX6_burst_71 (by decide) ?_
  refine va_put (D := (dC, dI)) (ci := 5) (v := .int (nI 0)) (ty := .int) (C := RX6) (T := TX6) (N := 19) hx hb hts i_X6 tyX6 tyX6_ok nmX6 hown hK hP hD hS 0 rfl rfl 0 (by decide) k_47 (fun _ h9 => h9) rfl (by decide +kernel) rfl rfl (Nat.le_of_ble_eq_true rfl) dX6_burst_72 (fun H locs hP hD hS => ?_)
  have hP : va_P (dC, dI) vwCl [(h0, .inr (5, [.int (nI 0), .int (nI T), .ref e1, .ref e2, .ref e3, .int (nI dn), .ref e4, .ref e5, .ref e6, .ref e7, .ref e8, .int (nI me), .int (nI du), .int (nI fi), .int (nI ls0), .ref e9, .ref e10, .ref e11, .ref e12])), (e9, .inl (cI, 16, .inl (qS w))), (e10, .inl (cZ, 16, .inl (qZ z))), (e11, .inl (cI, 20, .inl (qS (qg_f M)))), (e12, .inl (cI, 4, .inl (qN pl))), (e1, .inl (cI, 576, .inl (qS mI))), (e2, .inl (cI, 768, .inl (qS mO))), (e3, .inl (cI, 768, .inl (qS mD))), (e4, .inl (cI, 768, .inl (qS mG))), (e5, .inl (cI, 576, .inl (qS mR))), (e6, .inl (cZ, 48, .inl (qZ mB))), (e7, .inl (cI, 384, .inl (qS mU))), (e8, .inl (cZ, 384, .inl (qZ mF)))] H := hP
  have hD : va_D A [(h0, .inr (5, [.int (nI 0), .int (nI T), .ref e1, .ref e2, .ref e3, .int (nI dn), .ref e4, .ref e5, .ref e6, .ref e7, .ref e8, .int (nI me), .int (nI du), .int (nI fi), .int (nI ls0), .ref e9, .ref e10, .ref e11, .ref e12])), (e9, .inl (cI, 16, .inl (qS w))), (e10, .inl (cZ, 16, .inl (qZ z))), (e11, .inl (cI, 20, .inl (qS (qg_f M)))), (e12, .inl (cI, 4, .inl (qN pl))), (e1, .inl (cI, 576, .inl (qS mI))), (e2, .inl (cI, 768, .inl (qS mO))), (e3, .inl (cI, 768, .inl (qS mD))), (e4, .inl (cI, 768, .inl (qS mG))), (e5, .inl (cI, 576, .inl (qS mR))), (e6, .inl (cZ, 48, .inl (qZ mB))), (e7, .inl (cI, 384, .inl (qS mU))), (e8, .inl (cZ, 384, .inl (qZ mF)))] := hD
  refine lv_iconst (v := nI 0) hx hb dX6_burst_75 (by decide) ?_
  refine lv_istore (lv' := [(4, .int (nI 0)), (0, .ref h0), (1, .int (nI x)), (2, .int (nI q)), (3, .int (sI v))]) hx hb dX6_burst_76 hl (by decide) rfl (fun ls hl => ?_)
  have lp78 : ∀ (j k : Nat), k + j = q → ∀  (ls : Array Slot) (H : Heap) (locs : List Loc), lv_has ls 5 [(0, .ref h0), (1, .int (nI x)), (2, .int (nI q)), (3, .int (sI v)), (4, .int (nI k))] → va_P (dC, dI) vwCl [(h0, .inr (5, [.int (nI 0), .int (nI T), .ref e1, .ref e2, .ref e3, .int (nI dn), .ref e4, .ref e5, .ref e6, .ref e7, .ref e8, .int (nI me), .int (nI du), .int (nI fi), .int (nI ls0), .ref e9, .ref e10, .ref e11, .ref e12])), (e9, .inl (cI, 16, .inl (qS w))), (e10, .inl (cZ, 16, .inl (qZ z))), (e11, .inl (cI, 20, .inl (qS (qg_f M)))), (e12, .inl (cI, 4, .inl (qN pl))), (e1, .inl (cI, 576, .inl (qS mI))), (e2, .inl (cI, 768, .inl (qS mO))), (e3, .inl (cI, 768, .inl (qS (qs_bu mD x v k)))), (e4, .inl (cI, 768, .inl (qS mG))), (e5, .inl (cI, 576, .inl (qS mR))), (e6, .inl (cZ, 48, .inl (qZ mB))), (e7, .inl (cI, 384, .inl (qS mU))), (e8, .inl (cZ, 384, .inl (qZ mF)))] H → va_D A [(h0, .inr (5, [.int (nI 0), .int (nI T), .ref e1, .ref e2, .ref e3, .int (nI dn), .ref e4, .ref e5, .ref e6, .ref e7, .ref e8, .int (nI me), .int (nI du), .int (nI fi), .int (nI ls0), .ref e9, .ref e10, .ref e11, .ref e12])), (e9, .inl (cI, 16, .inl (qS w))), (e10, .inl (cZ, 16, .inl (qZ z))), (e11, .inl (cI, 20, .inl (qS (qg_f M)))), (e12, .inl (cI, 4, .inl (qN pl))), (e1, .inl (cI, 576, .inl (qS mI))), (e2, .inl (cI, 768, .inl (qS mO))), (e3, .inl (cI, 768, .inl (qS (qs_bu mD x v k)))), (e4, .inl (cI, 768, .inl (qS mG))), (e5, .inl (cI, 576, .inl (qS mR))), (e6, .inl (cZ, 48, .inl (qZ mB))), (e7, .inl (cI, 384, .inl (qS mU))), (e8, .inl (cZ, 384, .inl (qZ mF)))] → va_S A s.heap H locs → W p l e (headSpec wsX6_burst ({ frames := 1, cells := 0, slots := 0, locals := 20 } : Room)).room s m ([.ref h0, .int (nI x), .int (nI q), .int (sI v)] : List Value).toArray below meth c H locs 0 0 Q (F0 m 78 ls []) := by
    intro j
    induction j with
    | zero =>
      intro k hk  ls H locs hl hP hD hS
      have e9 : q = k := by omega
      subst e9
      refine lv_iload hx hb dX6_burst_78 (lv_at hl 4 rfl) ?_
      refine lv_iload_n hx hb dX6_burst_80 rfl (lv_at hl 2 rfl) ?_
      refine qr_ge (tgt := 110) hx hb dX6_burst_81 rfl (by omega) (by omega) (fun b81 => ?_) (fun h => absurd h (by omega))
      subst hQ
      exact W.vret hx hb hr (fun t ht hW => ⟨⟨(), rfl, trivial, by rw [ht]; exact hP, va_K.moved hW.alike hK, hD⟩, hS.F ht⟩) hS.2.2 dX6_burst_110
    | succ j ih =>
      intro k hk  ls H locs hl hP hD hS
      have lk : k < q := by omega
      refine lv_iload hx hb dX6_burst_78 (lv_at hl 4 rfl) ?_
      refine lv_iload_n hx hb dX6_burst_80 rfl (lv_at hl 2 rfl) ?_
      refine qr_ge (tgt := 110) hx hb dX6_burst_81 rfl (by omega) (by omega) (fun h => absurd h (by omega)) (fun b81 => ?_)
      refine lv_aload_n hx hb dX6_burst_84 rfl (lv_at hl 0 rfl) ?_
      refine va_get (D := (dC, dI)) (ci := 5) (v := .int (nI 0)) (C := RX6) (T := TX6) (N := 19) hx hb hts i_X6 hown hK hP 0 rfl rfl 0 (by decide) k_47 (fun _ h9 => h9) rfl dX6_burst_85 ?_
      refine qr_ifneN (tgt := 110) hx hb dX6_burst_88 rfl (by omega) (fun h => absurd rfl h) (fun b88 => ?_)
      refine lv_aload_n hx hb dX6_burst_91 rfl (lv_at hl 0 rfl) ?_
      refine va_get (D := (dC, dI)) (ci := 5) (v := .ref e3) (C := RX6) (T := TX6) (N := 19) hx hb hts i_X6 hown hK hP 0 rfl rfl 4 (by decide) k_16 (fun _ h9 => h9) rfl dX6_burst_92 ?_
      refine lv_iload_n hx hb dX6_burst_95 rfl (lv_at hl 1 rfl) ?_
      refine lv_iload hx hb dX6_burst_96 (lv_at hl 4 rfl) ?_
      refine qr_iadd (z := nI (x + k)) hx hb dX6_burst_98 (nI_add _ _) ?_
      refine lv_dup2_11 hx hb dX6_burst_99 rfl rfl ?_
      refine qr_ildS hx hb hK hP 7 0 rfl rfl (by omega) (by omega) dX6_burst_100 ?_
      refine lv_iload_n hx hb dX6_burst_101 rfl (lv_at hl 3 rfl) ?_
      refine qr_ixor (z := sI (((qs_bu mD x v k) (x + k)) ^^^ v)) hx hb dX6_burst_102 (sI_xor _ _) ?_
      refine qr_istS (x := ((qs_bu mD x v k) (x + k)) ^^^ v) hx hb hK hP hD hS 7 0 rfl rfl (by omega) (by omega) dX6_burst_103 (fun H locs hP hD hS => ?_)
      have hP : va_P (dC, dI) vwCl [(h0, .inr (5, [.int (nI 0), .int (nI T), .ref e1, .ref e2, .ref e3, .int (nI dn), .ref e4, .ref e5, .ref e6, .ref e7, .ref e8, .int (nI me), .int (nI du), .int (nI fi), .int (nI ls0), .ref e9, .ref e10, .ref e11, .ref e12])), (e9, .inl (cI, 16, .inl (qS w))), (e10, .inl (cZ, 16, .inl (qZ z))), (e11, .inl (cI, 20, .inl (qS (qg_f M)))), (e12, .inl (cI, 4, .inl (qN pl))), (e1, .inl (cI, 576, .inl (qS mI))), (e2, .inl (cI, 768, .inl (qS mO))), (e3, .inl (cI, 768, .inl (qS (va_up (qs_bu mD x v k) (x + k) (((qs_bu mD x v k) (x + k)) ^^^ v))))), (e4, .inl (cI, 768, .inl (qS mG))), (e5, .inl (cI, 576, .inl (qS mR))), (e6, .inl (cZ, 48, .inl (qZ mB))), (e7, .inl (cI, 384, .inl (qS mU))), (e8, .inl (cZ, 384, .inl (qZ mF)))] H := hP
      have hD : va_D A [(h0, .inr (5, [.int (nI 0), .int (nI T), .ref e1, .ref e2, .ref e3, .int (nI dn), .ref e4, .ref e5, .ref e6, .ref e7, .ref e8, .int (nI me), .int (nI du), .int (nI fi), .int (nI ls0), .ref e9, .ref e10, .ref e11, .ref e12])), (e9, .inl (cI, 16, .inl (qS w))), (e10, .inl (cZ, 16, .inl (qZ z))), (e11, .inl (cI, 20, .inl (qS (qg_f M)))), (e12, .inl (cI, 4, .inl (qN pl))), (e1, .inl (cI, 576, .inl (qS mI))), (e2, .inl (cI, 768, .inl (qS mO))), (e3, .inl (cI, 768, .inl (qS (va_up (qs_bu mD x v k) (x + k) (((qs_bu mD x v k) (x + k)) ^^^ v))))), (e4, .inl (cI, 768, .inl (qS mG))), (e5, .inl (cI, 576, .inl (qS mR))), (e6, .inl (cZ, 48, .inl (qZ mB))), (e7, .inl (cI, 384, .inl (qS mU))), (e8, .inl (cZ, 384, .inl (qZ mF)))] := hD
      refine lv_iinc (k := 4) (v := nI (k + 1)) (lv' := [(4, .int (nI (k + 1))), (0, .ref h0), (1, .int (nI x)), (2, .int (nI q)), (3, .int (sI v))]) hx hb dX6_burst_104 hl rfl (qr_inc _) (by decide) rfl (fun ls hl => ?_)
      refine lv_goto (tgt := 78) hx hb dX6_burst_107 rfl ?_
      have hl := lv_sub (l' := [(0, .ref h0), (1, .int (nI x)), (2, .int (nI q)), (3, .int (sI v)), (4, .int (nI (k + 1)))]) hl [1, 2, 3, 4, 0] rfl
      have e1 : qs_bu mD x v (k + 1) = va_up (qs_bu mD x v k) (x + k) (((qs_bu mD x v k) (x + k)) ^^^ v) := by first | rfl | (simp only [cond_true, cond_false])
      exact ih (k + 1) (by omega)  ls H _ (by exact hl) (by rw [e1]; exact hP) (by rw [e1]; exact hD) hS 
  have hl := lv_sub (l' := [(0, .ref h0), (1, .int (nI x)), (2, .int (nI q)), (3, .int (sI v)), (4, .int (nI 0))]) hl [1, 2, 3, 4, 0] rfl
  exact lp78 q 0 (by omega)  ls H _ hl hP hD hS 
set_option maxHeartbeats 4000000 in
set_option maxRecDepth 100000 in
/-- reference: burst, no argument -/
theorem qc_mbur1 (l : Launch) (dC : Nat → ClassId) (dI : Nat → Nat → Nat) (cI cZ : ClassId) (h0 k0 T dn me du fi ls0 e1 e2 e3 e4 e5 e6 e7 e8 e9 e10 e11 e12 : Nat) (w : Nat → BitVec 8) (z : Nat → Bool) (M : Nat → Nat → BitVec 8) (pl : Nat → Nat) (mI mO mD mG mR : Nat → BitVec 8) (mB : Nat → Bool) (mU : Nat → BitVec 8) (mF : Nat → Bool) (x q u : Int32) (sz : Nat) (hno : q < 0 ∨ ¬ (¬ u < 0 ∧ ¬ nI 255 < u)) : Met l yX6_burst wsX6_burst ({ frames := 1, cells := 0, slots := 0, locals := 20 } : Room) (va_Pc [.ref h0, .int x, .int q, .int u] (fun U => U.heap.size = sz ∧ va_P (dC, dI) vwCl [(h0, .inr (5, [.int (nI k0), .int (nI T), .ref e1, .ref e2, .ref e3, .int (nI dn), .ref e4, .ref e5, .ref e6, .ref e7, .ref e8, .int (nI me), .int (nI du), .int (nI fi), .int (nI ls0), .ref e9, .ref e10, .ref e11, .ref e12])), (e9, .inl (cI, 16, .inl (qS w))), (e10, .inl (cZ, 16, .inl (qZ z))), (e11, .inl (cI, 20, .inl (qS (qg_f M)))), (e12, .inl (cI, 4, .inl (qN pl))), (e1, .inl (cI, 576, .inl (qS mI))), (e2, .inl (cI, 768, .inl (qS mO))), (e3, .inl (cI, 768, .inl (qS mD))), (e4, .inl (cI, 768, .inl (qS mG))), (e5, .inl (cI, 576, .inl (qS mR))), (e6, .inl (cZ, 48, .inl (qZ mB))), (e7, .inl (cI, 384, .inl (qS mU))), (e8, .inl (cZ, 384, .inl (qZ mF)))] U.heap ∧ va_K (dC, dI) vwCl [(cI, .int), (cZ, .boolean)] U ∧ va_D (fun _ => True) [(h0, .inr (5, [.int (nI k0), .int (nI T), .ref e1, .ref e2, .ref e3, .int (nI dn), .ref e4, .ref e5, .ref e6, .ref e7, .ref e8, .int (nI me), .int (nI du), .int (nI fi), .int (nI ls0), .ref e9, .ref e10, .ref e11, .ref e12])), (e9, .inl (cI, 16, .inl (qS w))), (e10, .inl (cZ, 16, .inl (qZ z))), (e11, .inl (cI, 20, .inl (qS (qg_f M)))), (e12, .inl (cI, 4, .inl (qN pl))), (e1, .inl (cI, 576, .inl (qS mI))), (e2, .inl (cI, 768, .inl (qS mO))), (e3, .inl (cI, 768, .inl (qS mD))), (e4, .inl (cI, 768, .inl (qS mG))), (e5, .inl (cI, 576, .inl (qS mR))), (e6, .inl (cZ, 48, .inl (qZ mB))), (e7, .inl (cI, 384, .inl (qS mU))), (e8, .inl (cZ, 384, .inl (qZ mF)))])) (va_Qv (fun (_ : Unit) => True) (fun _ t => va_P (dC, dI) vwCl [(h0, .inr (5, [.int (nI 1), .int (nI T), .ref e1, .ref e2, .ref e3, .int (nI dn), .ref e4, .ref e5, .ref e6, .ref e7, .ref e8, .int (nI me), .int (nI du), .int (nI fi), .int (nI ls0), .ref e9, .ref e10, .ref e11, .ref e12])), (e9, .inl (cI, 16, .inl (qS w))), (e10, .inl (cZ, 16, .inl (qZ z))), (e11, .inl (cI, 20, .inl (qS (qg_f M)))), (e12, .inl (cI, 4, .inl (qN pl))), (e1, .inl (cI, 576, .inl (qS mI))), (e2, .inl (cI, 768, .inl (qS mO))), (e3, .inl (cI, 768, .inl (qS mD))), (e4, .inl (cI, 768, .inl (qS mG))), (e5, .inl (cI, 576, .inl (qS mR))), (e6, .inl (cZ, 48, .inl (qZ mB))), (e7, .inl (cI, 384, .inl (qS mU))), (e8, .inl (cZ, 384, .inl (qZ mF)))] t.heap ∧ va_K (dC, dI) vwCl [(cI, .int), (cZ, .boolean)] t ∧ va_D (va_A [(h0, .inr (5, [.int (nI k0), .int (nI T), .ref e1, .ref e2, .ref e3, .int (nI dn), .ref e4, .ref e5, .ref e6, .ref e7, .ref e8, .int (nI me), .int (nI du), .int (nI fi), .int (nI ls0), .ref e9, .ref e10, .ref e11, .ref e12])), (e9, .inl (cI, 16, .inl (qS w))), (e10, .inl (cZ, 16, .inl (qZ z))), (e11, .inl (cI, 20, .inl (qS (qg_f M)))), (e12, .inl (cI, 4, .inl (qN pl))), (e1, .inl (cI, 576, .inl (qS mI))), (e2, .inl (cI, 768, .inl (qS mO))), (e3, .inl (cI, 768, .inl (qS mD))), (e4, .inl (cI, 768, .inl (qS mG))), (e5, .inl (cI, 576, .inl (qS mR))), (e6, .inl (cZ, 48, .inl (qZ mB))), (e7, .inl (cI, 384, .inl (qS mU))), (e8, .inl (cZ, 384, .inl (qZ mF)))] sz) [(h0, .inr (5, [.int (nI 1), .int (nI T), .ref e1, .ref e2, .ref e3, .int (nI dn), .ref e4, .ref e5, .ref e6, .ref e7, .ref e8, .int (nI me), .int (nI du), .int (nI fi), .int (nI ls0), .ref e9, .ref e10, .ref e11, .ref e12])), (e9, .inl (cI, 16, .inl (qS w))), (e10, .inl (cZ, 16, .inl (qZ z))), (e11, .inl (cI, 20, .inl (qS (qg_f M)))), (e12, .inl (cI, 4, .inl (qN pl))), (e1, .inl (cI, 576, .inl (qS mI))), (e2, .inl (cI, 768, .inl (qS mO))), (e3, .inl (cI, 768, .inl (qS mD))), (e4, .inl (cI, 768, .inl (qS mG))), (e5, .inl (cI, 576, .inl (qS mR))), (e6, .inl (cZ, 48, .inl (qZ mB))), (e7, .inl (cI, 384, .inl (qS mU))), (e8, .inl (cZ, 384, .inl (qZ mF)))]) (va_A [(h0, .inr (5, [.int (nI k0), .int (nI T), .ref e1, .ref e2, .ref e3, .int (nI dn), .ref e4, .ref e5, .ref e6, .ref e7, .ref e8, .int (nI me), .int (nI du), .int (nI fi), .int (nI ls0), .ref e9, .ref e10, .ref e11, .ref e12])), (e9, .inl (cI, 16, .inl (qS w))), (e10, .inl (cZ, 16, .inl (qZ z))), (e11, .inl (cI, 20, .inl (qS (qg_f M)))), (e12, .inl (cI, 4, .inl (qN pl))), (e1, .inl (cI, 576, .inl (qS mI))), (e2, .inl (cI, 768, .inl (qS mO))), (e3, .inl (cI, 768, .inl (qS mD))), (e4, .inl (cI, 768, .inl (qS mG))), (e5, .inl (cI, 576, .inl (qS mR))), (e6, .inl (cZ, 48, .inl (qZ mB))), (e7, .inl (cI, 384, .inl (qS mU))), (e8, .inl (cZ, 384, .inl (qZ mF)))] sz)) 0 0 (va_A [(h0, .inr (5, [.int (nI k0), .int (nI T), .ref e1, .ref e2, .ref e3, .int (nI dn), .ref e4, .ref e5, .ref e6, .ref e7, .ref e8, .int (nI me), .int (nI du), .int (nI fi), .int (nI ls0), .ref e9, .ref e10, .ref e11, .ref e12])), (e9, .inl (cI, 16, .inl (qS w))), (e10, .inl (cZ, 16, .inl (qZ z))), (e11, .inl (cI, 20, .inl (qS (qg_f M)))), (e12, .inl (cI, 4, .inl (qN pl))), (e1, .inl (cI, 576, .inl (qS mI))), (e2, .inl (cI, 768, .inl (qS mO))), (e3, .inl (cI, 768, .inl (qS mD))), (e4, .inl (cI, 768, .inl (qS mG))), (e5, .inl (cI, 576, .inl (qS mR))), (e6, .inl (cZ, 48, .inl (qZ mB))), (e7, .inl (cI, 384, .inl (qS mU))), (e8, .inl (cZ, 384, .inl (qZ mF)))] sz) := by
  refine Met.ofW (cc := cX6_burst) (maxL := 5) (ret := none) (by decide) rfl ?_
  intro p e s m args below meth c s₁ B hml hv
  obtain ⟨rfl, hsz, hP, hK, hD0⟩ := hv
  have hx := B.exec
  have hb := B.bytes
  have hr := B.returns
  have hts := atoms_spec (ws := wsX6_burst) B.pre
  have hown : s.vm.findClass RX6 = some m.cls := findClass_of_methodNamed B.named
  have hlocks := B.notSynchronized
  subst hsz
  have hD := hD0.self (sz := s.heap.size)
  generalize hAe : va_A [(h0, .inr (5, [.int (nI k0), .int (nI T), .ref e1, .ref e2, .ref e3, .int (nI dn), .ref e4, .ref e5, .ref e6, .ref e7, .ref e8, .int (nI me), .int (nI du), .int (nI fi), .int (nI ls0), .ref e9, .ref e10, .ref e11, .ref e12])), (e9, .inl (cI, 16, .inl (qS w))), (e10, .inl (cZ, 16, .inl (qZ z))), (e11, .inl (cI, 20, .inl (qS (qg_f M)))), (e12, .inl (cI, 4, .inl (qN pl))), (e1, .inl (cI, 576, .inl (qS mI))), (e2, .inl (cI, 768, .inl (qS mO))), (e3, .inl (cI, 768, .inl (qS mD))), (e4, .inl (cI, 768, .inl (qS mG))), (e5, .inl (cI, 576, .inl (qS mR))), (e6, .inl (cZ, 48, .inl (qZ mB))), (e7, .inl (cI, 384, .inl (qS mU))), (e8, .inl (cZ, 384, .inl (qZ mF)))] s.heap.size = A at hD ⊢
  have hA : ∀ q : Nat, s.heap.size ≤ q → A q := fun q h => by rw [← hAe]; exact Or.inr h
  have hS : va_S A s.heap s.heap [] := va_S.rf
  have hP : va_P (dC, dI) vwCl [(h0, .inr (5, [.int (nI k0), .int (nI T), .ref e1, .ref e2, .ref e3, .int (nI dn), .ref e4, .ref e5, .ref e6, .ref e7, .ref e8, .int (nI me), .int (nI du), .int (nI fi), .int (nI ls0), .ref e9, .ref e10, .ref e11, .ref e12])), (e9, .inl (cI, 16, .inl (qS w))), (e10, .inl (cZ, 16, .inl (qZ z))), (e11, .inl (cI, 20, .inl (qS (qg_f M)))), (e12, .inl (cI, 4, .inl (qN pl))), (e1, .inl (cI, 576, .inl (qS mI))), (e2, .inl (cI, 768, .inl (qS mO))), (e3, .inl (cI, 768, .inl (qS mD))), (e4, .inl (cI, 768, .inl (qS mG))), (e5, .inl (cI, 576, .inl (qS mR))), (e6, .inl (cZ, 48, .inl (qZ mB))), (e7, .inl (cI, 384, .inl (qS mU))), (e8, .inl (cZ, 384, .inl (qZ mF)))] s.heap := hP
  have hl := lv_entry ([.ref h0, .int x, .int q, .int u]) (n := 5) (Nat.le_of_ble_eq_true rfl)
  rw [lg_entry_eq]
  generalize (lg_sl ([.ref h0, .int x, .int q, .int u]) ++ List.replicate (5 - (lg_sl ([.ref h0, .int x, .int q, .int u])).length) Slot.unset).toArray = ls at hl ⊢
  have hl : lv_has ls 5 [(0, .ref h0), (1, .int x), (2, .int q), (3, .int u)] := hl
  have k_79 := hts (.fieldLink RX6 79 "DiscCoderModel" "frames" "I") (by decide +kernel)
  have k_96 := hts (.fieldLink RX6 96 "DiscCoderModel" "done" "I") (by decide +kernel)
  have k_47 := hts (.fieldLink RX6 47 "DiscCoderModel" "code" "I") (by decide +kernel)
  have k_16 := hts (.fieldLink RX6 16 "DiscCoderModel" "disc" "[I") (by decide +kernel)
  have i_X6 : ∀ w ∈ u_ws RX6 TX6 19, w ∈ wsX6_burst := by decide +kernel
  refine qr_nm (fun Q hQ => ?_)
  refine lv_aload_n hx hb dX6_burst_0 rfl (lv_at hl 0 rfl) ?_
  refine lv_iload_n hx hb dX6_burst_1 rfl (lv_at hl 2 rfl) ?_
  refine lv_if_lt (tgt := 12) hx hb dX6_burst_2 rfl  (fun b2 => ?_) (fun b2 => ?_)
  · refine lv_iconst (v := nI 1) hx hb dX6_burst_12 (by decide) ?_
    refine lv_goto (tgt := 72) hx hb dX6_burst_13 rfl ?_
    refine va_put (D := (dC, dI)) (ci := 5) (v := .int (nI 1)) (ty := .int) (C := RX6) (T := TX6) (N := 19) hx hb hts i_X6 tyX6 tyX6_ok nmX6 hown hK hP hD hS 0 rfl rfl 0 (by decide) k_47 (fun _ h9 => h9) rfl (by decide +kernel) rfl rfl (Nat.le_of_ble_eq_true rfl) dX6_burst_72 (fun H locs hP hD hS => ?_)
    have hP : va_P (dC, dI) vwCl [(h0, .inr (5, [.int (nI 1), .int (nI T), .ref e1, .ref e2, .ref e3, .int (nI dn), .ref e4, .ref e5, .ref e6, .ref e7, .ref e8, .int (nI me), .int (nI du), .int (nI fi), .int (nI ls0), .ref e9, .ref e10, .ref e11, .ref e12])), (e9, .inl (cI, 16, .inl (qS w))), (e10, .inl (cZ, 16, .inl (qZ z))), (e11, .inl (cI, 20, .inl (qS (qg_f M)))), (e12, .inl (cI, 4, .inl (qN pl))), (e1, .inl (cI, 576, .inl (qS mI))), (e2, .inl (cI, 768, .inl (qS mO))), (e3, .inl (cI, 768, .inl (qS mD))), (e4, .inl (cI, 768, .inl (qS mG))), (e5, .inl (cI, 576, .inl (qS mR))), (e6, .inl (cZ, 48, .inl (qZ mB))), (e7, .inl (cI, 384, .inl (qS mU))), (e8, .inl (cZ, 384, .inl (qZ mF)))] H := hP
    have hD : va_D A [(h0, .inr (5, [.int (nI 1), .int (nI T), .ref e1, .ref e2, .ref e3, .int (nI dn), .ref e4, .ref e5, .ref e6, .ref e7, .ref e8, .int (nI me), .int (nI du), .int (nI fi), .int (nI ls0), .ref e9, .ref e10, .ref e11, .ref e12])), (e9, .inl (cI, 16, .inl (qS w))), (e10, .inl (cZ, 16, .inl (qZ z))), (e11, .inl (cI, 20, .inl (qS (qg_f M)))), (e12, .inl (cI, 4, .inl (qN pl))), (e1, .inl (cI, 576, .inl (qS mI))), (e2, .inl (cI, 768, .inl (qS mO))), (e3, .inl (cI, 768, .inl (qS mD))), (e4, .inl (cI, 768, .inl (qS mG))), (e5, .inl (cI, 576, .inl (qS mR))), (e6, .inl (cZ, 48, .inl (qZ mB))), (e7, .inl (cI, 384, .inl (qS mU))), (e8, .inl (cZ, 384, .inl (qZ mF)))] := hD
    refine lv_iconst (v := nI 0) hx hb dX6_burst_75 (by decide) ?_
    refine lv_istore (lv' := [(4, .int (nI 0)), (0, .ref h0), (1, .int x), (2, .int q), (3, .int u)]) hx hb dX6_burst_76 hl (by decide) rfl (fun ls hl => ?_)
    refine lv_iload hx hb dX6_burst_78 (lv_at hl 0 rfl) ?_
    refine lv_iload_n hx hb dX6_burst_80 rfl (lv_at hl 3 rfl) ?_
    refine lv_icmp_ge (tgt := 110) hx hb dX6_burst_81 rfl  (fun b81 => ?_) (fun b81 => ?_)
    · subst hQ
      exact W.vret hx hb hr (fun t ht hW => ⟨⟨(), rfl, trivial, by rw [ht]; exact hP, va_K.moved hW.alike hK, hD⟩, hS.F ht⟩) hS.2.2 dX6_burst_110
    · refine lv_aload_n hx hb dX6_burst_84 rfl (lv_at hl 1 rfl) ?_
      refine va_get (D := (dC, dI)) (ci := 5) (v := .int (nI 1)) (C := RX6) (T := TX6) (N := 19) hx hb hts i_X6 hown hK hP 0 rfl rfl 0 (by decide) k_47 (fun _ h9 => h9) rfl dX6_burst_85 ?_
      refine qr_ifneN (tgt := 110) hx hb dX6_burst_88 rfl (by omega) (fun b88 => ?_) (fun h => absurd h (by decide))
      subst hQ
      exact W.vret hx hb hr (fun t ht hW => ⟨⟨(), rfl, trivial, by rw [ht]; exact hP, va_K.moved hW.alike hK, hD⟩, hS.F ht⟩) hS.2.2 dX6_burst_110
  · refine lv_iload_n hx hb dX6_burst_5 rfl (lv_at hl 3 rfl) ?_
    refine vp_callSi (va_Run.run (va_runS (As := [.int u]) (rest := [.ref h0]) ⟨hx, hb, hml, hown, hts⟩ (qc_isSym l u ) (va_cwS 1 hts gX6_burst_X6_isSymbol rfl rfl rfl (by decide +kernel) ⟨Nat.le_of_ble_eq_true rfl, Nat.le_of_ble_eq_true rfl⟩) ⟨fun a U g mk q => q, fun U hU hW => ⟨rfl, trivial⟩⟩ rfl rfl hl.1 rfl (lv_room (Nat.le_of_ble_eq_true rfl)) dX6_burst_6 ⟨Nat.le_of_ble_eq_true rfl, Nat.le_of_ble_eq_true rfl⟩)) (fun rv6 hr6 => ?_)
    obtain ⟨v6, e6, hv6⟩ := hr6
    subst e6
    refine qr_ifneZ (tgt := 16) hx hb dX6_burst_9 rfl  (fun h => absurd (hv6.mp h) (hno.resolve_left b2)) (fun b9 => ?_)
    refine lv_iconst (v := nI 1) hx hb dX6_burst_12 (by decide) ?_
    refine lv_goto (tgt := 72) hx hb dX6_burst_13 rfl ?_
    refine va_put (D := (dC, dI)) (ci := 5) (v := .int (nI 1)) (ty := .int) (C := RX6) (T := TX6) (N := 19) hx hb hts i_X6 tyX6 tyX6_ok nmX6 hown hK hP hD hS 0 rfl rfl 0 (by decide) k_47 (fun _ h9 => h9) rfl (by decide +kernel) rfl rfl (Nat.le_of_ble_eq_true rfl) dX6_burst_72 (fun H locs hP hD hS => ?_)
    have hP : va_P (dC, dI) vwCl [(h0, .inr (5, [.int (nI 1), .int (nI T), .ref e1, .ref e2, .ref e3, .int (nI dn), .ref e4, .ref e5, .ref e6, .ref e7, .ref e8, .int (nI me), .int (nI du), .int (nI fi), .int (nI ls0), .ref e9, .ref e10, .ref e11, .ref e12])), (e9, .inl (cI, 16, .inl (qS w))), (e10, .inl (cZ, 16, .inl (qZ z))), (e11, .inl (cI, 20, .inl (qS (qg_f M)))), (e12, .inl (cI, 4, .inl (qN pl))), (e1, .inl (cI, 576, .inl (qS mI))), (e2, .inl (cI, 768, .inl (qS mO))), (e3, .inl (cI, 768, .inl (qS mD))), (e4, .inl (cI, 768, .inl (qS mG))), (e5, .inl (cI, 576, .inl (qS mR))), (e6, .inl (cZ, 48, .inl (qZ mB))), (e7, .inl (cI, 384, .inl (qS mU))), (e8, .inl (cZ, 384, .inl (qZ mF)))] H := hP
    have hD : va_D A [(h0, .inr (5, [.int (nI 1), .int (nI T), .ref e1, .ref e2, .ref e3, .int (nI dn), .ref e4, .ref e5, .ref e6, .ref e7, .ref e8, .int (nI me), .int (nI du), .int (nI fi), .int (nI ls0), .ref e9, .ref e10, .ref e11, .ref e12])), (e9, .inl (cI, 16, .inl (qS w))), (e10, .inl (cZ, 16, .inl (qZ z))), (e11, .inl (cI, 20, .inl (qS (qg_f M)))), (e12, .inl (cI, 4, .inl (qN pl))), (e1, .inl (cI, 576, .inl (qS mI))), (e2, .inl (cI, 768, .inl (qS mO))), (e3, .inl (cI, 768, .inl (qS mD))), (e4, .inl (cI, 768, .inl (qS mG))), (e5, .inl (cI, 576, .inl (qS mR))), (e6, .inl (cZ, 48, .inl (qZ mB))), (e7, .inl (cI, 384, .inl (qS mU))), (e8, .inl (cZ, 384, .inl (qZ mF)))] := hD
    refine lv_iconst (v := nI 0) hx hb dX6_burst_75 (by decide) ?_
    refine lv_istore (lv' := [(4, .int (nI 0)), (0, .ref h0), (1, .int x), (2, .int q), (3, .int u)]) hx hb dX6_burst_76 hl (by decide) rfl (fun ls hl => ?_)
    refine lv_iload hx hb dX6_burst_78 (lv_at hl 0 rfl) ?_
    refine lv_iload_n hx hb dX6_burst_80 rfl (lv_at hl 3 rfl) ?_
    refine lv_icmp_ge (tgt := 110) hx hb dX6_burst_81 rfl  (fun b81 => ?_) (fun b81 => ?_)
    · subst hQ
      exact W.vret hx hb hr (fun t ht hW => ⟨⟨(), rfl, trivial, by rw [ht]; exact hP, va_K.moved hW.alike hK, hD⟩, hS.F ht⟩) hS.2.2 dX6_burst_110
    · refine lv_aload_n hx hb dX6_burst_84 rfl (lv_at hl 1 rfl) ?_
      refine va_get (D := (dC, dI)) (ci := 5) (v := .int (nI 1)) (C := RX6) (T := TX6) (N := 19) hx hb hts i_X6 hown hK hP 0 rfl rfl 0 (by decide) k_47 (fun _ h9 => h9) rfl dX6_burst_85 ?_
      refine qr_ifneN (tgt := 110) hx hb dX6_burst_88 rfl (by omega) (fun b88 => ?_) (fun h => absurd h (by decide))
      subst hQ
      exact W.vret hx hb hr (fun t ht hW => ⟨⟨(), rfl, trivial, by rw [ht]; exact hP, va_K.moved hW.alike hK, hD⟩, hS.F ht⟩) hS.2.2 dX6_burst_110
set_option maxHeartbeats 4000000 in
set_option maxRecDepth 100000 in
/-- reference: burst of none -/
theorem qc_mbur0 (l : Launch) (dC : Nat → ClassId) (dI : Nat → Nat → Nat) (cI cZ : ClassId) (h0 k0 T dn me du fi ls0 e1 e2 e3 e4 e5 e6 e7 e8 e9 e10 e11 e12 : Nat) (w : Nat → BitVec 8) (z : Nat → Bool) (M : Nat → Nat → BitVec 8) (pl : Nat → Nat) (mI mO mD mG mR : Nat → BitVec 8) (mB : Nat → Bool) (mU : Nat → BitVec 8) (mF : Nat → Bool) (x : Int32) (v : BitVec 8) (sz : Nat)  : Met l yX6_burst wsX6_burst ({ frames := 1, cells := 0, slots := 0, locals := 20 } : Room) (va_Pc [.ref h0, .int x, .int (nI 0), .int (sI v)] (fun U => U.heap.size = sz ∧ va_P (dC, dI) vwCl [(h0, .inr (5, [.int (nI k0), .int (nI T), .ref e1, .ref e2, .ref e3, .int (nI dn), .ref e4, .ref e5, .ref e6, .ref e7, .ref e8, .int (nI me), .int (nI du), .int (nI fi), .int (nI ls0), .ref e9, .ref e10, .ref e11, .ref e12])), (e9, .inl (cI, 16, .inl (qS w))), (e10, .inl (cZ, 16, .inl (qZ z))), (e11, .inl (cI, 20, .inl (qS (qg_f M)))), (e12, .inl (cI, 4, .inl (qN pl))), (e1, .inl (cI, 576, .inl (qS mI))), (e2, .inl (cI, 768, .inl (qS mO))), (e3, .inl (cI, 768, .inl (qS mD))), (e4, .inl (cI, 768, .inl (qS mG))), (e5, .inl (cI, 576, .inl (qS mR))), (e6, .inl (cZ, 48, .inl (qZ mB))), (e7, .inl (cI, 384, .inl (qS mU))), (e8, .inl (cZ, 384, .inl (qZ mF)))] U.heap ∧ va_K (dC, dI) vwCl [(cI, .int), (cZ, .boolean)] U ∧ va_D (fun _ => True) [(h0, .inr (5, [.int (nI k0), .int (nI T), .ref e1, .ref e2, .ref e3, .int (nI dn), .ref e4, .ref e5, .ref e6, .ref e7, .ref e8, .int (nI me), .int (nI du), .int (nI fi), .int (nI ls0), .ref e9, .ref e10, .ref e11, .ref e12])), (e9, .inl (cI, 16, .inl (qS w))), (e10, .inl (cZ, 16, .inl (qZ z))), (e11, .inl (cI, 20, .inl (qS (qg_f M)))), (e12, .inl (cI, 4, .inl (qN pl))), (e1, .inl (cI, 576, .inl (qS mI))), (e2, .inl (cI, 768, .inl (qS mO))), (e3, .inl (cI, 768, .inl (qS mD))), (e4, .inl (cI, 768, .inl (qS mG))), (e5, .inl (cI, 576, .inl (qS mR))), (e6, .inl (cZ, 48, .inl (qZ mB))), (e7, .inl (cI, 384, .inl (qS mU))), (e8, .inl (cZ, 384, .inl (qZ mF)))])) (va_Qv (fun (_ : Unit) => True) (fun _ t => va_P (dC, dI) vwCl [(h0, .inr (5, [.int (nI 0), .int (nI T), .ref e1, .ref e2, .ref e3, .int (nI dn), .ref e4, .ref e5, .ref e6, .ref e7, .ref e8, .int (nI me), .int (nI du), .int (nI fi), .int (nI ls0), .ref e9, .ref e10, .ref e11, .ref e12])), (e9, .inl (cI, 16, .inl (qS w))), (e10, .inl (cZ, 16, .inl (qZ z))), (e11, .inl (cI, 20, .inl (qS (qg_f M)))), (e12, .inl (cI, 4, .inl (qN pl))), (e1, .inl (cI, 576, .inl (qS mI))), (e2, .inl (cI, 768, .inl (qS mO))), (e3, .inl (cI, 768, .inl (qS mD))), (e4, .inl (cI, 768, .inl (qS mG))), (e5, .inl (cI, 576, .inl (qS mR))), (e6, .inl (cZ, 48, .inl (qZ mB))), (e7, .inl (cI, 384, .inl (qS mU))), (e8, .inl (cZ, 384, .inl (qZ mF)))] t.heap ∧ va_K (dC, dI) vwCl [(cI, .int), (cZ, .boolean)] t ∧ va_D (va_A [(h0, .inr (5, [.int (nI k0), .int (nI T), .ref e1, .ref e2, .ref e3, .int (nI dn), .ref e4, .ref e5, .ref e6, .ref e7, .ref e8, .int (nI me), .int (nI du), .int (nI fi), .int (nI ls0), .ref e9, .ref e10, .ref e11, .ref e12])), (e9, .inl (cI, 16, .inl (qS w))), (e10, .inl (cZ, 16, .inl (qZ z))), (e11, .inl (cI, 20, .inl (qS (qg_f M)))), (e12, .inl (cI, 4, .inl (qN pl))), (e1, .inl (cI, 576, .inl (qS mI))), (e2, .inl (cI, 768, .inl (qS mO))), (e3, .inl (cI, 768, .inl (qS mD))), (e4, .inl (cI, 768, .inl (qS mG))), (e5, .inl (cI, 576, .inl (qS mR))), (e6, .inl (cZ, 48, .inl (qZ mB))), (e7, .inl (cI, 384, .inl (qS mU))), (e8, .inl (cZ, 384, .inl (qZ mF)))] sz) [(h0, .inr (5, [.int (nI 0), .int (nI T), .ref e1, .ref e2, .ref e3, .int (nI dn), .ref e4, .ref e5, .ref e6, .ref e7, .ref e8, .int (nI me), .int (nI du), .int (nI fi), .int (nI ls0), .ref e9, .ref e10, .ref e11, .ref e12])), (e9, .inl (cI, 16, .inl (qS w))), (e10, .inl (cZ, 16, .inl (qZ z))), (e11, .inl (cI, 20, .inl (qS (qg_f M)))), (e12, .inl (cI, 4, .inl (qN pl))), (e1, .inl (cI, 576, .inl (qS mI))), (e2, .inl (cI, 768, .inl (qS mO))), (e3, .inl (cI, 768, .inl (qS mD))), (e4, .inl (cI, 768, .inl (qS mG))), (e5, .inl (cI, 576, .inl (qS mR))), (e6, .inl (cZ, 48, .inl (qZ mB))), (e7, .inl (cI, 384, .inl (qS mU))), (e8, .inl (cZ, 384, .inl (qZ mF)))]) (va_A [(h0, .inr (5, [.int (nI k0), .int (nI T), .ref e1, .ref e2, .ref e3, .int (nI dn), .ref e4, .ref e5, .ref e6, .ref e7, .ref e8, .int (nI me), .int (nI du), .int (nI fi), .int (nI ls0), .ref e9, .ref e10, .ref e11, .ref e12])), (e9, .inl (cI, 16, .inl (qS w))), (e10, .inl (cZ, 16, .inl (qZ z))), (e11, .inl (cI, 20, .inl (qS (qg_f M)))), (e12, .inl (cI, 4, .inl (qN pl))), (e1, .inl (cI, 576, .inl (qS mI))), (e2, .inl (cI, 768, .inl (qS mO))), (e3, .inl (cI, 768, .inl (qS mD))), (e4, .inl (cI, 768, .inl (qS mG))), (e5, .inl (cI, 576, .inl (qS mR))), (e6, .inl (cZ, 48, .inl (qZ mB))), (e7, .inl (cI, 384, .inl (qS mU))), (e8, .inl (cZ, 384, .inl (qZ mF)))] sz)) 0 0 (va_A [(h0, .inr (5, [.int (nI k0), .int (nI T), .ref e1, .ref e2, .ref e3, .int (nI dn), .ref e4, .ref e5, .ref e6, .ref e7, .ref e8, .int (nI me), .int (nI du), .int (nI fi), .int (nI ls0), .ref e9, .ref e10, .ref e11, .ref e12])), (e9, .inl (cI, 16, .inl (qS w))), (e10, .inl (cZ, 16, .inl (qZ z))), (e11, .inl (cI, 20, .inl (qS (qg_f M)))), (e12, .inl (cI, 4, .inl (qN pl))), (e1, .inl (cI, 576, .inl (qS mI))), (e2, .inl (cI, 768, .inl (qS mO))), (e3, .inl (cI, 768, .inl (qS mD))), (e4, .inl (cI, 768, .inl (qS mG))), (e5, .inl (cI, 576, .inl (qS mR))), (e6, .inl (cZ, 48, .inl (qZ mB))), (e7, .inl (cI, 384, .inl (qS mU))), (e8, .inl (cZ, 384, .inl (qZ mF)))] sz) := by
  refine Met.ofW (cc := cX6_burst) (maxL := 5) (ret := none) (by decide) rfl ?_
  intro p e s m args below meth c s₁ B hml hv
  obtain ⟨rfl, hsz, hP, hK, hD0⟩ := hv
  have hx := B.exec
  have hb := B.bytes
  have hr := B.returns
  have hts := atoms_spec (ws := wsX6_burst) B.pre
  have hown : s.vm.findClass RX6 = some m.cls := findClass_of_methodNamed B.named
  have hlocks := B.notSynchronized
  subst hsz
  have hD := hD0.self (sz := s.heap.size)
  generalize hAe : va_A [(h0, .inr (5, [.int (nI k0), .int (nI T), .ref e1, .ref e2, .ref e3, .int (nI dn), .ref e4, .ref e5, .ref e6, .ref e7, .ref e8, .int (nI me), .int (nI du), .int (nI fi), .int (nI ls0), .ref e9, .ref e10, .ref e11, .ref e12])), (e9, .inl (cI, 16, .inl (qS w))), (e10, .inl (cZ, 16, .inl (qZ z))), (e11, .inl (cI, 20, .inl (qS (qg_f M)))), (e12, .inl (cI, 4, .inl (qN pl))), (e1, .inl (cI, 576, .inl (qS mI))), (e2, .inl (cI, 768, .inl (qS mO))), (e3, .inl (cI, 768, .inl (qS mD))), (e4, .inl (cI, 768, .inl (qS mG))), (e5, .inl (cI, 576, .inl (qS mR))), (e6, .inl (cZ, 48, .inl (qZ mB))), (e7, .inl (cI, 384, .inl (qS mU))), (e8, .inl (cZ, 384, .inl (qZ mF)))] s.heap.size = A at hD ⊢
  have hA : ∀ q : Nat, s.heap.size ≤ q → A q := fun q h => by rw [← hAe]; exact Or.inr h
  have hS : va_S A s.heap s.heap [] := va_S.rf
  have hP : va_P (dC, dI) vwCl [(h0, .inr (5, [.int (nI k0), .int (nI T), .ref e1, .ref e2, .ref e3, .int (nI dn), .ref e4, .ref e5, .ref e6, .ref e7, .ref e8, .int (nI me), .int (nI du), .int (nI fi), .int (nI ls0), .ref e9, .ref e10, .ref e11, .ref e12])), (e9, .inl (cI, 16, .inl (qS w))), (e10, .inl (cZ, 16, .inl (qZ z))), (e11, .inl (cI, 20, .inl (qS (qg_f M)))), (e12, .inl (cI, 4, .inl (qN pl))), (e1, .inl (cI, 576, .inl (qS mI))), (e2, .inl (cI, 768, .inl (qS mO))), (e3, .inl (cI, 768, .inl (qS mD))), (e4, .inl (cI, 768, .inl (qS mG))), (e5, .inl (cI, 576, .inl (qS mR))), (e6, .inl (cZ, 48, .inl (qZ mB))), (e7, .inl (cI, 384, .inl (qS mU))), (e8, .inl (cZ, 384, .inl (qZ mF)))] s.heap := hP
  have hl := lv_entry ([.ref h0, .int x, .int (nI 0), .int (sI v)]) (n := 5) (Nat.le_of_ble_eq_true rfl)
  rw [lg_entry_eq]
  generalize (lg_sl ([.ref h0, .int x, .int (nI 0), .int (sI v)]) ++ List.replicate (5 - (lg_sl ([.ref h0, .int x, .int (nI 0), .int (sI v)])).length) Slot.unset).toArray = ls at hl ⊢
  have hl : lv_has ls 5 [(0, .ref h0), (1, .int x), (2, .int (nI 0)), (3, .int (sI v))] := hl
  have k_79 := hts (.fieldLink RX6 79 "DiscCoderModel" "frames" "I") (by decide +kernel)
  have k_96 := hts (.fieldLink RX6 96 "DiscCoderModel" "done" "I") (by decide +kernel)
  have k_47 := hts (.fieldLink RX6 47 "DiscCoderModel" "code" "I") (by decide +kernel)
  have k_16 := hts (.fieldLink RX6 16 "DiscCoderModel" "disc" "[I") (by decide +kernel)
  have i_X6 : ∀ w ∈ u_ws RX6 TX6 19, w ∈ wsX6_burst := by decide +kernel
  refine qr_nm (fun Q hQ => ?_)
  refine lv_aload_n hx hb dX6_burst_0 rfl (lv_at hl 0 rfl) ?_
  refine lv_iload_n hx hb dX6_burst_1 rfl (lv_at hl 2 rfl) ?_
  refine lv_if_lt (tgt := 12) hx hb dX6_burst_2 rfl  (fun h => absurd h (nI_pos (by omega))) (fun b2 => ?_)
  refine lv_iload_n hx hb dX6_burst_5 rfl (lv_at hl 3 rfl) ?_
  refine vp_callSi (va_Run.run (va_runS (As := [.int (sI v)]) (rest := [.ref h0]) ⟨hx, hb, hml, hown, hts⟩ (qc_isSym l (sI v) ) (va_cwS 1 hts gX6_burst_X6_isSymbol rfl rfl rfl (by decide +kernel) ⟨Nat.le_of_ble_eq_true rfl, Nat.le_of_ble_eq_true rfl⟩) ⟨fun a U g mk q => q, fun U hU hW => ⟨rfl, trivial⟩⟩ rfl rfl hl.1 rfl (lv_room (Nat.le_of_ble_eq_true rfl)) dX6_burst_6 ⟨Nat.le_of_ble_eq_true rfl, Nat.le_of_ble_eq_true rfl⟩)) (fun rv6 hr6 => ?_)
  obtain ⟨v6, e6, hv6⟩ := hr6
  subst e6
  refine qr_ifneZ (tgt := 16) hx hb dX6_burst_9 rfl  (fun b9 => ?_) (fun h => absurd (hv6.mpr (qs_sym v)) (by rw [h]; decide))
  refine lv_iload_n hx hb dX6_burst_16 rfl (lv_at hl 2 rfl) ?_
  refine lv_if_le (tgt := 52) hx hb dX6_burst_17 rfl  (fun b17 => ?_) (fun h => absurd (show nI 0 ≤ 0 by decide) h)
  refine lv_iload_n hx hb dX6_burst_52 rfl (lv_at hl 2 rfl) ?_
  refine lv_if_le (tgt := 71) hx hb dX6_burst_53 rfl  (fun b53 => ?_) (fun h => absurd (show nI 0 ≤ 0 by decide) h)
  refine lv_iconst (v := nI 0) hx hb dX6_burst_71 (by decide) ?_
  refine va_put (D := (dC, dI)) (ci := 5) (v := .int (nI 0)) (ty := .int) (C := RX6) (T := TX6) (N := 19) hx hb hts i_X6 tyX6 tyX6_ok nmX6 hown hK hP hD hS 0 rfl rfl 0 (by decide) k_47 (fun _ h9 => h9) rfl (by decide +kernel) rfl rfl (Nat.le_of_ble_eq_true rfl) dX6_burst_72 (fun H locs hP hD hS => ?_)
  have hP : va_P (dC, dI) vwCl [(h0, .inr (5, [.int (nI 0), .int (nI T), .ref e1, .ref e2, .ref e3, .int (nI dn), .ref e4, .ref e5, .ref e6, .ref e7, .ref e8, .int (nI me), .int (nI du), .int (nI fi), .int (nI ls0), .ref e9, .ref e10, .ref e11, .ref e12])), (e9, .inl (cI, 16, .inl (qS w))), (e10, .inl (cZ, 16, .inl (qZ z))), (e11, .inl (cI, 20, .inl (qS (qg_f M)))), (e12, .inl (cI, 4, .inl (qN pl))), (e1, .inl (cI, 576, .inl (qS mI))), (e2, .inl (cI, 768, .inl (qS mO))), (e3, .inl (cI, 768, .inl (qS mD))), (e4, .inl (cI, 768, .inl (qS mG))), (e5, .inl (cI, 576, .inl (qS mR))), (e6, .inl (cZ, 48, .inl (qZ mB))), (e7, .inl (cI, 384, .inl (qS mU))), (e8, .inl (cZ, 384, .inl (qZ mF)))] H := hP
  have hD : va_D A [(h0, .inr (5, [.int (nI 0), .int (nI T), .ref e1, .ref e2, .ref e3, .int (nI dn), .ref e4, .ref e5, .ref e6, .ref e7, .ref e8, .int (nI me), .int (nI du), .int (nI fi), .int (nI ls0), .ref e9, .ref e10, .ref e11, .ref e12])), (e9, .inl (cI, 16, .inl (qS w))), (e10, .inl (cZ, 16, .inl (qZ z))), (e11, .inl (cI, 20, .inl (qS (qg_f M)))), (e12, .inl (cI, 4, .inl (qN pl))), (e1, .inl (cI, 576, .inl (qS mI))), (e2, .inl (cI, 768, .inl (qS mO))), (e3, .inl (cI, 768, .inl (qS mD))), (e4, .inl (cI, 768, .inl (qS mG))), (e5, .inl (cI, 576, .inl (qS mR))), (e6, .inl (cZ, 48, .inl (qZ mB))), (e7, .inl (cI, 384, .inl (qS mU))), (e8, .inl (cZ, 384, .inl (qZ mF)))] := hD
  refine lv_iconst (v := nI 0) hx hb dX6_burst_75 (by decide) ?_
  refine lv_istore (lv' := [(4, .int (nI 0)), (0, .ref h0), (1, .int x), (2, .int (nI 0)), (3, .int (sI v))]) hx hb dX6_burst_76 hl (by decide) rfl (fun ls hl => ?_)
  refine lv_iload hx hb dX6_burst_78 (lv_at hl 0 rfl) ?_
  refine lv_iload_n hx hb dX6_burst_80 rfl (lv_at hl 3 rfl) ?_
  refine qr_ge (tgt := 110) hx hb dX6_burst_81 rfl (by omega) (by omega) (fun b81 => ?_) (fun h => absurd h (by omega))
  subst hQ
  exact W.vret hx hb hr (fun t ht hW => ⟨⟨(), rfl, trivial, by rw [ht]; exact hP, va_K.moved hW.alike hK, hD⟩, hS.F ht⟩) hS.2.2 dX6_burst_110
set_option maxHeartbeats 4000000 in
set_option maxRecDepth 100000 in
/-- reference: burst off the disc -/
theorem qc_mbur2 (l : Launch) (dC : Nat → ClassId) (dI : Nat → Nat → Nat) (cI cZ : ClassId) (h0 k0 T dn me du fi ls0 e1 e2 e3 e4 e5 e6 e7 e8 e9 e10 e11 e12 : Nat) (w : Nat → BitVec 8) (z : Nat → Bool) (M : Nat → Nat → BitVec 8) (pl : Nat → Nat) (mI mO mD mG mR : Nat → BitVec 8) (mB : Nat → Bool) (mU : Nat → BitVec 8) (mF : Nat → Bool) (x : Int32) (q : Nat) (v : BitVec 8) (sz : Nat) (hT : T ≤ 48) (hdn : dn ≤ 48) (hq0 : 0 < q) (hq1 : q < 2 ^ 31) (hno : x < 0 ∨ nI (16 * T) ≤ x ∨ ¬ nI q ≤ nI (16 * T) - x) : Met l yX6_burst wsX6_burst ({ frames := 1, cells := 0, slots := 0, locals := 20 } : Room) (va_Pc [.ref h0, .int x, .int (nI q), .int (sI v)] (fun U => U.heap.size = sz ∧ va_P (dC, dI) vwCl [(h0, .inr (5, [.int (nI k0), .int (nI T), .ref e1, .ref e2, .ref e3, .int (nI dn), .ref e4, .ref e5, .ref e6, .ref e7, .ref e8, .int (nI me), .int (nI du), .int (nI fi), .int (nI ls0), .ref e9, .ref e10, .ref e11, .ref e12])), (e9, .inl (cI, 16, .inl (qS w))), (e10, .inl (cZ, 16, .inl (qZ z))), (e11, .inl (cI, 20, .inl (qS (qg_f M)))), (e12, .inl (cI, 4, .inl (qN pl))), (e1, .inl (cI, 576, .inl (qS mI))), (e2, .inl (cI, 768, .inl (qS mO))), (e3, .inl (cI, 768, .inl (qS mD))), (e4, .inl (cI, 768, .inl (qS mG))), (e5, .inl (cI, 576, .inl (qS mR))), (e6, .inl (cZ, 48, .inl (qZ mB))), (e7, .inl (cI, 384, .inl (qS mU))), (e8, .inl (cZ, 384, .inl (qZ mF)))] U.heap ∧ va_K (dC, dI) vwCl [(cI, .int), (cZ, .boolean)] U ∧ va_D (fun _ => True) [(h0, .inr (5, [.int (nI k0), .int (nI T), .ref e1, .ref e2, .ref e3, .int (nI dn), .ref e4, .ref e5, .ref e6, .ref e7, .ref e8, .int (nI me), .int (nI du), .int (nI fi), .int (nI ls0), .ref e9, .ref e10, .ref e11, .ref e12])), (e9, .inl (cI, 16, .inl (qS w))), (e10, .inl (cZ, 16, .inl (qZ z))), (e11, .inl (cI, 20, .inl (qS (qg_f M)))), (e12, .inl (cI, 4, .inl (qN pl))), (e1, .inl (cI, 576, .inl (qS mI))), (e2, .inl (cI, 768, .inl (qS mO))), (e3, .inl (cI, 768, .inl (qS mD))), (e4, .inl (cI, 768, .inl (qS mG))), (e5, .inl (cI, 576, .inl (qS mR))), (e6, .inl (cZ, 48, .inl (qZ mB))), (e7, .inl (cI, 384, .inl (qS mU))), (e8, .inl (cZ, 384, .inl (qZ mF)))])) (va_Qv (fun (_ : Unit) => True) (fun _ t => va_P (dC, dI) vwCl [(h0, .inr (5, [.int (nI 2), .int (nI T), .ref e1, .ref e2, .ref e3, .int (nI dn), .ref e4, .ref e5, .ref e6, .ref e7, .ref e8, .int (nI me), .int (nI du), .int (nI fi), .int (nI ls0), .ref e9, .ref e10, .ref e11, .ref e12])), (e9, .inl (cI, 16, .inl (qS w))), (e10, .inl (cZ, 16, .inl (qZ z))), (e11, .inl (cI, 20, .inl (qS (qg_f M)))), (e12, .inl (cI, 4, .inl (qN pl))), (e1, .inl (cI, 576, .inl (qS mI))), (e2, .inl (cI, 768, .inl (qS mO))), (e3, .inl (cI, 768, .inl (qS mD))), (e4, .inl (cI, 768, .inl (qS mG))), (e5, .inl (cI, 576, .inl (qS mR))), (e6, .inl (cZ, 48, .inl (qZ mB))), (e7, .inl (cI, 384, .inl (qS mU))), (e8, .inl (cZ, 384, .inl (qZ mF)))] t.heap ∧ va_K (dC, dI) vwCl [(cI, .int), (cZ, .boolean)] t ∧ va_D (va_A [(h0, .inr (5, [.int (nI k0), .int (nI T), .ref e1, .ref e2, .ref e3, .int (nI dn), .ref e4, .ref e5, .ref e6, .ref e7, .ref e8, .int (nI me), .int (nI du), .int (nI fi), .int (nI ls0), .ref e9, .ref e10, .ref e11, .ref e12])), (e9, .inl (cI, 16, .inl (qS w))), (e10, .inl (cZ, 16, .inl (qZ z))), (e11, .inl (cI, 20, .inl (qS (qg_f M)))), (e12, .inl (cI, 4, .inl (qN pl))), (e1, .inl (cI, 576, .inl (qS mI))), (e2, .inl (cI, 768, .inl (qS mO))), (e3, .inl (cI, 768, .inl (qS mD))), (e4, .inl (cI, 768, .inl (qS mG))), (e5, .inl (cI, 576, .inl (qS mR))), (e6, .inl (cZ, 48, .inl (qZ mB))), (e7, .inl (cI, 384, .inl (qS mU))), (e8, .inl (cZ, 384, .inl (qZ mF)))] sz) [(h0, .inr (5, [.int (nI 2), .int (nI T), .ref e1, .ref e2, .ref e3, .int (nI dn), .ref e4, .ref e5, .ref e6, .ref e7, .ref e8, .int (nI me), .int (nI du), .int (nI fi), .int (nI ls0), .ref e9, .ref e10, .ref e11, .ref e12])), (e9, .inl (cI, 16, .inl (qS w))), (e10, .inl (cZ, 16, .inl (qZ z))), (e11, .inl (cI, 20, .inl (qS (qg_f M)))), (e12, .inl (cI, 4, .inl (qN pl))), (e1, .inl (cI, 576, .inl (qS mI))), (e2, .inl (cI, 768, .inl (qS mO))), (e3, .inl (cI, 768, .inl (qS mD))), (e4, .inl (cI, 768, .inl (qS mG))), (e5, .inl (cI, 576, .inl (qS mR))), (e6, .inl (cZ, 48, .inl (qZ mB))), (e7, .inl (cI, 384, .inl (qS mU))), (e8, .inl (cZ, 384, .inl (qZ mF)))]) (va_A [(h0, .inr (5, [.int (nI k0), .int (nI T), .ref e1, .ref e2, .ref e3, .int (nI dn), .ref e4, .ref e5, .ref e6, .ref e7, .ref e8, .int (nI me), .int (nI du), .int (nI fi), .int (nI ls0), .ref e9, .ref e10, .ref e11, .ref e12])), (e9, .inl (cI, 16, .inl (qS w))), (e10, .inl (cZ, 16, .inl (qZ z))), (e11, .inl (cI, 20, .inl (qS (qg_f M)))), (e12, .inl (cI, 4, .inl (qN pl))), (e1, .inl (cI, 576, .inl (qS mI))), (e2, .inl (cI, 768, .inl (qS mO))), (e3, .inl (cI, 768, .inl (qS mD))), (e4, .inl (cI, 768, .inl (qS mG))), (e5, .inl (cI, 576, .inl (qS mR))), (e6, .inl (cZ, 48, .inl (qZ mB))), (e7, .inl (cI, 384, .inl (qS mU))), (e8, .inl (cZ, 384, .inl (qZ mF)))] sz)) 0 0 (va_A [(h0, .inr (5, [.int (nI k0), .int (nI T), .ref e1, .ref e2, .ref e3, .int (nI dn), .ref e4, .ref e5, .ref e6, .ref e7, .ref e8, .int (nI me), .int (nI du), .int (nI fi), .int (nI ls0), .ref e9, .ref e10, .ref e11, .ref e12])), (e9, .inl (cI, 16, .inl (qS w))), (e10, .inl (cZ, 16, .inl (qZ z))), (e11, .inl (cI, 20, .inl (qS (qg_f M)))), (e12, .inl (cI, 4, .inl (qN pl))), (e1, .inl (cI, 576, .inl (qS mI))), (e2, .inl (cI, 768, .inl (qS mO))), (e3, .inl (cI, 768, .inl (qS mD))), (e4, .inl (cI, 768, .inl (qS mG))), (e5, .inl (cI, 576, .inl (qS mR))), (e6, .inl (cZ, 48, .inl (qZ mB))), (e7, .inl (cI, 384, .inl (qS mU))), (e8, .inl (cZ, 384, .inl (qZ mF)))] sz) := by
  refine Met.ofW (cc := cX6_burst) (maxL := 5) (ret := none) (by decide) rfl ?_
  intro p e s m args below meth c s₁ B hml hv
  obtain ⟨rfl, hsz, hP, hK, hD0⟩ := hv
  have hx := B.exec
  have hb := B.bytes
  have hr := B.returns
  have hts := atoms_spec (ws := wsX6_burst) B.pre
  have hown : s.vm.findClass RX6 = some m.cls := findClass_of_methodNamed B.named
  have hlocks := B.notSynchronized
  subst hsz
  have hD := hD0.self (sz := s.heap.size)
  generalize hAe : va_A [(h0, .inr (5, [.int (nI k0), .int (nI T), .ref e1, .ref e2, .ref e3, .int (nI dn), .ref e4, .ref e5, .ref e6, .ref e7, .ref e8, .int (nI me), .int (nI du), .int (nI fi), .int (nI ls0), .ref e9, .ref e10, .ref e11, .ref e12])), (e9, .inl (cI, 16, .inl (qS w))), (e10, .inl (cZ, 16, .inl (qZ z))), (e11, .inl (cI, 20, .inl (qS (qg_f M)))), (e12, .inl (cI, 4, .inl (qN pl))), (e1, .inl (cI, 576, .inl (qS mI))), (e2, .inl (cI, 768, .inl (qS mO))), (e3, .inl (cI, 768, .inl (qS mD))), (e4, .inl (cI, 768, .inl (qS mG))), (e5, .inl (cI, 576, .inl (qS mR))), (e6, .inl (cZ, 48, .inl (qZ mB))), (e7, .inl (cI, 384, .inl (qS mU))), (e8, .inl (cZ, 384, .inl (qZ mF)))] s.heap.size = A at hD ⊢
  have hA : ∀ q : Nat, s.heap.size ≤ q → A q := fun q h => by rw [← hAe]; exact Or.inr h
  have hS : va_S A s.heap s.heap [] := va_S.rf
  have hP : va_P (dC, dI) vwCl [(h0, .inr (5, [.int (nI k0), .int (nI T), .ref e1, .ref e2, .ref e3, .int (nI dn), .ref e4, .ref e5, .ref e6, .ref e7, .ref e8, .int (nI me), .int (nI du), .int (nI fi), .int (nI ls0), .ref e9, .ref e10, .ref e11, .ref e12])), (e9, .inl (cI, 16, .inl (qS w))), (e10, .inl (cZ, 16, .inl (qZ z))), (e11, .inl (cI, 20, .inl (qS (qg_f M)))), (e12, .inl (cI, 4, .inl (qN pl))), (e1, .inl (cI, 576, .inl (qS mI))), (e2, .inl (cI, 768, .inl (qS mO))), (e3, .inl (cI, 768, .inl (qS mD))), (e4, .inl (cI, 768, .inl (qS mG))), (e5, .inl (cI, 576, .inl (qS mR))), (e6, .inl (cZ, 48, .inl (qZ mB))), (e7, .inl (cI, 384, .inl (qS mU))), (e8, .inl (cZ, 384, .inl (qZ mF)))] s.heap := hP
  have hl := lv_entry ([.ref h0, .int x, .int (nI q), .int (sI v)]) (n := 5) (Nat.le_of_ble_eq_true rfl)
  rw [lg_entry_eq]
  generalize (lg_sl ([.ref h0, .int x, .int (nI q), .int (sI v)]) ++ List.replicate (5 - (lg_sl ([.ref h0, .int x, .int (nI q), .int (sI v)])).length) Slot.unset).toArray = ls at hl ⊢
  have hl : lv_has ls 5 [(0, .ref h0), (1, .int x), (2, .int (nI q)), (3, .int (sI v))] := hl
  have k_79 := hts (.fieldLink RX6 79 "DiscCoderModel" "frames" "I") (by decide +kernel)
  have k_96 := hts (.fieldLink RX6 96 "DiscCoderModel" "done" "I") (by decide +kernel)
  have k_47 := hts (.fieldLink RX6 47 "DiscCoderModel" "code" "I") (by decide +kernel)
  have k_16 := hts (.fieldLink RX6 16 "DiscCoderModel" "disc" "[I") (by decide +kernel)
  have i_X6 : ∀ w ∈ u_ws RX6 TX6 19, w ∈ wsX6_burst := by decide +kernel
  refine qr_nm (fun Q hQ => ?_)
  refine lv_aload_n hx hb dX6_burst_0 rfl (lv_at hl 0 rfl) ?_
  refine lv_iload_n hx hb dX6_burst_1 rfl (lv_at hl 2 rfl) ?_
  refine lv_if_lt (tgt := 12) hx hb dX6_burst_2 rfl  (fun h => absurd h (nI_pos (by omega))) (fun b2 => ?_)
  refine lv_iload_n hx hb dX6_burst_5 rfl (lv_at hl 3 rfl) ?_
  refine vp_callSi (va_Run.run (va_runS (As := [.int (sI v)]) (rest := [.ref h0]) ⟨hx, hb, hml, hown, hts⟩ (qc_isSym l (sI v) ) (va_cwS 1 hts gX6_burst_X6_isSymbol rfl rfl rfl (by decide +kernel) ⟨Nat.le_of_ble_eq_true rfl, Nat.le_of_ble_eq_true rfl⟩) ⟨fun a U g mk q => q, fun U hU hW => ⟨rfl, trivial⟩⟩ rfl rfl hl.1 rfl (lv_room (Nat.le_of_ble_eq_true rfl)) dX6_burst_6 ⟨Nat.le_of_ble_eq_true rfl, Nat.le_of_ble_eq_true rfl⟩)) (fun rv6 hr6 => ?_)
  obtain ⟨v6, e6, hv6⟩ := hr6
  subst e6
  refine qr_ifneZ (tgt := 16) hx hb dX6_burst_9 rfl  (fun b9 => ?_) (fun h => absurd (hv6.mpr (qs_sym v)) (by rw [h]; decide))
  refine lv_iload_n hx hb dX6_burst_16 rfl (lv_at hl 2 rfl) ?_
  refine lv_if_le (tgt := 52) hx hb dX6_burst_17 rfl  (fun h => absurd h (nI_nle (by omega) (by omega))) (fun b17 => ?_)
  refine lv_iload_n hx hb dX6_burst_20 rfl (lv_at hl 1 rfl) ?_
  refine lv_if_lt (tgt := 48) hx hb dX6_burst_21 rfl  (fun b21 => ?_) (fun b21 => ?_)
  · refine lv_iconst (v := nI 2) hx hb dX6_burst_48 (by decide) ?_
    refine lv_goto (tgt := 72) hx hb dX6_burst_49 rfl ?_
    refine va_put (D := (dC, dI)) (ci := 5) (v := .int (nI 2)) (ty := .int) (C := RX6) (T := TX6) (N := 19) hx hb hts i_X6 tyX6 tyX6_ok nmX6 hown hK hP hD hS 0 rfl rfl 0 (by decide) k_47 (fun _ h9 => h9) rfl (by decide +kernel) rfl rfl (Nat.le_of_ble_eq_true rfl) dX6_burst_72 (fun H locs hP hD hS => ?_)
    have hP : va_P (dC, dI) vwCl [(h0, .inr (5, [.int (nI 2), .int (nI T), .ref e1, .ref e2, .ref e3, .int (nI dn), .ref e4, .ref e5, .ref e6, .ref e7, .ref e8, .int (nI me), .int (nI du), .int (nI fi), .int (nI ls0), .ref e9, .ref e10, .ref e11, .ref e12])), (e9, .inl (cI, 16, .inl (qS w))), (e10, .inl (cZ, 16, .inl (qZ z))), (e11, .inl (cI, 20, .inl (qS (qg_f M)))), (e12, .inl (cI, 4, .inl (qN pl))), (e1, .inl (cI, 576, .inl (qS mI))), (e2, .inl (cI, 768, .inl (qS mO))), (e3, .inl (cI, 768, .inl (qS mD))), (e4, .inl (cI, 768, .inl (qS mG))), (e5, .inl (cI, 576, .inl (qS mR))), (e6, .inl (cZ, 48, .inl (qZ mB))), (e7, .inl (cI, 384, .inl (qS mU))), (e8, .inl (cZ, 384, .inl (qZ mF)))] H := hP
    have hD : va_D A [(h0, .inr (5, [.int (nI 2), .int (nI T), .ref e1, .ref e2, .ref e3, .int (nI dn), .ref e4, .ref e5, .ref e6, .ref e7, .ref e8, .int (nI me), .int (nI du), .int (nI fi), .int (nI ls0), .ref e9, .ref e10, .ref e11, .ref e12])), (e9, .inl (cI, 16, .inl (qS w))), (e10, .inl (cZ, 16, .inl (qZ z))), (e11, .inl (cI, 20, .inl (qS (qg_f M)))), (e12, .inl (cI, 4, .inl (qN pl))), (e1, .inl (cI, 576, .inl (qS mI))), (e2, .inl (cI, 768, .inl (qS mO))), (e3, .inl (cI, 768, .inl (qS mD))), (e4, .inl (cI, 768, .inl (qS mG))), (e5, .inl (cI, 576, .inl (qS mR))), (e6, .inl (cZ, 48, .inl (qZ mB))), (e7, .inl (cI, 384, .inl (qS mU))), (e8, .inl (cZ, 384, .inl (qZ mF)))] := hD
    refine lv_iconst (v := nI 0) hx hb dX6_burst_75 (by decide) ?_
    refine lv_istore (lv' := [(4, .int (nI 0)), (0, .ref h0), (1, .int x), (2, .int (nI q)), (3, .int (sI v))]) hx hb dX6_burst_76 hl (by decide) rfl (fun ls hl => ?_)
    refine lv_iload hx hb dX6_burst_78 (lv_at hl 0 rfl) ?_
    refine lv_iload_n hx hb dX6_burst_80 rfl (lv_at hl 3 rfl) ?_
    refine qr_ge (tgt := 110) hx hb dX6_burst_81 rfl (by omega) (by omega) (fun h => absurd h (by omega)) (fun b81 => ?_)
    refine lv_aload_n hx hb dX6_burst_84 rfl (lv_at hl 1 rfl) ?_
    refine va_get (D := (dC, dI)) (ci := 5) (v := .int (nI 2)) (C := RX6) (T := TX6) (N := 19) hx hb hts i_X6 hown hK hP 0 rfl rfl 0 (by decide) k_47 (fun _ h9 => h9) rfl dX6_burst_85 ?_
    refine qr_ifneN (tgt := 110) hx hb dX6_burst_88 rfl (by omega) (fun b88 => ?_) (fun h => absurd h (by decide))
    subst hQ
    exact W.vret hx hb hr (fun t ht hW => ⟨⟨(), rfl, trivial, by rw [ht]; exact hP, va_K.moved hW.alike hK, hD⟩, hS.F ht⟩) hS.2.2 dX6_burst_110
  · refine lv_iload_n hx hb dX6_burst_24 rfl (lv_at hl 1 rfl) ?_
    refine lv_bipush (v := nI 16) hx hb dX6_burst_25 (by decide) ?_
    refine lv_aload_n hx hb dX6_burst_27 rfl (lv_at hl 0 rfl) ?_
    refine va_get (D := (dC, dI)) (ci := 5) (v := .int (nI T)) (C := RX6) (T := TX6) (N := 19) hx hb hts i_X6 hown hK hP 0 rfl rfl 1 (by decide) k_79 (fun _ h9 => h9) rfl dX6_burst_28 ?_
    refine qr_imul (z := nI (16 * T)) hx hb dX6_burst_31 (pk_mul _ _) ?_
    refine lv_icmp_ge (tgt := 48) hx hb dX6_burst_32 rfl  (fun b32 => ?_) (fun b32 => ?_)
    · refine lv_iconst (v := nI 2) hx hb dX6_burst_48 (by decide) ?_
      refine lv_goto (tgt := 72) hx hb dX6_burst_49 rfl ?_
      refine va_put (D := (dC, dI)) (ci := 5) (v := .int (nI 2)) (ty := .int) (C := RX6) (T := TX6) (N := 19) hx hb hts i_X6 tyX6 tyX6_ok nmX6 hown hK hP hD hS 0 rfl rfl 0 (by decide) k_47 (fun _ h9 => h9) rfl (by decide +kernel) rfl rfl (Nat.le_of_ble_eq_true rfl) dX6_burst_72 (fun H locs hP hD hS => ?_)
      have hP : va_P (dC, dI) vwCl [(h0, .inr (5, [.int (nI 2), .int (nI T), .ref e1, .ref e2, .ref e3, .int (nI dn), .ref e4, .ref e5, .ref e6, .ref e7, .ref e8, .int (nI me), .int (nI du), .int (nI fi), .int (nI ls0), .ref e9, .ref e10, .ref e11, .ref e12])), (e9, .inl (cI, 16, .inl (qS w))), (e10, .inl (cZ, 16, .inl (qZ z))), (e11, .inl (cI, 20, .inl (qS (qg_f M)))), (e12, .inl (cI, 4, .inl (qN pl))), (e1, .inl (cI, 576, .inl (qS mI))), (e2, .inl (cI, 768, .inl (qS mO))), (e3, .inl (cI, 768, .inl (qS mD))), (e4, .inl (cI, 768, .inl (qS mG))), (e5, .inl (cI, 576, .inl (qS mR))), (e6, .inl (cZ, 48, .inl (qZ mB))), (e7, .inl (cI, 384, .inl (qS mU))), (e8, .inl (cZ, 384, .inl (qZ mF)))] H := hP
      have hD : va_D A [(h0, .inr (5, [.int (nI 2), .int (nI T), .ref e1, .ref e2, .ref e3, .int (nI dn), .ref e4, .ref e5, .ref e6, .ref e7, .ref e8, .int (nI me), .int (nI du), .int (nI fi), .int (nI ls0), .ref e9, .ref e10, .ref e11, .ref e12])), (e9, .inl (cI, 16, .inl (qS w))), (e10, .inl (cZ, 16, .inl (qZ z))), (e11, .inl (cI, 20, .inl (qS (qg_f M)))), (e12, .inl (cI, 4, .inl (qN pl))), (e1, .inl (cI, 576, .inl (qS mI))), (e2, .inl (cI, 768, .inl (qS mO))), (e3, .inl (cI, 768, .inl (qS mD))), (e4, .inl (cI, 768, .inl (qS mG))), (e5, .inl (cI, 576, .inl (qS mR))), (e6, .inl (cZ, 48, .inl (qZ mB))), (e7, .inl (cI, 384, .inl (qS mU))), (e8, .inl (cZ, 384, .inl (qZ mF)))] := hD
      refine lv_iconst (v := nI 0) hx hb dX6_burst_75 (by decide) ?_
      refine lv_istore (lv' := [(4, .int (nI 0)), (0, .ref h0), (1, .int x), (2, .int (nI q)), (3, .int (sI v))]) hx hb dX6_burst_76 hl (by decide) rfl (fun ls hl => ?_)
      refine lv_iload hx hb dX6_burst_78 (lv_at hl 0 rfl) ?_
      refine lv_iload_n hx hb dX6_burst_80 rfl (lv_at hl 3 rfl) ?_
      refine qr_ge (tgt := 110) hx hb dX6_burst_81 rfl (by omega) (by omega) (fun h => absurd h (by omega)) (fun b81 => ?_)
      refine lv_aload_n hx hb dX6_burst_84 rfl (lv_at hl 1 rfl) ?_
      refine va_get (D := (dC, dI)) (ci := 5) (v := .int (nI 2)) (C := RX6) (T := TX6) (N := 19) hx hb hts i_X6 hown hK hP 0 rfl rfl 0 (by decide) k_47 (fun _ h9 => h9) rfl dX6_burst_85 ?_
      refine qr_ifneN (tgt := 110) hx hb dX6_burst_88 rfl (by omega) (fun b88 => ?_) (fun h => absurd h (by decide))
      subst hQ
      exact W.vret hx hb hr (fun t ht hW => ⟨⟨(), rfl, trivial, by rw [ht]; exact hP, va_K.moved hW.alike hK, hD⟩, hS.F ht⟩) hS.2.2 dX6_burst_110
    · refine lv_iload_n hx hb dX6_burst_35 rfl (lv_at hl 2 rfl) ?_
      refine lv_bipush (v := nI 16) hx hb dX6_burst_36 (by decide) ?_
      refine lv_aload_n hx hb dX6_burst_38 rfl (lv_at hl 0 rfl) ?_
      refine va_get (D := (dC, dI)) (ci := 5) (v := .int (nI T)) (C := RX6) (T := TX6) (N := 19) hx hb hts i_X6 hown hK hP 0 rfl rfl 1 (by decide) k_79 (fun _ h9 => h9) rfl dX6_burst_39 ?_
      refine qr_imul (z := nI (16 * T)) hx hb dX6_burst_42 (pk_mul _ _) ?_
      refine lv_iload_n hx hb dX6_burst_43 rfl (lv_at hl 1 rfl) ?_
      refine qr_isub (z := (nI (16 * T)) - x) hx hb dX6_burst_44 rfl ?_
      refine lv_icmp_le (tgt := 52) hx hb dX6_burst_45 rfl  (fun h => absurd h ((hno.resolve_left b21).resolve_left b32)) (fun b45 => ?_)
      refine lv_iconst (v := nI 2) hx hb dX6_burst_48 (by decide) ?_
      refine lv_goto (tgt := 72) hx hb dX6_burst_49 rfl ?_
      refine va_put (D := (dC, dI)) (ci := 5) (v := .int (nI 2)) (ty := .int) (C := RX6) (T := TX6) (N := 19) hx hb hts i_X6 tyX6 tyX6_ok nmX6 hown hK hP hD hS 0 rfl rfl 0 (by decide) k_47 (fun _ h9 => h9) rfl (by decide +kernel) rfl rfl (Nat.le_of_ble_eq_true rfl) dX6_burst_72 (fun H locs hP hD hS => ?_)
      have hP : va_P (dC, dI) vwCl [(h0, .inr (5, [.int (nI 2), .int (nI T), .ref e1, .ref e2, .ref e3, .int (nI dn), .ref e4, .ref e5, .ref e6, .ref e7, .ref e8, .int (nI me), .int (nI du), .int (nI fi), .int (nI ls0), .ref e9, .ref e10, .ref e11, .ref e12])), (e9, .inl (cI, 16, .inl (qS w))), (e10, .inl (cZ, 16, .inl (qZ z))), (e11, .inl (cI, 20, .inl (qS (qg_f M)))), (e12, .inl (cI, 4, .inl (qN pl))), (e1, .inl (cI, 576, .inl (qS mI))), (e2, .inl (cI, 768, .inl (qS mO))), (e3, .inl (cI, 768, .inl (qS mD))), (e4, .inl (cI, 768, .inl (qS mG))), (e5, .inl (cI, 576, .inl (qS mR))), (e6, .inl (cZ, 48, .inl (qZ mB))), (e7, .inl (cI, 384, .inl (qS mU))), (e8, .inl (cZ, 384, .inl (qZ mF)))] H := hP
      have hD : va_D A [(h0, .inr (5, [.int (nI 2), .int (nI T), .ref e1, .ref e2, .ref e3, .int (nI dn), .ref e4, .ref e5, .ref e6, .ref e7, .ref e8, .int (nI me), .int (nI du), .int (nI fi), .int (nI ls0), .ref e9, .ref e10, .ref e11, .ref e12])), (e9, .inl (cI, 16, .inl (qS w))), (e10, .inl (cZ, 16, .inl (qZ z))), (e11, .inl (cI, 20, .inl (qS (qg_f M)))), (e12, .inl (cI, 4, .inl (qN pl))), (e1, .inl (cI, 576, .inl (qS mI))), (e2, .inl (cI, 768, .inl (qS mO))), (e3, .inl (cI, 768, .inl (qS mD))), (e4, .inl (cI, 768, .inl (qS mG))), (e5, .inl (cI, 576, .inl (qS mR))), (e6, .inl (cZ, 48, .inl (qZ mB))), (e7, .inl (cI, 384, .inl (qS mU))), (e8, .inl (cZ, 384, .inl (qZ mF)))] := hD
      refine lv_iconst (v := nI 0) hx hb dX6_burst_75 (by decide) ?_
      refine lv_istore (lv' := [(4, .int (nI 0)), (0, .ref h0), (1, .int x), (2, .int (nI q)), (3, .int (sI v))]) hx hb dX6_burst_76 hl (by decide) rfl (fun ls hl => ?_)
      refine lv_iload hx hb dX6_burst_78 (lv_at hl 0 rfl) ?_
      refine lv_iload_n hx hb dX6_burst_80 rfl (lv_at hl 3 rfl) ?_
      refine qr_ge (tgt := 110) hx hb dX6_burst_81 rfl (by omega) (by omega) (fun h => absurd h (by omega)) (fun b81 => ?_)
      refine lv_aload_n hx hb dX6_burst_84 rfl (lv_at hl 1 rfl) ?_
      refine va_get (D := (dC, dI)) (ci := 5) (v := .int (nI 2)) (C := RX6) (T := TX6) (N := 19) hx hb hts i_X6 hown hK hP 0 rfl rfl 0 (by decide) k_47 (fun _ h9 => h9) rfl dX6_burst_85 ?_
      refine qr_ifneN (tgt := 110) hx hb dX6_burst_88 rfl (by omega) (fun b88 => ?_) (fun h => absurd h (by decide))
      subst hQ
      exact W.vret hx hb hr (fun t ht hW => ⟨⟨(), rfl, trivial, by rw [ht]; exact hP, va_K.moved hW.alike hK, hD⟩, hS.F ht⟩) hS.2.2 dX6_burst_110
set_option maxHeartbeats 4000000 in
set_option maxRecDepth 100000 in
/-- reference: burst over a row read -/
theorem qc_mbur3 (l : Launch) (dC : Nat → ClassId) (dI : Nat → Nat → Nat) (cI cZ : ClassId) (h0 k0 T dn me du fi ls0 e1 e2 e3 e4 e5 e6 e7 e8 e9 e10 e11 e12 : Nat) (w : Nat → BitVec 8) (z : Nat → Bool) (M : Nat → Nat → BitVec 8) (pl : Nat → Nat) (mI mO mD mG mR : Nat → BitVec 8) (mB : Nat → Bool) (mU : Nat → BitVec 8) (mF : Nat → Bool) (x q : Nat) (v : BitVec 8) (sz : Nat) (hT : T ≤ 48) (hdn : dn ≤ 48) (hq0 : 0 < q) (hr0 : x + q ≤ 16 * T) (hd0 : x / 16 < dn) : Met l yX6_burst wsX6_burst ({ frames := 1, cells := 0, slots := 0, locals := 20 } : Room) (va_Pc [.ref h0, .int (nI x), .int (nI q), .int (sI v)] (fun U => U.heap.size = sz ∧ va_P (dC, dI) vwCl [(h0, .inr (5, [.int (nI k0), .int (nI T), .ref e1, .ref e2, .ref e3, .int (nI dn), .ref e4, .ref e5, .ref e6, .ref e7, .ref e8, .int (nI me), .int (nI du), .int (nI fi), .int (nI ls0), .ref e9, .ref e10, .ref e11, .ref e12])), (e9, .inl (cI, 16, .inl (qS w))), (e10, .inl (cZ, 16, .inl (qZ z))), (e11, .inl (cI, 20, .inl (qS (qg_f M)))), (e12, .inl (cI, 4, .inl (qN pl))), (e1, .inl (cI, 576, .inl (qS mI))), (e2, .inl (cI, 768, .inl (qS mO))), (e3, .inl (cI, 768, .inl (qS mD))), (e4, .inl (cI, 768, .inl (qS mG))), (e5, .inl (cI, 576, .inl (qS mR))), (e6, .inl (cZ, 48, .inl (qZ mB))), (e7, .inl (cI, 384, .inl (qS mU))), (e8, .inl (cZ, 384, .inl (qZ mF)))] U.heap ∧ va_K (dC, dI) vwCl [(cI, .int), (cZ, .boolean)] U ∧ va_D (fun _ => True) [(h0, .inr (5, [.int (nI k0), .int (nI T), .ref e1, .ref e2, .ref e3, .int (nI dn), .ref e4, .ref e5, .ref e6, .ref e7, .ref e8, .int (nI me), .int (nI du), .int (nI fi), .int (nI ls0), .ref e9, .ref e10, .ref e11, .ref e12])), (e9, .inl (cI, 16, .inl (qS w))), (e10, .inl (cZ, 16, .inl (qZ z))), (e11, .inl (cI, 20, .inl (qS (qg_f M)))), (e12, .inl (cI, 4, .inl (qN pl))), (e1, .inl (cI, 576, .inl (qS mI))), (e2, .inl (cI, 768, .inl (qS mO))), (e3, .inl (cI, 768, .inl (qS mD))), (e4, .inl (cI, 768, .inl (qS mG))), (e5, .inl (cI, 576, .inl (qS mR))), (e6, .inl (cZ, 48, .inl (qZ mB))), (e7, .inl (cI, 384, .inl (qS mU))), (e8, .inl (cZ, 384, .inl (qZ mF)))])) (va_Qv (fun (_ : Unit) => True) (fun _ t => va_P (dC, dI) vwCl [(h0, .inr (5, [.int (nI 3), .int (nI T), .ref e1, .ref e2, .ref e3, .int (nI dn), .ref e4, .ref e5, .ref e6, .ref e7, .ref e8, .int (nI me), .int (nI du), .int (nI fi), .int (nI ls0), .ref e9, .ref e10, .ref e11, .ref e12])), (e9, .inl (cI, 16, .inl (qS w))), (e10, .inl (cZ, 16, .inl (qZ z))), (e11, .inl (cI, 20, .inl (qS (qg_f M)))), (e12, .inl (cI, 4, .inl (qN pl))), (e1, .inl (cI, 576, .inl (qS mI))), (e2, .inl (cI, 768, .inl (qS mO))), (e3, .inl (cI, 768, .inl (qS mD))), (e4, .inl (cI, 768, .inl (qS mG))), (e5, .inl (cI, 576, .inl (qS mR))), (e6, .inl (cZ, 48, .inl (qZ mB))), (e7, .inl (cI, 384, .inl (qS mU))), (e8, .inl (cZ, 384, .inl (qZ mF)))] t.heap ∧ va_K (dC, dI) vwCl [(cI, .int), (cZ, .boolean)] t ∧ va_D (va_A [(h0, .inr (5, [.int (nI k0), .int (nI T), .ref e1, .ref e2, .ref e3, .int (nI dn), .ref e4, .ref e5, .ref e6, .ref e7, .ref e8, .int (nI me), .int (nI du), .int (nI fi), .int (nI ls0), .ref e9, .ref e10, .ref e11, .ref e12])), (e9, .inl (cI, 16, .inl (qS w))), (e10, .inl (cZ, 16, .inl (qZ z))), (e11, .inl (cI, 20, .inl (qS (qg_f M)))), (e12, .inl (cI, 4, .inl (qN pl))), (e1, .inl (cI, 576, .inl (qS mI))), (e2, .inl (cI, 768, .inl (qS mO))), (e3, .inl (cI, 768, .inl (qS mD))), (e4, .inl (cI, 768, .inl (qS mG))), (e5, .inl (cI, 576, .inl (qS mR))), (e6, .inl (cZ, 48, .inl (qZ mB))), (e7, .inl (cI, 384, .inl (qS mU))), (e8, .inl (cZ, 384, .inl (qZ mF)))] sz) [(h0, .inr (5, [.int (nI 3), .int (nI T), .ref e1, .ref e2, .ref e3, .int (nI dn), .ref e4, .ref e5, .ref e6, .ref e7, .ref e8, .int (nI me), .int (nI du), .int (nI fi), .int (nI ls0), .ref e9, .ref e10, .ref e11, .ref e12])), (e9, .inl (cI, 16, .inl (qS w))), (e10, .inl (cZ, 16, .inl (qZ z))), (e11, .inl (cI, 20, .inl (qS (qg_f M)))), (e12, .inl (cI, 4, .inl (qN pl))), (e1, .inl (cI, 576, .inl (qS mI))), (e2, .inl (cI, 768, .inl (qS mO))), (e3, .inl (cI, 768, .inl (qS mD))), (e4, .inl (cI, 768, .inl (qS mG))), (e5, .inl (cI, 576, .inl (qS mR))), (e6, .inl (cZ, 48, .inl (qZ mB))), (e7, .inl (cI, 384, .inl (qS mU))), (e8, .inl (cZ, 384, .inl (qZ mF)))]) (va_A [(h0, .inr (5, [.int (nI k0), .int (nI T), .ref e1, .ref e2, .ref e3, .int (nI dn), .ref e4, .ref e5, .ref e6, .ref e7, .ref e8, .int (nI me), .int (nI du), .int (nI fi), .int (nI ls0), .ref e9, .ref e10, .ref e11, .ref e12])), (e9, .inl (cI, 16, .inl (qS w))), (e10, .inl (cZ, 16, .inl (qZ z))), (e11, .inl (cI, 20, .inl (qS (qg_f M)))), (e12, .inl (cI, 4, .inl (qN pl))), (e1, .inl (cI, 576, .inl (qS mI))), (e2, .inl (cI, 768, .inl (qS mO))), (e3, .inl (cI, 768, .inl (qS mD))), (e4, .inl (cI, 768, .inl (qS mG))), (e5, .inl (cI, 576, .inl (qS mR))), (e6, .inl (cZ, 48, .inl (qZ mB))), (e7, .inl (cI, 384, .inl (qS mU))), (e8, .inl (cZ, 384, .inl (qZ mF)))] sz)) 0 0 (va_A [(h0, .inr (5, [.int (nI k0), .int (nI T), .ref e1, .ref e2, .ref e3, .int (nI dn), .ref e4, .ref e5, .ref e6, .ref e7, .ref e8, .int (nI me), .int (nI du), .int (nI fi), .int (nI ls0), .ref e9, .ref e10, .ref e11, .ref e12])), (e9, .inl (cI, 16, .inl (qS w))), (e10, .inl (cZ, 16, .inl (qZ z))), (e11, .inl (cI, 20, .inl (qS (qg_f M)))), (e12, .inl (cI, 4, .inl (qN pl))), (e1, .inl (cI, 576, .inl (qS mI))), (e2, .inl (cI, 768, .inl (qS mO))), (e3, .inl (cI, 768, .inl (qS mD))), (e4, .inl (cI, 768, .inl (qS mG))), (e5, .inl (cI, 576, .inl (qS mR))), (e6, .inl (cZ, 48, .inl (qZ mB))), (e7, .inl (cI, 384, .inl (qS mU))), (e8, .inl (cZ, 384, .inl (qZ mF)))] sz) := by
  refine Met.ofW (cc := cX6_burst) (maxL := 5) (ret := none) (by decide) rfl ?_
  intro p e s m args below meth c s₁ B hml hv
  obtain ⟨rfl, hsz, hP, hK, hD0⟩ := hv
  have hx := B.exec
  have hb := B.bytes
  have hr := B.returns
  have hts := atoms_spec (ws := wsX6_burst) B.pre
  have hown : s.vm.findClass RX6 = some m.cls := findClass_of_methodNamed B.named
  have hlocks := B.notSynchronized
  subst hsz
  have hD := hD0.self (sz := s.heap.size)
  generalize hAe : va_A [(h0, .inr (5, [.int (nI k0), .int (nI T), .ref e1, .ref e2, .ref e3, .int (nI dn), .ref e4, .ref e5, .ref e6, .ref e7, .ref e8, .int (nI me), .int (nI du), .int (nI fi), .int (nI ls0), .ref e9, .ref e10, .ref e11, .ref e12])), (e9, .inl (cI, 16, .inl (qS w))), (e10, .inl (cZ, 16, .inl (qZ z))), (e11, .inl (cI, 20, .inl (qS (qg_f M)))), (e12, .inl (cI, 4, .inl (qN pl))), (e1, .inl (cI, 576, .inl (qS mI))), (e2, .inl (cI, 768, .inl (qS mO))), (e3, .inl (cI, 768, .inl (qS mD))), (e4, .inl (cI, 768, .inl (qS mG))), (e5, .inl (cI, 576, .inl (qS mR))), (e6, .inl (cZ, 48, .inl (qZ mB))), (e7, .inl (cI, 384, .inl (qS mU))), (e8, .inl (cZ, 384, .inl (qZ mF)))] s.heap.size = A at hD ⊢
  have hA : ∀ q : Nat, s.heap.size ≤ q → A q := fun q h => by rw [← hAe]; exact Or.inr h
  have hS : va_S A s.heap s.heap [] := va_S.rf
  have hP : va_P (dC, dI) vwCl [(h0, .inr (5, [.int (nI k0), .int (nI T), .ref e1, .ref e2, .ref e3, .int (nI dn), .ref e4, .ref e5, .ref e6, .ref e7, .ref e8, .int (nI me), .int (nI du), .int (nI fi), .int (nI ls0), .ref e9, .ref e10, .ref e11, .ref e12])), (e9, .inl (cI, 16, .inl (qS w))), (e10, .inl (cZ, 16, .inl (qZ z))), (e11, .inl (cI, 20, .inl (qS (qg_f M)))), (e12, .inl (cI, 4, .inl (qN pl))), (e1, .inl (cI, 576, .inl (qS mI))), (e2, .inl (cI, 768, .inl (qS mO))), (e3, .inl (cI, 768, .inl (qS mD))), (e4, .inl (cI, 768, .inl (qS mG))), (e5, .inl (cI, 576, .inl (qS mR))), (e6, .inl (cZ, 48, .inl (qZ mB))), (e7, .inl (cI, 384, .inl (qS mU))), (e8, .inl (cZ, 384, .inl (qZ mF)))] s.heap := hP
  have hl := lv_entry ([.ref h0, .int (nI x), .int (nI q), .int (sI v)]) (n := 5) (Nat.le_of_ble_eq_true rfl)
  rw [lg_entry_eq]
  generalize (lg_sl ([.ref h0, .int (nI x), .int (nI q), .int (sI v)]) ++ List.replicate (5 - (lg_sl ([.ref h0, .int (nI x), .int (nI q), .int (sI v)])).length) Slot.unset).toArray = ls at hl ⊢
  have hl : lv_has ls 5 [(0, .ref h0), (1, .int (nI x)), (2, .int (nI q)), (3, .int (sI v))] := hl
  have k_79 := hts (.fieldLink RX6 79 "DiscCoderModel" "frames" "I") (by decide +kernel)
  have k_96 := hts (.fieldLink RX6 96 "DiscCoderModel" "done" "I") (by decide +kernel)
  have k_47 := hts (.fieldLink RX6 47 "DiscCoderModel" "code" "I") (by decide +kernel)
  have k_16 := hts (.fieldLink RX6 16 "DiscCoderModel" "disc" "[I") (by decide +kernel)
  have i_X6 : ∀ w ∈ u_ws RX6 TX6 19, w ∈ wsX6_burst := by decide +kernel
  refine qr_nm (fun Q hQ => ?_)
  refine lv_aload_n hx hb dX6_burst_0 rfl (lv_at hl 0 rfl) ?_
  refine lv_iload_n hx hb dX6_burst_1 rfl (lv_at hl 2 rfl) ?_
  refine lv_if_lt (tgt := 12) hx hb dX6_burst_2 rfl  (fun h => absurd h (nI_pos (by omega))) (fun b2 => ?_)
  refine lv_iload_n hx hb dX6_burst_5 rfl (lv_at hl 3 rfl) ?_
  refine vp_callSi (va_Run.run (va_runS (As := [.int (sI v)]) (rest := [.ref h0]) ⟨hx, hb, hml, hown, hts⟩ (qc_isSym l (sI v) ) (va_cwS 1 hts gX6_burst_X6_isSymbol rfl rfl rfl (by decide +kernel) ⟨Nat.le_of_ble_eq_true rfl, Nat.le_of_ble_eq_true rfl⟩) ⟨fun a U g mk q => q, fun U hU hW => ⟨rfl, trivial⟩⟩ rfl rfl hl.1 rfl (lv_room (Nat.le_of_ble_eq_true rfl)) dX6_burst_6 ⟨Nat.le_of_ble_eq_true rfl, Nat.le_of_ble_eq_true rfl⟩)) (fun rv6 hr6 => ?_)
  obtain ⟨v6, e6, hv6⟩ := hr6
  subst e6
  refine qr_ifneZ (tgt := 16) hx hb dX6_burst_9 rfl  (fun b9 => ?_) (fun h => absurd (hv6.mpr (qs_sym v)) (by rw [h]; decide))
  refine lv_iload_n hx hb dX6_burst_16 rfl (lv_at hl 2 rfl) ?_
  refine lv_if_le (tgt := 52) hx hb dX6_burst_17 rfl  (fun h => absurd h (nI_nle (by omega) (by omega))) (fun b17 => ?_)
  refine lv_iload_n hx hb dX6_burst_20 rfl (lv_at hl 1 rfl) ?_
  refine lv_if_lt (tgt := 48) hx hb dX6_burst_21 rfl  (fun h => absurd h (nI_pos (by omega))) (fun b21 => ?_)
  refine lv_iload_n hx hb dX6_burst_24 rfl (lv_at hl 1 rfl) ?_
  refine lv_bipush (v := nI 16) hx hb dX6_burst_25 (by decide) ?_
  refine lv_aload_n hx hb dX6_burst_27 rfl (lv_at hl 0 rfl) ?_
  refine va_get (D := (dC, dI)) (ci := 5) (v := .int (nI T)) (C := RX6) (T := TX6) (N := 19) hx hb hts i_X6 hown hK hP 0 rfl rfl 1 (by decide) k_79 (fun _ h9 => h9) rfl dX6_burst_28 ?_
  refine qr_imul (z := nI (16 * T)) hx hb dX6_burst_31 (pk_mul _ _) ?_
  refine qr_ge (tgt := 48) hx hb dX6_burst_32 rfl (by omega) (by omega) (fun h => absurd h (by omega)) (fun b32 => ?_)
  refine lv_iload_n hx hb dX6_burst_35 rfl (lv_at hl 2 rfl) ?_
  refine lv_bipush (v := nI 16) hx hb dX6_burst_36 (by decide) ?_
  refine lv_aload_n hx hb dX6_burst_38 rfl (lv_at hl 0 rfl) ?_
  refine va_get (D := (dC, dI)) (ci := 5) (v := .int (nI T)) (C := RX6) (T := TX6) (N := 19) hx hb hts i_X6 hown hK hP 0 rfl rfl 1 (by decide) k_79 (fun _ h9 => h9) rfl dX6_burst_39 ?_
  refine qr_imul (z := nI (16 * T)) hx hb dX6_burst_42 (pk_mul _ _) ?_
  refine lv_iload_n hx hb dX6_burst_43 rfl (lv_at hl 1 rfl) ?_
  refine qr_isub (z := nI ((16 * T) - x)) hx hb dX6_burst_44 (pk_sub (by omega)) ?_
  refine qr_le (tgt := 52) hx hb dX6_burst_45 rfl (by omega) (by omega) (fun b45 => ?_) (fun h => absurd h (by omega))
  refine lv_iload_n hx hb dX6_burst_52 rfl (lv_at hl 2 rfl) ?_
  refine lv_if_le (tgt := 71) hx hb dX6_burst_53 rfl  (fun h => absurd h (nI_nle (by omega) (by omega))) (fun b53 => ?_)
  refine lv_iload_n hx hb dX6_burst_56 rfl (lv_at hl 1 rfl) ?_
  refine lv_bipush (v := nI 16) hx hb dX6_burst_57 (by decide) ?_
  refine qr_idiv (z := nI (x / 16)) hx hb dX6_burst_59 (by decide) (pk_div (by omega) (by omega) (by omega)) ?_
  refine lv_aload_n hx hb dX6_burst_60 rfl (lv_at hl 0 rfl) ?_
  refine va_get (D := (dC, dI)) (ci := 5) (v := .int (nI dn)) (C := RX6) (T := TX6) (N := 19) hx hb hts i_X6 hown hK hP 0 rfl rfl 5 (by decide) k_96 (fun _ h9 => h9) rfl dX6_burst_61 ?_
  refine qr_ge (tgt := 71) hx hb dX6_burst_64 rfl (by omega) (by omega) (fun h => absurd h (by omega)) (fun b64 => ?_)
  refine lv_iconst (v := nI 3) hx hb dX6_burst_67 (by decide) ?_
  refine lv_goto (tgt := 72) hx hb dX6_burst_68 rfl ?_
  refine va_put (D := (dC, dI)) (ci := 5) (v := .int (nI 3)) (ty := .int) (C := RX6) (T := TX6) (N := 19) hx hb hts i_X6 tyX6 tyX6_ok nmX6 hown hK hP hD hS 0 rfl rfl 0 (by decide) k_47 (fun _ h9 => h9) rfl (by decide +kernel) rfl rfl (Nat.le_of_ble_eq_true rfl) dX6_burst_72 (fun H locs hP hD hS => ?_)
  have hP : va_P (dC, dI) vwCl [(h0, .inr (5, [.int (nI 3), .int (nI T), .ref e1, .ref e2, .ref e3, .int (nI dn), .ref e4, .ref e5, .ref e6, .ref e7, .ref e8, .int (nI me), .int (nI du), .int (nI fi), .int (nI ls0), .ref e9, .ref e10, .ref e11, .ref e12])), (e9, .inl (cI, 16, .inl (qS w))), (e10, .inl (cZ, 16, .inl (qZ z))), (e11, .inl (cI, 20, .inl (qS (qg_f M)))), (e12, .inl (cI, 4, .inl (qN pl))), (e1, .inl (cI, 576, .inl (qS mI))), (e2, .inl (cI, 768, .inl (qS mO))), (e3, .inl (cI, 768, .inl (qS mD))), (e4, .inl (cI, 768, .inl (qS mG))), (e5, .inl (cI, 576, .inl (qS mR))), (e6, .inl (cZ, 48, .inl (qZ mB))), (e7, .inl (cI, 384, .inl (qS mU))), (e8, .inl (cZ, 384, .inl (qZ mF)))] H := hP
  have hD : va_D A [(h0, .inr (5, [.int (nI 3), .int (nI T), .ref e1, .ref e2, .ref e3, .int (nI dn), .ref e4, .ref e5, .ref e6, .ref e7, .ref e8, .int (nI me), .int (nI du), .int (nI fi), .int (nI ls0), .ref e9, .ref e10, .ref e11, .ref e12])), (e9, .inl (cI, 16, .inl (qS w))), (e10, .inl (cZ, 16, .inl (qZ z))), (e11, .inl (cI, 20, .inl (qS (qg_f M)))), (e12, .inl (cI, 4, .inl (qN pl))), (e1, .inl (cI, 576, .inl (qS mI))), (e2, .inl (cI, 768, .inl (qS mO))), (e3, .inl (cI, 768, .inl (qS mD))), (e4, .inl (cI, 768, .inl (qS mG))), (e5, .inl (cI, 576, .inl (qS mR))), (e6, .inl (cZ, 48, .inl (qZ mB))), (e7, .inl (cI, 384, .inl (qS mU))), (e8, .inl (cZ, 384, .inl (qZ mF)))] := hD
  refine lv_iconst (v := nI 0) hx hb dX6_burst_75 (by decide) ?_
  refine lv_istore (lv' := [(4, .int (nI 0)), (0, .ref h0), (1, .int (nI x)), (2, .int (nI q)), (3, .int (sI v))]) hx hb dX6_burst_76 hl (by decide) rfl (fun ls hl => ?_)
  refine lv_iload hx hb dX6_burst_78 (lv_at hl 0 rfl) ?_
  refine lv_iload_n hx hb dX6_burst_80 rfl (lv_at hl 3 rfl) ?_
  refine qr_ge (tgt := 110) hx hb dX6_burst_81 rfl (by omega) (by omega) (fun h => absurd h (by omega)) (fun b81 => ?_)
  refine lv_aload_n hx hb dX6_burst_84 rfl (lv_at hl 1 rfl) ?_
  refine va_get (D := (dC, dI)) (ci := 5) (v := .int (nI 3)) (C := RX6) (T := TX6) (N := 19) hx hb hts i_X6 hown hK hP 0 rfl rfl 0 (by decide) k_47 (fun _ h9 => h9) rfl dX6_burst_85 ?_
  refine qr_ifneN (tgt := 110) hx hb dX6_burst_88 rfl (by omega) (fun b88 => ?_) (fun h => absurd h (by decide))
  subst hQ
  exact W.vret hx hb hr (fun t ht hW => ⟨⟨(), rfl, trivial, by rw [ht]; exact hP, va_K.moved hW.alike hK, hD⟩, hS.F ht⟩) hS.2.2 dX6_burst_110
