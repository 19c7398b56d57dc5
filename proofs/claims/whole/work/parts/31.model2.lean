set_option maxHeartbeats 4000000 in
set_option maxRecDepth 100000 in
/-- reference: loadData -/
theorem qc_load (l : Launch) (dC : Nat → ClassId) (dI : Nat → Nat → Nat) (cI cZ : ClassId) (h0 k0 T dn me du fi ls0 e1 e2 e3 e4 e5 e6 e7 e8 e9 e10 e11 e12 : Nat) (w : Nat → BitVec 8) (z : Nat → Bool) (M : Nat → Nat → BitVec 8) (pl : Nat → Nat) (x : Int64) (sz : Nat)  : Met l yX6_loadData wsX6_loadData ({ frames := 0, cells := 0, slots := 0, locals := 0 } : Room) (va_Pc [.ref h0, .long x] (fun U => U.heap.size = sz ∧ va_P (dC, dI) vwCl [(h0, .inr (5, [.int (nI k0), .int (nI T), .ref e1, .ref e2, .ref e3, .int (nI dn), .ref e4, .ref e5, .ref e6, .ref e7, .ref e8, .int (nI me), .int (nI du), .int (nI fi), .int (nI ls0), .ref e9, .ref e10, .ref e11, .ref e12])), (e9, .inl (cI, 16, .inl (qS w))), (e10, .inl (cZ, 16, .inl (qZ z))), (e11, .inl (cI, 20, .inl (qS (qg_f M)))), (e12, .inl (cI, 4, .inl (qN pl)))] U.heap ∧ va_K (dC, dI) vwCl [(cI, .int), (cZ, .boolean)] U ∧ va_D (fun _ => True) [(h0, .inr (5, [.int (nI k0), .int (nI T), .ref e1, .ref e2, .ref e3, .int (nI dn), .ref e4, .ref e5, .ref e6, .ref e7, .ref e8, .int (nI me), .int (nI du), .int (nI fi), .int (nI ls0), .ref e9, .ref e10, .ref e11, .ref e12])), (e9, .inl (cI, 16, .inl (qS w))), (e10, .inl (cZ, 16, .inl (qZ z))), (e11, .inl (cI, 20, .inl (qS (qg_f M)))), (e12, .inl (cI, 4, .inl (qN pl)))])) (va_Qv (fun (_ : Unit) => True) (fun _ t => va_P (dC, dI) vwCl [(h0, .inr (5, [.int (nI k0), .int (nI T), .ref e1, .ref e2, .ref e3, .int (nI dn), .ref e4, .ref e5, .ref e6, .ref e7, .ref e8, .int (nI me), .int (nI du), .int (nI fi), .int (nI ls0), .ref e9, .ref e10, .ref e11, .ref e12])), (e9, .inl (cI, 16, .inl (qS (qm_bw x w 8)))), (e10, .inl (cZ, 16, .inl (qZ z))), (e11, .inl (cI, 20, .inl (qS (qg_f M)))), (e12, .inl (cI, 4, .inl (qN pl)))] t.heap ∧ va_K (dC, dI) vwCl [(cI, .int), (cZ, .boolean)] t ∧ va_D (va_A [(h0, .inr (5, [.int (nI k0), .int (nI T), .ref e1, .ref e2, .ref e3, .int (nI dn), .ref e4, .ref e5, .ref e6, .ref e7, .ref e8, .int (nI me), .int (nI du), .int (nI fi), .int (nI ls0), .ref e9, .ref e10, .ref e11, .ref e12])), (e9, .inl (cI, 16, .inl (qS w))), (e10, .inl (cZ, 16, .inl (qZ z))), (e11, .inl (cI, 20, .inl (qS (qg_f M)))), (e12, .inl (cI, 4, .inl (qN pl)))] sz) [(h0, .inr (5, [.int (nI k0), .int (nI T), .ref e1, .ref e2, .ref e3, .int (nI dn), .ref e4, .ref e5, .ref e6, .ref e7, .ref e8, .int (nI me), .int (nI du), .int (nI fi), .int (nI ls0), .ref e9, .ref e10, .ref e11, .ref e12])), (e9, .inl (cI, 16, .inl (qS (qm_bw x w 8)))), (e10, .inl (cZ, 16, .inl (qZ z))), (e11, .inl (cI, 20, .inl (qS (qg_f M)))), (e12, .inl (cI, 4, .inl (qN pl)))]) (va_A [(h0, .inr (5, [.int (nI k0), .int (nI T), .ref e1, .ref e2, .ref e3, .int (nI dn), .ref e4, .ref e5, .ref e6, .ref e7, .ref e8, .int (nI me), .int (nI du), .int (nI fi), .int (nI ls0), .ref e9, .ref e10, .ref e11, .ref e12])), (e9, .inl (cI, 16, .inl (qS w))), (e10, .inl (cZ, 16, .inl (qZ z))), (e11, .inl (cI, 20, .inl (qS (qg_f M)))), (e12, .inl (cI, 4, .inl (qN pl)))] sz)) 0 0 (va_A [(h0, .inr (5, [.int (nI k0), .int (nI T), .ref e1, .ref e2, .ref e3, .int (nI dn), .ref e4, .ref e5, .ref e6, .ref e7, .ref e8, .int (nI me), .int (nI du), .int (nI fi), .int (nI ls0), .ref e9, .ref e10, .ref e11, .ref e12])), (e9, .inl (cI, 16, .inl (qS w))), (e10, .inl (cZ, 16, .inl (qZ z))), (e11, .inl (cI, 20, .inl (qS (qg_f M)))), (e12, .inl (cI, 4, .inl (qN pl)))] sz) := by
  refine Met.ofW (cc := cX6_loadData) (maxL := 4) (ret := none) (by decide) rfl ?_
  intro p e s m args below meth c s₁ B hml hv
  obtain ⟨rfl, hsz, hP, hK, hD0⟩ := hv
  have hx := B.exec
  have hb := B.bytes
  have hr := B.returns
  have hts := atoms_spec (ws := wsX6_loadData) B.pre
  have hown : s.vm.findClass RX6 = some m.cls := findClass_of_methodNamed B.named
  have hlocks := B.notSynchronized
  subst hsz
  have hD := hD0.self (sz := s.heap.size)
  generalize hAe : va_A [(h0, .inr (5, [.int (nI k0), .int (nI T), .ref e1, .ref e2, .ref e3, .int (nI dn), .ref e4, .ref e5, .ref e6, .ref e7, .ref e8, .int (nI me), .int (nI du), .int (nI fi), .int (nI ls0), .ref e9, .ref e10, .ref e11, .ref e12])), (e9, .inl (cI, 16, .inl (qS w))), (e10, .inl (cZ, 16, .inl (qZ z))), (e11, .inl (cI, 20, .inl (qS (qg_f M)))), (e12, .inl (cI, 4, .inl (qN pl)))] s.heap.size = A at hD ⊢
  have hA : ∀ q : Nat, s.heap.size ≤ q → A q := fun q h => by rw [← hAe]; exact Or.inr h
  have hS : va_S A s.heap s.heap [] := va_S.rf
  have hP : va_P (dC, dI) vwCl [(h0, .inr (5, [.int (nI k0), .int (nI T), .ref e1, .ref e2, .ref e3, .int (nI dn), .ref e4, .ref e5, .ref e6, .ref e7, .ref e8, .int (nI me), .int (nI du), .int (nI fi), .int (nI ls0), .ref e9, .ref e10, .ref e11, .ref e12])), (e9, .inl (cI, 16, .inl (qS w))), (e10, .inl (cZ, 16, .inl (qZ z))), (e11, .inl (cI, 20, .inl (qS (qg_f M)))), (e12, .inl (cI, 4, .inl (qN pl)))] s.heap := hP
  have hl := lv_entry ([.ref h0, .long x]) (n := 4) (Nat.le_of_ble_eq_true rfl)
  rw [lg_entry_eq]
  generalize (lg_sl ([.ref h0, .long x]) ++ List.replicate (4 - (lg_sl ([.ref h0, .long x])).length) Slot.unset).toArray = ls at hl ⊢
  have hl : lv_has ls 4 [(0, .ref h0), (1, .long x)] := hl
  have k_35 := hts (.fieldLink RX6 35 "DiscCoderModel" "word" "[I") (by decide +kernel)
  have i_X6 : ∀ w ∈ u_ws RX6 TX6 19, w ∈ wsX6_loadData := by decide +kernel
  refine qr_nm (fun Q hQ => ?_)
  refine lv_iconst (v := nI 0) hx hb dX6_loadData_0 (by decide) ?_
  refine lv_istore_n (lv' := [(3, .int (nI 0)), (0, .ref h0), (1, .long x)]) hx hb dX6_loadData_1 rfl hl (by decide) rfl (fun ls hl => ?_)
  have lp2 : ∀ (j i : Nat), i + j = 8 → ∀  (ls : Array Slot) (H : Heap) (locs : List Loc), lv_has ls 4 [(0, .ref h0), (1, .long x), (3, .int (nI i))] → va_P (dC, dI) vwCl [(h0, .inr (5, [.int (nI k0), .int (nI T), .ref e1, .ref e2, .ref e3, .int (nI dn), .ref e4, .ref e5, .ref e6, .ref e7, .ref e8, .int (nI me), .int (nI du), .int (nI fi), .int (nI ls0), .ref e9, .ref e10, .ref e11, .ref e12])), (e9, .inl (cI, 16, .inl (qS (qm_bw x w i)))), (e10, .inl (cZ, 16, .inl (qZ z))), (e11, .inl (cI, 20, .inl (qS (qg_f M)))), (e12, .inl (cI, 4, .inl (qN pl)))] H → va_D A [(h0, .inr (5, [.int (nI k0), .int (nI T), .ref e1, .ref e2, .ref e3, .int (nI dn), .ref e4, .ref e5, .ref e6, .ref e7, .ref e8, .int (nI me), .int (nI du), .int (nI fi), .int (nI ls0), .ref e9, .ref e10, .ref e11, .ref e12])), (e9, .inl (cI, 16, .inl (qS (qm_bw x w i)))), (e10, .inl (cZ, 16, .inl (qZ z))), (e11, .inl (cI, 20, .inl (qS (qg_f M)))), (e12, .inl (cI, 4, .inl (qN pl)))] → va_S A s.heap H locs → W p l e (headSpec wsX6_loadData ({ frames := 0, cells := 0, slots := 0, locals := 0 } : Room)).room s m ([.ref h0, .long x] : List Value).toArray below meth c H locs 0 0 Q (F0 m 2 ls []) := by
    intro j
    induction j with
    | zero =>
      intro i hi  ls H locs hl hP hD hS
      have e9 : 8 = i := by omega
      subst e9
      refine lv_iload_n hx hb dX6_loadData_2 rfl (lv_at hl 2 rfl) ?_
      refine lv_bipush (v := nI 8) hx hb dX6_loadData_3 (by decide) ?_
      refine qr_ge (tgt := 31) hx hb dX6_loadData_5 rfl (by omega) (by omega) (fun b5 => ?_) (fun h => absurd h (by omega))
      subst hQ
      exact W.vret hx hb hr (fun t ht hW => ⟨⟨(), rfl, trivial, by rw [ht]; exact hP, va_K.moved hW.alike hK, hD⟩, hS.F ht⟩) hS.2.2 dX6_loadData_31
    | succ j ih =>
      intro i hi  ls H locs hl hP hD hS
      have li : i < 8 := by omega
      refine lv_iload_n hx hb dX6_loadData_2 rfl (lv_at hl 2 rfl) ?_
      refine lv_bipush (v := nI 8) hx hb dX6_loadData_3 (by decide) ?_
      refine qr_ge (tgt := 31) hx hb dX6_loadData_5 rfl (by omega) (by omega) (fun h => absurd h (by omega)) (fun b5 => ?_)
      refine lv_aload_n hx hb dX6_loadData_8 rfl (lv_at hl 0 rfl) ?_
      refine va_get (D := (dC, dI)) (ci := 5) (v := .ref e9) (C := RX6) (T := TX6) (N := 19) hx hb hts i_X6 hown hK hP 0 rfl rfl 15 (by decide) k_35 (fun _ h9 => h9) rfl dX6_loadData_9 ?_
      refine lv_iload_n hx hb dX6_loadData_12 rfl (lv_at hl 2 rfl) ?_
      refine lv_lload_n hx hb dX6_loadData_13 rfl (lv_at hl 1 rfl) ?_
      refine lv_bipush (v := nI 8) hx hb dX6_loadData_14 (by decide) ?_
      refine lv_iload_n hx hb dX6_loadData_16 rfl (lv_at hl 2 rfl) ?_
      refine qr_imul (z := nI (8 * i)) hx hb dX6_loadData_17 (pk_mul _ _) ?_
      refine lv_lshr (v := qm_rx x i) hx hb dX6_loadData_18 rfl ?_
      refine lv_ldc2 (v := 255) hx hb hown (hts (.constantLong RX6 77 255) (by decide +kernel)) dX6_loadData_19 ?_
      refine lv_land hx hb dX6_loadData_22 ?_
      refine lv_l2i (v := sI (qm_by x i)) hx hb dX6_loadData_23 (qm_byteR x (by omega)) ?_
      refine qr_istS (x := qm_by x i) hx hb hK hP hD hS 1 0 rfl rfl (by omega) (by omega) dX6_loadData_24 (fun H locs hP hD hS => ?_)
      have hP : va_P (dC, dI) vwCl [(h0, .inr (5, [.int (nI k0), .int (nI T), .ref e1, .ref e2, .ref e3, .int (nI dn), .ref e4, .ref e5, .ref e6, .ref e7, .ref e8, .int (nI me), .int (nI du), .int (nI fi), .int (nI ls0), .ref e9, .ref e10, .ref e11, .ref e12])), (e9, .inl (cI, 16, .inl (qS (va_up (qm_bw x w i) i (qm_by x i))))), (e10, .inl (cZ, 16, .inl (qZ z))), (e11, .inl (cI, 20, .inl (qS (qg_f M)))), (e12, .inl (cI, 4, .inl (qN pl)))] H := hP
      have hD : va_D A [(h0, .inr (5, [.int (nI k0), .int (nI T), .ref e1, .ref e2, .ref e3, .int (nI dn), .ref e4, .ref e5, .ref e6, .ref e7, .ref e8, .int (nI me), .int (nI du), .int (nI fi), .int (nI ls0), .ref e9, .ref e10, .ref e11, .ref e12])), (e9, .inl (cI, 16, .inl (qS (va_up (qm_bw x w i) i (qm_by x i))))), (e10, .inl (cZ, 16, .inl (qZ z))), (e11, .inl (cI, 20, .inl (qS (qg_f M)))), (e12, .inl (cI, 4, .inl (qN pl)))] := hD
      refine lv_iinc (k := 2) (v := nI (i + 1)) (lv' := [(3, .int (nI (i + 1))), (0, .ref h0), (1, .long x)]) hx hb dX6_loadData_25 hl rfl (qr_inc _) (by decide) rfl (fun ls hl => ?_)
      refine lv_goto (tgt := 2) hx hb dX6_loadData_28 rfl ?_
      have hl := lv_sub (l' := [(0, .ref h0), (1, .long x), (3, .int (nI (i + 1)))]) hl [1, 2, 0] rfl
      have e1 : qm_bw x w (i + 1) = va_up (qm_bw x w i) i (qm_by x i) := by first | rfl | (simp only [cond_true, cond_false])
      exact ih (i + 1) (by omega)  ls H _ (by exact hl) (by rw [e1]; exact hP) (by rw [e1]; exact hD) hS 
  have hl := lv_sub (l' := [(0, .ref h0), (1, .long x), (3, .int (nI 0))]) hl [1, 2, 0] rfl
  exact lp2 8 0 (by omega)  ls s.heap _ hl hP hD hS 
set_option maxHeartbeats 4000000 in
set_option maxRecDepth 100000 in
/-- reference: finish -/
theorem qc_finish (l : Launch) (dC : Nat → ClassId) (dI : Nat → Nat → Nat) (cI cZ : ClassId) (h0 k0 T dn me du fi ls0 e1 e2 e3 e4 e5 e6 e7 e8 e9 e10 e11 e12 : Nat) (w : Nat → BitVec 8) (z : Nat → Bool) (M : Nat → Nat → BitVec 8) (pl : Nat → Nat) (n : Nat) (sz : Nat) (hn : n ≤ 16) (h4 : 4 ≤ n) : Met l yX6_finish wsX6_finish ({ frames := 4, cells := 0, slots := 0, locals := 97 } : Room) (va_Pc [.ref h0, .int (nI n)] (fun U => U.heap.size = sz ∧ va_P (dC, dI) vwCl [(h0, .inr (5, [.int (nI k0), .int (nI T), .ref e1, .ref e2, .ref e3, .int (nI dn), .ref e4, .ref e5, .ref e6, .ref e7, .ref e8, .int (nI me), .int (nI du), .int (nI fi), .int (nI ls0), .ref e9, .ref e10, .ref e11, .ref e12])), (e9, .inl (cI, 16, .inl (qS w))), (e10, .inl (cZ, 16, .inl (qZ z))), (e11, .inl (cI, 20, .inl (qS (qg_f M)))), (e12, .inl (cI, 4, .inl (qN pl)))] U.heap ∧ va_K (dC, dI) vwCl [(cI, .int), (cZ, .boolean)] U ∧ va_D (fun _ => True) [(h0, .inr (5, [.int (nI k0), .int (nI T), .ref e1, .ref e2, .ref e3, .int (nI dn), .ref e4, .ref e5, .ref e6, .ref e7, .ref e8, .int (nI me), .int (nI du), .int (nI fi), .int (nI ls0), .ref e9, .ref e10, .ref e11, .ref e12])), (e9, .inl (cI, 16, .inl (qS w))), (e10, .inl (cZ, 16, .inl (qZ z))), (e11, .inl (cI, 20, .inl (qS (qg_f M)))), (e12, .inl (cI, 4, .inl (qN pl)))])) (va_Qv (fun (u : (Nat → Nat → BitVec 8) × (Nat → Nat)) => True) (fun u t => va_P (dC, dI) vwCl [(h0, .inr (5, [.int (nI k0), .int (nI T), .ref e1, .ref e2, .ref e3, .int (nI dn), .ref e4, .ref e5, .ref e6, .ref e7, .ref e8, .int (nI me), .int (nI du), .int (nI fi), .int (nI ls0), .ref e9, .ref e10, .ref e11, .ref e12])), (e9, .inl (cI, 16, .inl (qS (qk_p w (qd_d (qm_fi n z 16) pl n) (fun c => qk_N n (qm_fi n z 16) pl w c 4) 4)))), (e10, .inl (cZ, 16, .inl (qZ (qm_fi n z 16)))), (e11, .inl (cI, 20, .inl (qS (qg_f u.1)))), (e12, .inl (cI, 4, .inl (qN u.2)))] t.heap ∧ va_K (dC, dI) vwCl [(cI, .int), (cZ, .boolean)] t ∧ va_D (va_A [(h0, .inr (5, [.int (nI k0), .int (nI T), .ref e1, .ref e2, .ref e3, .int (nI dn), .ref e4, .ref e5, .ref e6, .ref e7, .ref e8, .int (nI me), .int (nI du), .int (nI fi), .int (nI ls0), .ref e9, .ref e10, .ref e11, .ref e12])), (e9, .inl (cI, 16, .inl (qS w))), (e10, .inl (cZ, 16, .inl (qZ z))), (e11, .inl (cI, 20, .inl (qS (qg_f M)))), (e12, .inl (cI, 4, .inl (qN pl)))] sz) [(h0, .inr (5, [.int (nI k0), .int (nI T), .ref e1, .ref e2, .ref e3, .int (nI dn), .ref e4, .ref e5, .ref e6, .ref e7, .ref e8, .int (nI me), .int (nI du), .int (nI fi), .int (nI ls0), .ref e9, .ref e10, .ref e11, .ref e12])), (e9, .inl (cI, 16, .inl (qS (qk_p w (qd_d (qm_fi n z 16) pl n) (fun c => qk_N n (qm_fi n z 16) pl w c 4) 4)))), (e10, .inl (cZ, 16, .inl (qZ (qm_fi n z 16)))), (e11, .inl (cI, 20, .inl (qS (qg_f u.1)))), (e12, .inl (cI, 4, .inl (qN u.2)))]) (va_A [(h0, .inr (5, [.int (nI k0), .int (nI T), .ref e1, .ref e2, .ref e3, .int (nI dn), .ref e4, .ref e5, .ref e6, .ref e7, .ref e8, .int (nI me), .int (nI du), .int (nI fi), .int (nI ls0), .ref e9, .ref e10, .ref e11, .ref e12])), (e9, .inl (cI, 16, .inl (qS w))), (e10, .inl (cZ, 16, .inl (qZ z))), (e11, .inl (cI, 20, .inl (qS (qg_f M)))), (e12, .inl (cI, 4, .inl (qN pl)))] sz)) 0 0 (va_A [(h0, .inr (5, [.int (nI k0), .int (nI T), .ref e1, .ref e2, .ref e3, .int (nI dn), .ref e4, .ref e5, .ref e6, .ref e7, .ref e8, .int (nI me), .int (nI du), .int (nI fi), .int (nI ls0), .ref e9, .ref e10, .ref e11, .ref e12])), (e9, .inl (cI, 16, .inl (qS w))), (e10, .inl (cZ, 16, .inl (qZ z))), (e11, .inl (cI, 20, .inl (qS (qg_f M)))), (e12, .inl (cI, 4, .inl (qN pl)))] sz) := by
  refine Met.ofW (cc := cX6_finish) (maxL := 3) (ret := none) (by decide) rfl ?_
  intro p e s m args below meth c s₁ B hml hv
  obtain ⟨rfl, hsz, hP, hK, hD0⟩ := hv
  have hx := B.exec
  have hb := B.bytes
  have hr := B.returns
  have hts := atoms_spec (ws := wsX6_finish) B.pre
  have hown : s.vm.findClass RX6 = some m.cls := findClass_of_methodNamed B.named
  have hlocks := B.notSynchronized
  subst hsz
  have hD := hD0.self (sz := s.heap.size)
  generalize hAe : va_A [(h0, .inr (5, [.int (nI k0), .int (nI T), .ref e1, .ref e2, .ref e3, .int (nI dn), .ref e4, .ref e5, .ref e6, .ref e7, .ref e8, .int (nI me), .int (nI du), .int (nI fi), .int (nI ls0), .ref e9, .ref e10, .ref e11, .ref e12])), (e9, .inl (cI, 16, .inl (qS w))), (e10, .inl (cZ, 16, .inl (qZ z))), (e11, .inl (cI, 20, .inl (qS (qg_f M)))), (e12, .inl (cI, 4, .inl (qN pl)))] s.heap.size = A at hD ⊢
  have hA : ∀ q : Nat, s.heap.size ≤ q → A q := fun q h => by rw [← hAe]; exact Or.inr h
  have hS : va_S A s.heap s.heap [] := va_S.rf
  have hP : va_P (dC, dI) vwCl [(h0, .inr (5, [.int (nI k0), .int (nI T), .ref e1, .ref e2, .ref e3, .int (nI dn), .ref e4, .ref e5, .ref e6, .ref e7, .ref e8, .int (nI me), .int (nI du), .int (nI fi), .int (nI ls0), .ref e9, .ref e10, .ref e11, .ref e12])), (e9, .inl (cI, 16, .inl (qS w))), (e10, .inl (cZ, 16, .inl (qZ z))), (e11, .inl (cI, 20, .inl (qS (qg_f M)))), (e12, .inl (cI, 4, .inl (qN pl)))] s.heap := hP
  have hl := lv_entry ([.ref h0, .int (nI n)]) (n := 3) (Nat.le_of_ble_eq_true rfl)
  rw [lg_entry_eq]
  generalize (lg_sl ([.ref h0, .int (nI n)]) ++ List.replicate (3 - (lg_sl ([.ref h0, .int (nI n)])).length) Slot.unset).toArray = ls at hl ⊢
  have hl : lv_has ls 3 [(0, .ref h0), (1, .int (nI n))] := hl
  have k_38 := hts (.fieldLink RX6 38 "DiscCoderModel" "missing" "[Z") (by decide +kernel)
  have i_X6 : ∀ w ∈ u_ws RX6 TX6 19, w ∈ wsX6_finish := by decide +kernel
  refine qr_nm (fun Q hQ => ?_)
  refine lv_iconst (v := nI 0) hx hb dX6_finish_0 (by decide) ?_
  refine lv_istore_n (lv' := [(2, .int (nI 0)), (0, .ref h0), (1, .int (nI n))]) hx hb dX6_finish_1 rfl hl (by decide) rfl (fun ls hl => ?_)
  have lp2 : ∀ (j i : Nat), i + j = 16 → ∀  (ls : Array Slot) (H : Heap) (locs : List Loc), lv_has ls 3 [(0, .ref h0), (1, .int (nI n)), (2, .int (nI i))] → va_P (dC, dI) vwCl [(h0, .inr (5, [.int (nI k0), .int (nI T), .ref e1, .ref e2, .ref e3, .int (nI dn), .ref e4, .ref e5, .ref e6, .ref e7, .ref e8, .int (nI me), .int (nI du), .int (nI fi), .int (nI ls0), .ref e9, .ref e10, .ref e11, .ref e12])), (e9, .inl (cI, 16, .inl (qS w))), (e10, .inl (cZ, 16, .inl (qZ (qm_fi n z i)))), (e11, .inl (cI, 20, .inl (qS (qg_f M)))), (e12, .inl (cI, 4, .inl (qN pl)))] H → va_D A [(h0, .inr (5, [.int (nI k0), .int (nI T), .ref e1, .ref e2, .ref e3, .int (nI dn), .ref e4, .ref e5, .ref e6, .ref e7, .ref e8, .int (nI me), .int (nI du), .int (nI fi), .int (nI ls0), .ref e9, .ref e10, .ref e11, .ref e12])), (e9, .inl (cI, 16, .inl (qS w))), (e10, .inl (cZ, 16, .inl (qZ (qm_fi n z i)))), (e11, .inl (cI, 20, .inl (qS (qg_f M)))), (e12, .inl (cI, 4, .inl (qN pl)))] → va_S A s.heap H locs → W p l e (headSpec wsX6_finish ({ frames := 4, cells := 0, slots := 0, locals := 97 } : Room)).room s m ([.ref h0, .int (nI n)] : List Value).toArray below meth c H locs 0 0 Q (F0 m 2 ls []) := by
    intro j
    induction j with
    | zero =>
      intro i hi  ls H locs hl hP hD hS
      have e9 : 16 = i := by omega
      subst e9
      refine lv_iload_n hx hb dX6_finish_2 rfl (lv_at hl 2 rfl) ?_
      refine lv_bipush (v := nI 16) hx hb dX6_finish_3 (by decide) ?_
      refine qr_ge (tgt := 37) hx hb dX6_finish_5 rfl (by omega) (by omega) (fun b5 => ?_) (fun h => absurd h (by omega))
      refine lv_aload_n hx hb dX6_finish_37 rfl (lv_at hl 0 rfl) ?_
      refine lv_iload_n hx hb dX6_finish_38 rfl (lv_at hl 1 rfl) ?_
      have hPc := hP.sub (ws' := [(h0, .inr (5, [.int (nI k0), .int (nI T), .ref e1, .ref e2, .ref e3, .int (nI dn), .ref e4, .ref e5, .ref e6, .ref e7, .ref e8, .int (nI me), .int (nI du), .int (nI fi), .int (nI ls0), .ref e9, .ref e10, .ref e11, .ref e12])), (e9, .inl (cI, 16, .inl (qS w))), (e10, .inl (cZ, 16, .inl (qZ (qm_fi n z 16)))), (e11, .inl (cI, 20, .inl (qS (qg_f M)))), (e12, .inl (cI, 4, .inl (qN pl)))]) [0, 1, 2, 3, 4] rfl
      have hDc := hD.sub (ws' := [(h0, .inr (5, [.int (nI k0), .int (nI T), .ref e1, .ref e2, .ref e3, .int (nI dn), .ref e4, .ref e5, .ref e6, .ref e7, .ref e8, .int (nI me), .int (nI du), .int (nI fi), .int (nI ls0), .ref e9, .ref e10, .ref e11, .ref e12])), (e9, .inl (cI, 16, .inl (qS w))), (e10, .inl (cZ, 16, .inl (qZ (qm_fi n z 16)))), (e11, .inl (cI, 20, .inl (qS (qg_f M)))), (e12, .inl (cI, 4, .inl (qN pl)))]) [0, 1, 2, 3, 4] (by decide) rfl
      have hKc := hK.sub (tys' := [(cI, .int), (cZ, .boolean)]) [0, 1] rfl
      have hFc := va_free (wc := [(h0, .inr (5, [.int (nI k0), .int (nI T), .ref e1, .ref e2, .ref e3, .int (nI dn), .ref e4, .ref e5, .ref e6, .ref e7, .ref e8, .int (nI me), .int (nI du), .int (nI fi), .int (nI ls0), .ref e9, .ref e10, .ref e11, .ref e12])), (e9, .inl (cI, 16, .inl (qS w))), (e10, .inl (cZ, 16, .inl (qZ (qm_fi n z 16)))), (e11, .inl (cI, 20, .inl (qS (qg_f M)))), (e12, .inl (cI, 4, .inl (qN pl)))]) hD hS hA [0, 1, 2, 3, 4] rfl
      refine va_calli (va_runV (As := [.int (nI n)]) (rest := []) ⟨hx, hb, hml, hown, hts⟩ (qc_mfill l dC dI cI cZ h0 k0 T dn me du fi ls0 e1 e2 e3 e4 e5 e6 e7 e8 e9 e10 e11 e12 w (qm_fi n z 16) M pl n H.size hn (Nat.le_of_eq (qm_fi_4 hn z h4))) (cwV 1 hts gX6_finish_X6_fill rfl rfl rfl (by decide +kernel) ⟨Nat.le_of_ble_eq_true rfl, Nat.le_of_ble_eq_true rfl⟩) ⟨fun a U g mk q => by obtain ⟨q0, q1, qP, qK, qD⟩ := q; exact ⟨q0, q1, qP, va_K.moved (u := U) (U := U.calling g mk a) (Vm.Alike.refl U.vm) qK, qD⟩, (va_recv (q0 := 0) (ci := 5) hK hP rfl rfl), fun U hU hW => ⟨rfl, by rw [hU], by rw [hU]; exact hPc, va_K.moved hW.alike hKc, hDc.weaken (fun _ _ _ _ => trivial)⟩⟩ rfl rfl hl.1 rfl (lv_room (Nat.le_of_ble_eq_true rfl)) dX6_finish_39 ⟨Nat.le_of_ble_eq_true rfl, Nat.le_of_ble_eq_true rfl⟩) hS (fun q _ h => hFc q h) hFc (fun r39 u t H1 locs ht hvm hr39 hB hz1 hk1 hS => ?_)
      obtain ⟨w2, M2, pl2⟩ := u
      dsimp only at hr39 hB
      obtain ⟨hP1, hK1, hD1⟩ := hB
      rw [ht] at hP1
      have hP1 : va_P (dC, dI) vwCl [(h0, .inr (5, [.int (nI k0), .int (nI T), .ref e1, .ref e2, .ref e3, .int (nI dn), .ref e4, .ref e5, .ref e6, .ref e7, .ref e8, .int (nI me), .int (nI du), .int (nI fi), .int (nI ls0), .ref e9, .ref e10, .ref e11, .ref e12])), (e9, .inl (cI, 16, .inl (qS w2))), (e10, .inl (cZ, 16, .inl (qZ (qm_fi n z 16)))), (e11, .inl (cI, 20, .inl (qS (qg_f M2)))), (e12, .inl (cI, 4, .inl (qN pl2)))] H1 := hP1
      have hD1 : va_D _ [(h0, .inr (5, [.int (nI k0), .int (nI T), .ref e1, .ref e2, .ref e3, .int (nI dn), .ref e4, .ref e5, .ref e6, .ref e7, .ref e8, .int (nI me), .int (nI du), .int (nI fi), .int (nI ls0), .ref e9, .ref e10, .ref e11, .ref e12])), (e9, .inl (cI, 16, .inl (qS w2))), (e10, .inl (cZ, 16, .inl (qZ (qm_fi n z 16)))), (e11, .inl (cI, 20, .inl (qS (qg_f M2)))), (e12, .inl (cI, 4, .inl (qN pl2)))] := hD1
      obtain ⟨hP, hD⟩ := va_join (wr := []) (w1 := [(h0, .inr (5, [.int (nI k0), .int (nI T), .ref e1, .ref e2, .ref e3, .int (nI dn), .ref e4, .ref e5, .ref e6, .ref e7, .ref e8, .int (nI me), .int (nI du), .int (nI fi), .int (nI ls0), .ref e9, .ref e10, .ref e11, .ref e12])), (e9, .inl (cI, 16, .inl (qS w2))), (e10, .inl (cZ, 16, .inl (qZ (qm_fi n z 16)))), (e11, .inl (cI, 20, .inl (qS (qg_f M2)))), (e12, .inl (cI, 4, .inl (qN pl2)))]) hP hD [0, 1, 2, 3, 4] [] rfl rfl (by decide) (by decide) hk1 hFc hP1 hD1
      have hP := hP.sub (ws' := [(h0, .inr (5, [.int (nI k0), .int (nI T), .ref e1, .ref e2, .ref e3, .int (nI dn), .ref e4, .ref e5, .ref e6, .ref e7, .ref e8, .int (nI me), .int (nI du), .int (nI fi), .int (nI ls0), .ref e9, .ref e10, .ref e11, .ref e12])), (e9, .inl (cI, 16, .inl (qS w2))), (e10, .inl (cZ, 16, .inl (qZ (qm_fi n z 16)))), (e11, .inl (cI, 20, .inl (qS (qg_f M2)))), (e12, .inl (cI, 4, .inl (qN pl2)))]) [0, 1, 2, 3, 4] rfl
      have hD := hD.sub (ws' := [(h0, .inr (5, [.int (nI k0), .int (nI T), .ref e1, .ref e2, .ref e3, .int (nI dn), .ref e4, .ref e5, .ref e6, .ref e7, .ref e8, .int (nI me), .int (nI du), .int (nI fi), .int (nI ls0), .ref e9, .ref e10, .ref e11, .ref e12])), (e9, .inl (cI, 16, .inl (qS w2))), (e10, .inl (cZ, 16, .inl (qZ (qm_fi n z 16)))), (e11, .inl (cI, 20, .inl (qS (qg_f M2)))), (e12, .inl (cI, 4, .inl (qN pl2)))]) [0, 1, 2, 3, 4] (by decide) rfl
      generalize H1 = H at hP hS ⊢
      have hP : va_P (dC, dI) vwCl [(h0, .inr (5, [.int (nI k0), .int (nI T), .ref e1, .ref e2, .ref e3, .int (nI dn), .ref e4, .ref e5, .ref e6, .ref e7, .ref e8, .int (nI me), .int (nI du), .int (nI fi), .int (nI ls0), .ref e9, .ref e10, .ref e11, .ref e12])), (e9, .inl (cI, 16, .inl (qS w2))), (e10, .inl (cZ, 16, .inl (qZ (qm_fi n z 16)))), (e11, .inl (cI, 20, .inl (qS (qg_f M2)))), (e12, .inl (cI, 4, .inl (qN pl2)))] H := hP
      have hD : va_D A [(h0, .inr (5, [.int (nI k0), .int (nI T), .ref e1, .ref e2, .ref e3, .int (nI dn), .ref e4, .ref e5, .ref e6, .ref e7, .ref e8, .int (nI me), .int (nI du), .int (nI fi), .int (nI ls0), .ref e9, .ref e10, .ref e11, .ref e12])), (e9, .inl (cI, 16, .inl (qS w2))), (e10, .inl (cZ, 16, .inl (qZ (qm_fi n z 16)))), (e11, .inl (cI, 20, .inl (qS (qg_f M2)))), (e12, .inl (cI, 4, .inl (qN pl2)))] := hD
      obtain ⟨v39, e39, hv39⟩ := hr39
      subst e39
      have ew : w2 = qk_p w (qd_d (qm_fi n z 16) pl n) (fun c => qk_N n (qm_fi n z 16) pl w c 4) 4 := by
        obtain ⟨g0, g1, g2⟩ := hv39
        have hc4 : qd_c (qm_fi n z 16) n = 4 := qm_fi_4 hn z h4
        cases v39 with
        | true => rw [g1 rfl, hc4]
        | false => exact absurd (g0.mpr (fun k h1 h2 => absurd h2 (by rw [hc4] at h1; omega))) (by decide)
      subst ew
      have hP : va_P (dC, dI) vwCl [(h0, .inr (5, [.int (nI k0), .int (nI T), .ref e1, .ref e2, .ref e3, .int (nI dn), .ref e4, .ref e5, .ref e6, .ref e7, .ref e8, .int (nI me), .int (nI du), .int (nI fi), .int (nI ls0), .ref e9, .ref e10, .ref e11, .ref e12])), (e9, .inl (cI, 16, .inl (qS (qk_p w (qd_d (qm_fi n z 16) pl n) (fun c => qk_N n (qm_fi n z 16) pl w c 4) 4)))), (e10, .inl (cZ, 16, .inl (qZ (qm_fi n z 16)))), (e11, .inl (cI, 20, .inl (qS (qg_f M2)))), (e12, .inl (cI, 4, .inl (qN pl2)))] H := hP
      have hD : va_D A [(h0, .inr (5, [.int (nI k0), .int (nI T), .ref e1, .ref e2, .ref e3, .int (nI dn), .ref e4, .ref e5, .ref e6, .ref e7, .ref e8, .int (nI me), .int (nI du), .int (nI fi), .int (nI ls0), .ref e9, .ref e10, .ref e11, .ref e12])), (e9, .inl (cI, 16, .inl (qS (qk_p w (qd_d (qm_fi n z 16) pl n) (fun c => qk_N n (qm_fi n z 16) pl w c 4) 4)))), (e10, .inl (cZ, 16, .inl (qZ (qm_fi n z 16)))), (e11, .inl (cI, 20, .inl (qS (qg_f M2)))), (e12, .inl (cI, 4, .inl (qN pl2)))] := hD
      refine lv_pop hx hb dX6_finish_42 rfl ?_
      subst hQ
      exact W.vret hx hb hr (fun t ht hW => ⟨⟨(M2, pl2), rfl, trivial, by rw [ht]; exact hP, va_K.moved hW.alike hK, hD⟩, hS.F ht⟩) hS.2.2 dX6_finish_43
    | succ j ih =>
      intro i hi  ls H locs hl hP hD hS
      have li : i < 16 := by omega
      refine lv_iload_n hx hb dX6_finish_2 rfl (lv_at hl 2 rfl) ?_
      refine lv_bipush (v := nI 16) hx hb dX6_finish_3 (by decide) ?_
      refine qr_ge (tgt := 37) hx hb dX6_finish_5 rfl (by omega) (by omega) (fun h => absurd h (by omega)) (fun b5 => ?_)
      refine lv_aload_n hx hb dX6_finish_8 rfl (lv_at hl 0 rfl) ?_
      refine va_get (D := (dC, dI)) (ci := 5) (v := .ref e10) (C := RX6) (T := TX6) (N := 19) hx hb hts i_X6 hown hK hP 0 rfl rfl 16 (by decide) k_38 (fun _ h9 => h9) rfl dX6_finish_9 ?_
      refine lv_iload_n hx hb dX6_finish_12 rfl (lv_at hl 2 rfl) ?_
      refine lv_iload_n hx hb dX6_finish_13 rfl (lv_at hl 2 rfl) ?_
      refine lv_iload_n hx hb dX6_finish_14 rfl (lv_at hl 1 rfl) ?_
      refine lv_iconst (v := nI 4) hx hb dX6_finish_15 (by decide) ?_
      refine qr_isub (z := nI (n - 4)) hx hb dX6_finish_16 (pk_sub (by omega)) ?_
      refine qr_lt (tgt := 29) hx hb dX6_finish_17 rfl (by omega) (by omega) (fun b17 => ?_) (fun b17 => ?_)
      · refine lv_iconst (v := zI false) hx hb dX6_finish_29 (by decide) ?_
        refine qr_zst (x := false) hx hb hK hP hD hS 2 1 rfl rfl (by omega) (by omega) dX6_finish_30 (fun H locs hP hD hS => ?_)
        have hP : va_P (dC, dI) vwCl [(h0, .inr (5, [.int (nI k0), .int (nI T), .ref e1, .ref e2, .ref e3, .int (nI dn), .ref e4, .ref e5, .ref e6, .ref e7, .ref e8, .int (nI me), .int (nI du), .int (nI fi), .int (nI ls0), .ref e9, .ref e10, .ref e11, .ref e12])), (e9, .inl (cI, 16, .inl (qS w))), (e10, .inl (cZ, 16, .inl (qZ (va_up (qm_fi n z i) i false)))), (e11, .inl (cI, 20, .inl (qS (qg_f M)))), (e12, .inl (cI, 4, .inl (qN pl)))] H := hP
        have hD : va_D A [(h0, .inr (5, [.int (nI k0), .int (nI T), .ref e1, .ref e2, .ref e3, .int (nI dn), .ref e4, .ref e5, .ref e6, .ref e7, .ref e8, .int (nI me), .int (nI du), .int (nI fi), .int (nI ls0), .ref e9, .ref e10, .ref e11, .ref e12])), (e9, .inl (cI, 16, .inl (qS w))), (e10, .inl (cZ, 16, .inl (qZ (va_up (qm_fi n z i) i false)))), (e11, .inl (cI, 20, .inl (qS (qg_f M)))), (e12, .inl (cI, 4, .inl (qN pl)))] := hD
        refine lv_iinc (k := 2) (v := nI (i + 1)) (lv' := [(2, .int (nI (i + 1))), (0, .ref h0), (1, .int (nI n))]) hx hb dX6_finish_31 hl rfl (qr_inc _) (by decide) rfl (fun ls hl => ?_)
        refine lv_goto (tgt := 2) hx hb dX6_finish_34 rfl ?_
        have hl := lv_sub (l' := [(0, .ref h0), (1, .int (nI n)), (2, .int (nI (i + 1)))]) hl [1, 2, 0] rfl
        have e1 : qm_fi n z (i + 1) = va_up (qm_fi n z i) i false := by rw [qm_fi, decide_eq_false (show ¬ n - 4 ≤ i by omega), Bool.false_and]
        exact ih (i + 1) (by omega)  ls H _ (by exact hl) (by rw [e1]; exact hP) (by rw [e1]; exact hD) hS 
      · refine lv_iload_n hx hb dX6_finish_20 rfl (lv_at hl 2 rfl) ?_
        refine lv_iload_n hx hb dX6_finish_21 rfl (lv_at hl 1 rfl) ?_
        refine qr_ge (tgt := 29) hx hb dX6_finish_22 rfl (by omega) (by omega) (fun b22 => ?_) (fun b22 => ?_)
        · refine lv_iconst (v := zI false) hx hb dX6_finish_29 (by decide) ?_
          refine qr_zst (x := false) hx hb hK hP hD hS 2 1 rfl rfl (by omega) (by omega) dX6_finish_30 (fun H locs hP hD hS => ?_)
          have hP : va_P (dC, dI) vwCl [(h0, .inr (5, [.int (nI k0), .int (nI T), .ref e1, .ref e2, .ref e3, .int (nI dn), .ref e4, .ref e5, .ref e6, .ref e7, .ref e8, .int (nI me), .int (nI du), .int (nI fi), .int (nI ls0), .ref e9, .ref e10, .ref e11, .ref e12])), (e9, .inl (cI, 16, .inl (qS w))), (e10, .inl (cZ, 16, .inl (qZ (va_up (qm_fi n z i) i false)))), (e11, .inl (cI, 20, .inl (qS (qg_f M)))), (e12, .inl (cI, 4, .inl (qN pl)))] H := hP
          have hD : va_D A [(h0, .inr (5, [.int (nI k0), .int (nI T), .ref e1, .ref e2, .ref e3, .int (nI dn), .ref e4, .ref e5, .ref e6, .ref e7, .ref e8, .int (nI me), .int (nI du), .int (nI fi), .int (nI ls0), .ref e9, .ref e10, .ref e11, .ref e12])), (e9, .inl (cI, 16, .inl (qS w))), (e10, .inl (cZ, 16, .inl (qZ (va_up (qm_fi n z i) i false)))), (e11, .inl (cI, 20, .inl (qS (qg_f M)))), (e12, .inl (cI, 4, .inl (qN pl)))] := hD
          refine lv_iinc (k := 2) (v := nI (i + 1)) (lv' := [(2, .int (nI (i + 1))), (0, .ref h0), (1, .int (nI n))]) hx hb dX6_finish_31 hl rfl (qr_inc _) (by decide) rfl (fun ls hl => ?_)
          refine lv_goto (tgt := 2) hx hb dX6_finish_34 rfl ?_
          have hl := lv_sub (l' := [(0, .ref h0), (1, .int (nI n)), (2, .int (nI (i + 1)))]) hl [1, 2, 0] rfl
          have e2 : qm_fi n z (i + 1) = va_up (qm_fi n z i) i false := by rw [qm_fi, decide_eq_false (show ¬ i < n by omega), Bool.and_false]
          exact ih (i + 1) (by omega)  ls H _ (by exact hl) (by rw [e2]; exact hP) (by rw [e2]; exact hD) hS 
        · refine lv_iconst (v := zI true) hx hb dX6_finish_25 (by decide) ?_
          refine lv_goto (tgt := 30) hx hb dX6_finish_26 rfl ?_
          refine qr_zst (x := true) hx hb hK hP hD hS 2 1 rfl rfl (by omega) (by omega) dX6_finish_30 (fun H locs hP hD hS => ?_)
          have hP : va_P (dC, dI) vwCl [(h0, .inr (5, [.int (nI k0), .int (nI T), .ref e1, .ref e2, .ref e3, .int (nI dn), .ref e4, .ref e5, .ref e6, .ref e7, .ref e8, .int (nI me), .int (nI du), .int (nI fi), .int (nI ls0), .ref e9, .ref e10, .ref e11, .ref e12])), (e9, .inl (cI, 16, .inl (qS w))), (e10, .inl (cZ, 16, .inl (qZ (va_up (qm_fi n z i) i true)))), (e11, .inl (cI, 20, .inl (qS (qg_f M)))), (e12, .inl (cI, 4, .inl (qN pl)))] H := hP
          have hD : va_D A [(h0, .inr (5, [.int (nI k0), .int (nI T), .ref e1, .ref e2, .ref e3, .int (nI dn), .ref e4, .ref e5, .ref e6, .ref e7, .ref e8, .int (nI me), .int (nI du), .int (nI fi), .int (nI ls0), .ref e9, .ref e10, .ref e11, .ref e12])), (e9, .inl (cI, 16, .inl (qS w))), (e10, .inl (cZ, 16, .inl (qZ (va_up (qm_fi n z i) i true)))), (e11, .inl (cI, 20, .inl (qS (qg_f M)))), (e12, .inl (cI, 4, .inl (qN pl)))] := hD
          refine lv_iinc (k := 2) (v := nI (i + 1)) (lv' := [(2, .int (nI (i + 1))), (0, .ref h0), (1, .int (nI n))]) hx hb dX6_finish_31 hl rfl (qr_inc _) (by decide) rfl (fun ls hl => ?_)
          refine lv_goto (tgt := 2) hx hb dX6_finish_34 rfl ?_
          have hl := lv_sub (l' := [(0, .ref h0), (1, .int (nI n)), (2, .int (nI (i + 1)))]) hl [1, 2, 0] rfl
          have e3 : qm_fi n z (i + 1) = va_up (qm_fi n z i) i true := by rw [qm_fi, decide_eq_true (show n - 4 ≤ i by omega), decide_eq_true (show i < n by omega)]; rfl
          exact ih (i + 1) (by omega)  ls H _ (by exact hl) (by rw [e3]; exact hP) (by rw [e3]; exact hD) hS 
  have hl := lv_sub (l' := [(0, .ref h0), (1, .int (nI n)), (2, .int (nI 0))]) hl [1, 2, 0] rfl
  exact lp2 16 0 (by omega)  ls s.heap _ hl hP hD hS 
set_option maxHeartbeats 4000000 in
set_option maxRecDepth 100000 in
/-- reference: mend -/
theorem qc_mmend (l : Launch) (dC : Nat → ClassId) (dI : Nat → Nat → Nat) (cI cZ : ClassId) (h0 k0 T dn me du fi ls0 e1 e2 e3 e4 e5 e6 e7 e8 e9 e10 e11 e12 : Nat) (w : Nat → BitVec 8) (z : Nat → Bool) (M : Nat → Nat → BitVec 8) (pl : Nat → Nat) (sz : Nat)  : Met l yX6_mend wsX6_mend ({ frames := 3, cells := 0, slots := 0, locals := 69 } : Room) (va_Pc [.ref h0] (fun U => U.heap.size = sz ∧ va_P (dC, dI) vwCl [(h0, .inr (5, [.int (nI k0), .int (nI T), .ref e1, .ref e2, .ref e3, .int (nI dn), .ref e4, .ref e5, .ref e6, .ref e7, .ref e8, .int (nI me), .int (nI du), .int (nI fi), .int (nI ls0), .ref e9, .ref e10, .ref e11, .ref e12])), (e9, .inl (cI, 16, .inl (qS w))), (e10, .inl (cZ, 16, .inl (qZ z))), (e11, .inl (cI, 20, .inl (qS (qg_f M)))), (e12, .inl (cI, 4, .inl (qN pl)))] U.heap ∧ va_K (dC, dI) vwCl [(cI, .int), (cZ, .boolean)] U ∧ va_D (fun _ => True) [(h0, .inr (5, [.int (nI k0), .int (nI T), .ref e1, .ref e2, .ref e3, .int (nI dn), .ref e4, .ref e5, .ref e6, .ref e7, .ref e8, .int (nI me), .int (nI du), .int (nI fi), .int (nI ls0), .ref e9, .ref e10, .ref e11, .ref e12])), (e9, .inl (cI, 16, .inl (qS w))), (e10, .inl (cZ, 16, .inl (qZ z))), (e11, .inl (cI, 20, .inl (qS (qg_f M)))), (e12, .inl (cI, 4, .inl (qN pl)))])) (va_Qi (fun (r : Int32) (u : (Nat → BitVec 8)) => (r = nI 0 ∧ qw_W 16 w ∧ u = w) ∨ (r = nI 1 ∧ ¬ qw_W 16 w ∧ ∃ i, i < 16 ∧ qk_F w i ∧ (∀ j, j < i → ¬ qk_F w j) ∧ u = va_up w i (w i ^^^ qw_S 16 w 0)) ∨ (r = nI 2 ∧ ¬ qw_W 16 w ∧ (∀ i, i < 16 → ¬ qk_F w i) ∧ u = w)) (fun u t => va_P (dC, dI) vwCl [(h0, .inr (5, [.int (nI k0), .int (nI T), .ref e1, .ref e2, .ref e3, .int (nI dn), .ref e4, .ref e5, .ref e6, .ref e7, .ref e8, .int (nI me), .int (nI du), .int (nI fi), .int (nI ls0), .ref e9, .ref e10, .ref e11, .ref e12])), (e9, .inl (cI, 16, .inl (qS u))), (e10, .inl (cZ, 16, .inl (qZ z))), (e11, .inl (cI, 20, .inl (qS (qg_f M)))), (e12, .inl (cI, 4, .inl (qN pl)))] t.heap ∧ va_K (dC, dI) vwCl [(cI, .int), (cZ, .boolean)] t ∧ va_D (va_A [(h0, .inr (5, [.int (nI k0), .int (nI T), .ref e1, .ref e2, .ref e3, .int (nI dn), .ref e4, .ref e5, .ref e6, .ref e7, .ref e8, .int (nI me), .int (nI du), .int (nI fi), .int (nI ls0), .ref e9, .ref e10, .ref e11, .ref e12])), (e9, .inl (cI, 16, .inl (qS w))), (e10, .inl (cZ, 16, .inl (qZ z))), (e11, .inl (cI, 20, .inl (qS (qg_f M)))), (e12, .inl (cI, 4, .inl (qN pl)))] sz) [(h0, .inr (5, [.int (nI k0), .int (nI T), .ref e1, .ref e2, .ref e3, .int (nI dn), .ref e4, .ref e5, .ref e6, .ref e7, .ref e8, .int (nI me), .int (nI du), .int (nI fi), .int (nI ls0), .ref e9, .ref e10, .ref e11, .ref e12])), (e9, .inl (cI, 16, .inl (qS u))), (e10, .inl (cZ, 16, .inl (qZ z))), (e11, .inl (cI, 20, .inl (qS (qg_f M)))), (e12, .inl (cI, 4, .inl (qN pl)))]) (va_A [(h0, .inr (5, [.int (nI k0), .int (nI T), .ref e1, .ref e2, .ref e3, .int (nI dn), .ref e4, .ref e5, .ref e6, .ref e7, .ref e8, .int (nI me), .int (nI du), .int (nI fi), .int (nI ls0), .ref e9, .ref e10, .ref e11, .ref e12])), (e9, .inl (cI, 16, .inl (qS w))), (e10, .inl (cZ, 16, .inl (qZ z))), (e11, .inl (cI, 20, .inl (qS (qg_f M)))), (e12, .inl (cI, 4, .inl (qN pl)))] sz)) 0 0 (va_A [(h0, .inr (5, [.int (nI k0), .int (nI T), .ref e1, .ref e2, .ref e3, .int (nI dn), .ref e4, .ref e5, .ref e6, .ref e7, .ref e8, .int (nI me), .int (nI du), .int (nI fi), .int (nI ls0), .ref e9, .ref e10, .ref e11, .ref e12])), (e9, .inl (cI, 16, .inl (qS w))), (e10, .inl (cZ, 16, .inl (qZ z))), (e11, .inl (cI, 20, .inl (qS (qg_f M)))), (e12, .inl (cI, 4, .inl (qN pl)))] sz) := by
  refine Met.ofW (cc := cX6_mend) (maxL := 3) (ret := (some .int)) (by decide) rfl ?_
  intro p e s m args below meth c s₁ B hml hv
  obtain ⟨rfl, hsz, hP, hK, hD0⟩ := hv
  have hx := B.exec
  have hb := B.bytes
  have hr := B.returns
  have hts := atoms_spec (ws := wsX6_mend) B.pre
  have hown : s.vm.findClass RX6 = some m.cls := findClass_of_methodNamed B.named
  have hlocks := B.notSynchronized
  subst hsz
  have hD := hD0.self (sz := s.heap.size)
  generalize hAe : va_A [(h0, .inr (5, [.int (nI k0), .int (nI T), .ref e1, .ref e2, .ref e3, .int (nI dn), .ref e4, .ref e5, .ref e6, .ref e7, .ref e8, .int (nI me), .int (nI du), .int (nI fi), .int (nI ls0), .ref e9, .ref e10, .ref e11, .ref e12])), (e9, .inl (cI, 16, .inl (qS w))), (e10, .inl (cZ, 16, .inl (qZ z))), (e11, .inl (cI, 20, .inl (qS (qg_f M)))), (e12, .inl (cI, 4, .inl (qN pl)))] s.heap.size = A at hD ⊢
  have hA : ∀ q : Nat, s.heap.size ≤ q → A q := fun q h => by rw [← hAe]; exact Or.inr h
  have hS : va_S A s.heap s.heap [] := va_S.rf
  have hP : va_P (dC, dI) vwCl [(h0, .inr (5, [.int (nI k0), .int (nI T), .ref e1, .ref e2, .ref e3, .int (nI dn), .ref e4, .ref e5, .ref e6, .ref e7, .ref e8, .int (nI me), .int (nI du), .int (nI fi), .int (nI ls0), .ref e9, .ref e10, .ref e11, .ref e12])), (e9, .inl (cI, 16, .inl (qS w))), (e10, .inl (cZ, 16, .inl (qZ z))), (e11, .inl (cI, 20, .inl (qS (qg_f M)))), (e12, .inl (cI, 4, .inl (qN pl)))] s.heap := hP
  have hl := lv_entry ([.ref h0]) (n := 3) (Nat.le_of_ble_eq_true rfl)
  rw [lg_entry_eq]
  generalize (lg_sl ([.ref h0]) ++ List.replicate (3 - (lg_sl ([.ref h0])).length) Slot.unset).toArray = ls at hl ⊢
  have hl : lv_has ls 3 [(0, .ref h0)] := hl
  have k_35 := hts (.fieldLink RX6 35 "DiscCoderModel" "word" "[I") (by decide +kernel)
  have i_X6 : ∀ w ∈ u_ws RX6 TX6 19, w ∈ wsX6_mend := by decide +kernel
  refine qr_nm (fun Q hQ => ?_)
  refine lv_aload_n hx hb dX6_mend_0 rfl (lv_at hl 0 rfl) ?_
  refine lv_bipush (v := nI 16) hx hb dX6_mend_1 (by decide) ?_
  have hPc := hP.sub (ws' := [(h0, .inr (5, [.int (nI k0), .int (nI T), .ref e1, .ref e2, .ref e3, .int (nI dn), .ref e4, .ref e5, .ref e6, .ref e7, .ref e8, .int (nI me), .int (nI du), .int (nI fi), .int (nI ls0), .ref e9, .ref e10, .ref e11, .ref e12])), (e9, .inl (cI, 16, .inl (qS w))), (e10, .inl (cZ, 16, .inl (qZ z))), (e11, .inl (cI, 20, .inl (qS (qg_f M)))), (e12, .inl (cI, 4, .inl (qN pl)))]) [0, 1, 2, 3, 4] rfl
  have hKc := hK.sub (tys' := [(cI, .int), (cZ, .boolean)]) [0, 1] rfl
  refine vp_callSi (va_Run.run (va_runV (As := [.int (nI 16)]) (rest := []) ⟨hx, hb, hml, hown, hts⟩ (qc_misWord l dC dI cI cZ h0 k0 T dn me du fi ls0 e1 e2 e3 e4 e5 e6 e7 e8 e9 e10 e11 e12 w z M pl 16 (by omega)) (cwV 1 hts gX6_mend_X6_isWord rfl rfl rfl (by decide +kernel) ⟨Nat.le_of_ble_eq_true rfl, Nat.le_of_ble_eq_true rfl⟩) ⟨fun a U g mk q => by obtain ⟨q0, qP, qK⟩ := q; exact ⟨q0, qP, va_K.moved (u := U) (U := U.calling g mk a) (Vm.Alike.refl U.vm) qK⟩, (va_recv (q0 := 0) (ci := 5) hK hP rfl rfl), fun U hU hW => ⟨rfl, by rw [hU]; exact hPc, va_K.moved hW.alike hKc⟩⟩ rfl rfl hl.1 rfl (lv_room (Nat.le_of_ble_eq_true rfl)) dX6_mend_3 ⟨Nat.le_of_ble_eq_true rfl, Nat.le_of_ble_eq_true rfl⟩)) (fun r3 hr3 => ?_)
  obtain ⟨v3, e3, hv3⟩ := hr3
  subst e3
  refine qr_ifeqZ (tgt := 11) hx hb dX6_mend_6 rfl  (fun b6 => ?_) (fun b6 => ?_)
  · have hnw : ¬ qw_W 16 w := fun h => absurd (hv3.mpr h) (by rw [b6]; decide)
    refine lv_aload_n hx hb dX6_mend_11 rfl (lv_at hl 0 rfl) ?_
    refine lv_bipush (v := nI 16) hx hb dX6_mend_12 (by decide) ?_
    refine lv_iconst (v := nI 0) hx hb dX6_mend_14 (by decide) ?_
    have hPc := hP.sub (ws' := [(h0, .inr (5, [.int (nI k0), .int (nI T), .ref e1, .ref e2, .ref e3, .int (nI dn), .ref e4, .ref e5, .ref e6, .ref e7, .ref e8, .int (nI me), .int (nI du), .int (nI fi), .int (nI ls0), .ref e9, .ref e10, .ref e11, .ref e12])), (e9, .inl (cI, 16, .inl (qS w))), (e10, .inl (cZ, 16, .inl (qZ z))), (e11, .inl (cI, 20, .inl (qS (qg_f M)))), (e12, .inl (cI, 4, .inl (qN pl)))]) [0, 1, 2, 3, 4] rfl
    have hKc := hK.sub (tys' := [(cI, .int), (cZ, .boolean)]) [0, 1] rfl
    refine vp_callSi (va_Run.run (va_runV (As := [.int (nI 16), .int (nI 0)]) (rest := []) ⟨hx, hb, hml, hown, hts⟩ (qc_sum l dC dI cI cZ h0 k0 T dn me du fi ls0 e1 e2 e3 e4 e5 e6 e7 e8 e9 e10 e11 e12 w z M pl 16 0 (by omega) (by omega)) (cwV 2 hts gX6_mend_X6_sum rfl rfl rfl (by decide +kernel) ⟨Nat.le_of_ble_eq_true rfl, Nat.le_of_ble_eq_true rfl⟩) ⟨fun a U g mk q => by obtain ⟨q0, qP, qK⟩ := q; exact ⟨q0, qP, va_K.moved (u := U) (U := U.calling g mk a) (Vm.Alike.refl U.vm) qK⟩, (va_recv (q0 := 0) (ci := 5) hK hP rfl rfl), fun U hU hW => ⟨rfl, by rw [hU]; exact hPc, va_K.moved hW.alike hKc⟩⟩ rfl rfl hl.1 rfl (lv_room (Nat.le_of_ble_eq_true rfl)) dX6_mend_15 ⟨Nat.le_of_ble_eq_true rfl, Nat.le_of_ble_eq_true rfl⟩)) (fun r15 hr15 => ?_)
    have hr15 : r15 = sI (qw_S 16 w 0) := hr15
    subst hr15
    refine lv_istore_n (lv' := [(1, .int (sI (qw_S 16 w 0))), (0, .ref h0)]) hx hb dX6_mend_18 rfl hl (by decide) rfl (fun ls hl => ?_)
    refine lv_iconst (v := nI 0) hx hb dX6_mend_19 (by decide) ?_
    refine lv_istore_n (lv' := [(2, .int (nI 0)), (1, .int (sI (qw_S 16 w 0))), (0, .ref h0)]) hx hb dX6_mend_20 rfl hl (by decide) rfl (fun ls hl => ?_)
    have lp21 : ∀ (j i : Nat), i + j = 16 → ∀  (ls : Array Slot) (H : Heap) (locs : List Loc), lv_has ls 3 [(0, .ref h0), (1, .int (sI (qw_S 16 w 0))), (2, .int (nI i))] → va_P (dC, dI) vwCl [(h0, .inr (5, [.int (nI k0), .int (nI T), .ref e1, .ref e2, .ref e3, .int (nI dn), .ref e4, .ref e5, .ref e6, .ref e7, .ref e8, .int (nI me), .int (nI du), .int (nI fi), .int (nI ls0), .ref e9, .ref e10, .ref e11, .ref e12])), (e9, .inl (cI, 16, .inl (qS w))), (e10, .inl (cZ, 16, .inl (qZ z))), (e11, .inl (cI, 20, .inl (qS (qg_f M)))), (e12, .inl (cI, 4, .inl (qN pl)))] H → va_D A [(h0, .inr (5, [.int (nI k0), .int (nI T), .ref e1, .ref e2, .ref e3, .int (nI dn), .ref e4, .ref e5, .ref e6, .ref e7, .ref e8, .int (nI me), .int (nI du), .int (nI fi), .int (nI ls0), .ref e9, .ref e10, .ref e11, .ref e12])), (e9, .inl (cI, 16, .inl (qS w))), (e10, .inl (cZ, 16, .inl (qZ z))), (e11, .inl (cI, 20, .inl (qS (qg_f M)))), (e12, .inl (cI, 4, .inl (qN pl)))] → va_S A s.heap H locs → (∀ j, j < i → ¬ qk_F w j) → W p l e (headSpec wsX6_mend ({ frames := 3, cells := 0, slots := 0, locals := 69 } : Room)).room s m ([.ref h0] : List Value).toArray below meth c H locs 0 0 Q (F0 m 21 ls []) := by
      intro j
      induction j with
      | zero =>
        intro i hi  ls H locs hl hP hD hS hf
        have e9 : 16 = i := by omega
        subst e9
        refine lv_iload_n hx hb dX6_mend_21 rfl (lv_at hl 2 rfl) ?_
        refine lv_bipush (v := nI 16) hx hb dX6_mend_22 (by decide) ?_
        refine qr_ge (tgt := 68) hx hb dX6_mend_24 rfl (by omega) (by omega) (fun b24 => ?_) (fun h => absurd h (by omega))
        refine lv_iconst (v := nI 2) hx hb dX6_mend_68 (by decide) ?_
        subst hQ
        exact W.iret hx hb hr (fun t ht hW => ⟨⟨_, (w), rfl, Or.inr (Or.inr ⟨rfl, hnw, hf, rfl⟩), by rw [ht]; exact hP, va_K.moved hW.alike hK, hD⟩, hS.F ht⟩) hS.2.2 dX6_mend_69
      | succ j ih =>
        intro i hi  ls H locs hl hP hD hS hf
        have li : i < 16 := by omega
        refine lv_iload_n hx hb dX6_mend_21 rfl (lv_at hl 2 rfl) ?_
        refine lv_bipush (v := nI 16) hx hb dX6_mend_22 (by decide) ?_
        refine qr_ge (tgt := 68) hx hb dX6_mend_24 rfl (by omega) (by omega) (fun h => absurd h (by omega)) (fun b24 => ?_)
        refine lv_aload_n hx hb dX6_mend_27 rfl (lv_at hl 0 rfl) ?_
        refine va_get (D := (dC, dI)) (ci := 5) (v := .ref e9) (C := RX6) (T := TX6) (N := 19) hx hb hts i_X6 hown hK hP 0 rfl rfl 15 (by decide) k_35 (fun _ h9 => h9) rfl dX6_mend_28 ?_
        refine lv_iload_n hx hb dX6_mend_31 rfl (lv_at hl 2 rfl) ?_
        refine lv_dup2_11 hx hb dX6_mend_32 rfl rfl ?_
        refine qr_ildS hx hb hK hP 1 0 rfl rfl (by omega) (by omega) dX6_mend_33 ?_
        refine lv_iload_n hx hb dX6_mend_34 rfl (lv_at hl 1 rfl) ?_
        refine qr_ixor (z := sI ((w i) ^^^ (qw_S 16 w 0))) hx hb dX6_mend_35 (sI_xor _ _) ?_
        refine qr_istS (x := (w i) ^^^ (qw_S 16 w 0)) hx hb hK hP hD hS 1 0 rfl rfl (by omega) (by omega) dX6_mend_36 (fun H locs hP hD hS => ?_)
        have hP : va_P (dC, dI) vwCl [(h0, .inr (5, [.int (nI k0), .int (nI T), .ref e1, .ref e2, .ref e3, .int (nI dn), .ref e4, .ref e5, .ref e6, .ref e7, .ref e8, .int (nI me), .int (nI du), .int (nI fi), .int (nI ls0), .ref e9, .ref e10, .ref e11, .ref e12])), (e9, .inl (cI, 16, .inl (qS (va_up w i ((w i) ^^^ (qw_S 16 w 0)))))), (e10, .inl (cZ, 16, .inl (qZ z))), (e11, .inl (cI, 20, .inl (qS (qg_f M)))), (e12, .inl (cI, 4, .inl (qN pl)))] H := hP
        have hD : va_D A [(h0, .inr (5, [.int (nI k0), .int (nI T), .ref e1, .ref e2, .ref e3, .int (nI dn), .ref e4, .ref e5, .ref e6, .ref e7, .ref e8, .int (nI me), .int (nI du), .int (nI fi), .int (nI ls0), .ref e9, .ref e10, .ref e11, .ref e12])), (e9, .inl (cI, 16, .inl (qS (va_up w i ((w i) ^^^ (qw_S 16 w 0)))))), (e10, .inl (cZ, 16, .inl (qZ z))), (e11, .inl (cI, 20, .inl (qS (qg_f M)))), (e12, .inl (cI, 4, .inl (qN pl)))] := hD
        refine lv_iload_n hx hb dX6_mend_37 rfl (lv_at hl 1 rfl) ?_
        refine lv_if_le (tgt := 52) hx hb dX6_mend_38 rfl  (fun b38 => ?_) (fun b38 => ?_)
        · refine lv_aload_n hx hb dX6_mend_52 rfl (lv_at hl 0 rfl) ?_
          refine va_get (D := (dC, dI)) (ci := 5) (v := .ref e9) (C := RX6) (T := TX6) (N := 19) hx hb hts i_X6 hown hK hP 0 rfl rfl 15 (by decide) k_35 (fun _ h9 => h9) rfl dX6_mend_53 ?_
          refine lv_iload_n hx hb dX6_mend_56 rfl (lv_at hl 2 rfl) ?_
          refine lv_dup2_11 hx hb dX6_mend_57 rfl rfl ?_
          refine qr_ildS hx hb hK hP 1 0 rfl rfl (by omega) (by omega) dX6_mend_58 ?_
          refine lv_iload_n hx hb dX6_mend_59 rfl (lv_at hl 1 rfl) ?_
          refine qr_ixor (z := sI (((va_up w i ((w i) ^^^ (qw_S 16 w 0))) i) ^^^ (qw_S 16 w 0))) hx hb dX6_mend_60 (sI_xor _ _) ?_
          refine qr_istS (x := ((va_up w i ((w i) ^^^ (qw_S 16 w 0))) i) ^^^ (qw_S 16 w 0)) hx hb hK hP hD hS 1 0 rfl rfl (by omega) (by omega) dX6_mend_61 (fun H locs hP hD hS => ?_)
          have hP : va_P (dC, dI) vwCl [(h0, .inr (5, [.int (nI k0), .int (nI T), .ref e1, .ref e2, .ref e3, .int (nI dn), .ref e4, .ref e5, .ref e6, .ref e7, .ref e8, .int (nI me), .int (nI du), .int (nI fi), .int (nI ls0), .ref e9, .ref e10, .ref e11, .ref e12])), (e9, .inl (cI, 16, .inl (qS (va_up (va_up w i ((w i) ^^^ (qw_S 16 w 0))) i (((va_up w i ((w i) ^^^ (qw_S 16 w 0))) i) ^^^ (qw_S 16 w 0)))))), (e10, .inl (cZ, 16, .inl (qZ z))), (e11, .inl (cI, 20, .inl (qS (qg_f M)))), (e12, .inl (cI, 4, .inl (qN pl)))] H := hP
          have hD : va_D A [(h0, .inr (5, [.int (nI k0), .int (nI T), .ref e1, .ref e2, .ref e3, .int (nI dn), .ref e4, .ref e5, .ref e6, .ref e7, .ref e8, .int (nI me), .int (nI du), .int (nI fi), .int (nI ls0), .ref e9, .ref e10, .ref e11, .ref e12])), (e9, .inl (cI, 16, .inl (qS (va_up (va_up w i ((w i) ^^^ (qw_S 16 w 0))) i (((va_up w i ((w i) ^^^ (qw_S 16 w 0))) i) ^^^ (qw_S 16 w 0)))))), (e10, .inl (cZ, 16, .inl (qZ z))), (e11, .inl (cI, 20, .inl (qS (qg_f M)))), (e12, .inl (cI, 4, .inl (qN pl)))] := hD
          refine lv_iinc (k := 2) (v := nI (i + 1)) (lv' := [(2, .int (nI (i + 1))), (0, .ref h0), (1, .int (sI (qw_S 16 w 0)))]) hx hb dX6_mend_62 hl rfl (qr_inc _) (by decide) rfl (fun ls hl => ?_)
          refine lv_goto (tgt := 21) hx hb dX6_mend_65 rfl ?_
          have hl := lv_sub (l' := [(0, .ref h0), (1, .int (sI (qw_S 16 w 0))), (2, .int (nI (i + 1)))]) hl [1, 2, 0] rfl
          have e1 : w = va_up (va_up w i ((w i) ^^^ (qw_S 16 w 0))) i (((va_up w i ((w i) ^^^ (qw_S 16 w 0))) i) ^^^ (qw_S 16 w 0)) := (qk_undo w i (qw_S 16 w 0)).symm
          exact ih (i + 1) (by omega)  ls H _ (by exact hl) (by rw [e1]; exact hP) (by rw [e1]; exact hD) hS (lt_s hf (fun h => absurd (qm_pos ((qk_mend hnw (by omega)).mpr h).1) (fun q => q b38)))
        · refine lv_aload_n hx hb dX6_mend_41 rfl (lv_at hl 0 rfl) ?_
          refine lv_bipush (v := nI 16) hx hb dX6_mend_42 (by decide) ?_
          have hPc := hP.sub (ws' := [(h0, .inr (5, [.int (nI k0), .int (nI T), .ref e1, .ref e2, .ref e3, .int (nI dn), .ref e4, .ref e5, .ref e6, .ref e7, .ref e8, .int (nI me), .int (nI du), .int (nI fi), .int (nI ls0), .ref e9, .ref e10, .ref e11, .ref e12])), (e9, .inl (cI, 16, .inl (qS (va_up w i ((w i) ^^^ (qw_S 16 w 0)))))), (e10, .inl (cZ, 16, .inl (qZ z))), (e11, .inl (cI, 20, .inl (qS (qg_f M)))), (e12, .inl (cI, 4, .inl (qN pl)))]) [0, 1, 2, 3, 4] rfl
          have hKc := hK.sub (tys' := [(cI, .int), (cZ, .boolean)]) [0, 1] rfl
          refine vp_callSi (va_Run.run (va_runV (As := [.int (nI 16)]) (rest := []) ⟨hx, hb, hml, hown, hts⟩ (qc_misWord l dC dI cI cZ h0 k0 T dn me du fi ls0 e1 e2 e3 e4 e5 e6 e7 e8 e9 e10 e11 e12 (va_up w i ((w i) ^^^ (qw_S 16 w 0))) z M pl 16 (by omega)) (cwV 1 hts gX6_mend_X6_isWord rfl rfl rfl (by decide +kernel) ⟨Nat.le_of_ble_eq_true rfl, Nat.le_of_ble_eq_true rfl⟩) ⟨fun a U g mk q => by obtain ⟨q0, qP, qK⟩ := q; exact ⟨q0, qP, va_K.moved (u := U) (U := U.calling g mk a) (Vm.Alike.refl U.vm) qK⟩, (va_recv (q0 := 0) (ci := 5) hK hP rfl rfl), fun U hU hW => ⟨rfl, by rw [hU]; exact hPc, va_K.moved hW.alike hKc⟩⟩ rfl rfl hl.1 rfl (lv_room (Nat.le_of_ble_eq_true rfl)) dX6_mend_44 ⟨Nat.le_of_ble_eq_true rfl, Nat.le_of_ble_eq_true rfl⟩)) (fun r44 hr44 => ?_)
          obtain ⟨v44, e44, hv44⟩ := hr44
          subst e44
          refine qr_ifeqZ (tgt := 52) hx hb dX6_mend_47 rfl  (fun b47 => ?_) (fun b47 => ?_)
          · refine lv_aload_n hx hb dX6_mend_52 rfl (lv_at hl 0 rfl) ?_
            refine va_get (D := (dC, dI)) (ci := 5) (v := .ref e9) (C := RX6) (T := TX6) (N := 19) hx hb hts i_X6 hown hK hP 0 rfl rfl 15 (by decide) k_35 (fun _ h9 => h9) rfl dX6_mend_53 ?_
            refine lv_iload_n hx hb dX6_mend_56 rfl (lv_at hl 2 rfl) ?_
            refine lv_dup2_11 hx hb dX6_mend_57 rfl rfl ?_
            refine qr_ildS hx hb hK hP 1 0 rfl rfl (by omega) (by omega) dX6_mend_58 ?_
            refine lv_iload_n hx hb dX6_mend_59 rfl (lv_at hl 1 rfl) ?_
            refine qr_ixor (z := sI (((va_up w i ((w i) ^^^ (qw_S 16 w 0))) i) ^^^ (qw_S 16 w 0))) hx hb dX6_mend_60 (sI_xor _ _) ?_
            refine qr_istS (x := ((va_up w i ((w i) ^^^ (qw_S 16 w 0))) i) ^^^ (qw_S 16 w 0)) hx hb hK hP hD hS 1 0 rfl rfl (by omega) (by omega) dX6_mend_61 (fun H locs hP hD hS => ?_)
            have hP : va_P (dC, dI) vwCl [(h0, .inr (5, [.int (nI k0), .int (nI T), .ref e1, .ref e2, .ref e3, .int (nI dn), .ref e4, .ref e5, .ref e6, .ref e7, .ref e8, .int (nI me), .int (nI du), .int (nI fi), .int (nI ls0), .ref e9, .ref e10, .ref e11, .ref e12])), (e9, .inl (cI, 16, .inl (qS (va_up (va_up w i ((w i) ^^^ (qw_S 16 w 0))) i (((va_up w i ((w i) ^^^ (qw_S 16 w 0))) i) ^^^ (qw_S 16 w 0)))))), (e10, .inl (cZ, 16, .inl (qZ z))), (e11, .inl (cI, 20, .inl (qS (qg_f M)))), (e12, .inl (cI, 4, .inl (qN pl)))] H := hP
            have hD : va_D A [(h0, .inr (5, [.int (nI k0), .int (nI T), .ref e1, .ref e2, .ref e3, .int (nI dn), .ref e4, .ref e5, .ref e6, .ref e7, .ref e8, .int (nI me), .int (nI du), .int (nI fi), .int (nI ls0), .ref e9, .ref e10, .ref e11, .ref e12])), (e9, .inl (cI, 16, .inl (qS (va_up (va_up w i ((w i) ^^^ (qw_S 16 w 0))) i (((va_up w i ((w i) ^^^ (qw_S 16 w 0))) i) ^^^ (qw_S 16 w 0)))))), (e10, .inl (cZ, 16, .inl (qZ z))), (e11, .inl (cI, 20, .inl (qS (qg_f M)))), (e12, .inl (cI, 4, .inl (qN pl)))] := hD
            refine lv_iinc (k := 2) (v := nI (i + 1)) (lv' := [(2, .int (nI (i + 1))), (0, .ref h0), (1, .int (sI (qw_S 16 w 0)))]) hx hb dX6_mend_62 hl rfl (qr_inc _) (by decide) rfl (fun ls hl => ?_)
            refine lv_goto (tgt := 21) hx hb dX6_mend_65 rfl ?_
            have hl := lv_sub (l' := [(0, .ref h0), (1, .int (sI (qw_S 16 w 0))), (2, .int (nI (i + 1)))]) hl [1, 2, 0] rfl
            have e2 : w = va_up (va_up w i ((w i) ^^^ (qw_S 16 w 0))) i (((va_up w i ((w i) ^^^ (qw_S 16 w 0))) i) ^^^ (qw_S 16 w 0)) := (qk_undo w i (qw_S 16 w 0)).symm
            exact ih (i + 1) (by omega)  ls H _ (by exact hl) (by rw [e2]; exact hP) (by rw [e2]; exact hD) hS (lt_s hf (fun h => absurd (hv44.mpr ((qk_mend hnw (by omega)).mpr h).2) (by rw [b47]; decide)))
          · refine lv_iconst (v := nI 1) hx hb dX6_mend_50 (by decide) ?_
            subst hQ
            exact W.iret hx hb hr (fun t ht hW => ⟨⟨_, (va_up w i ((w i) ^^^ (qw_S 16 w 0))), rfl, Or.inr (Or.inl ⟨rfl, hnw, i, li, (qk_mend hnw (by omega)).mp ⟨fun q => b38 (by rw [q]; decide), hv44.mp b47⟩, hf, rfl⟩), by rw [ht]; exact hP, va_K.moved hW.alike hK, hD⟩, hS.F ht⟩) hS.2.2 dX6_mend_51
    have hl := lv_sub (l' := [(0, .ref h0), (1, .int (sI (qw_S 16 w 0))), (2, .int (nI 0))]) hl [2, 1, 0] rfl
    exact lp21 16 0 (by omega)  ls s.heap _ hl hP hD hS (fun _ h => absurd h (Nat.not_lt_zero _))
  · refine lv_iconst (v := nI 0) hx hb dX6_mend_9 (by decide) ?_
    subst hQ
    exact W.iret hx hb hr (fun t ht hW => ⟨⟨_, (w), rfl, Or.inl ⟨rfl, hv3.mp b6, rfl⟩, by rw [ht]; exact hP, va_K.moved hW.alike hK, hD⟩, hS.F ht⟩) hS.2.2 dX6_mend_10
