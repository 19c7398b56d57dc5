set_option maxHeartbeats 4000000 in
set_option maxRecDepth 100000 in
/-- Field.holds -/
theorem qc_holds (l : Launch) (x : Int32)  : Met l yX1_holds wsX1_holds ({ frames := 0, cells := 0, slots := 0, locals := 0 } : Room) (va_Pc [.int x] (fun _ => True)) (vp_Si (fun r => ∃ b : Bool, r = zI b ∧ (b = true ↔ (¬ x < 0 ∧ ¬ nI 255 < x)))) 0 0 (fun _ => False) := by
  refine Met.ofW (cc := cX1_holds) (maxL := 1) (ret := (some .boolean)) (by decide) rfl ?_
  intro p e s m args below meth c s₁ B hml hv
  obtain ⟨rfl, -⟩ := hv
  have hx := B.exec
  have hb := B.bytes
  have hr := B.returns
  have hts := atoms_spec (ws := wsX1_holds) B.pre
  have hown : s.vm.findClass RX1 = some m.cls := findClass_of_methodNamed B.named
  have hlocks := B.notSynchronized
  have hl := lv_entry ([.int x]) (n := 1) (Nat.le_of_ble_eq_true rfl)
  rw [lg_entry_eq]
  generalize (lg_sl ([.int x]) ++ List.replicate (1 - (lg_sl ([.int x])).length) Slot.unset).toArray = ls at hl ⊢
  have hl : lv_has ls 1 [(0, .int x)] := hl
  refine qr_nm (fun Q hQ => ?_)
  refine lv_iload_n hx hb dX1_holds_0 rfl (lv_at hl 0 rfl) ?_
  refine lv_if_lt (tgt := 15) hx hb dX1_holds_1 rfl  (fun b1 => ?_) (fun b1 => ?_)
  · refine lv_iconst (v := zI false) hx hb dX1_holds_15 (by decide) ?_
    subst hQ
    exact W.zret hx hb hr (qr_narZ _) (fun t ht hW => ⟨_, rfl, ⟨false, rfl, ⟨fun h => Bool.noConfusion h, fun h => absurd b1 h.1⟩⟩, ht⟩) (fun _ h => absurd h List.not_mem_nil) dX1_holds_16
  · refine lv_iload_n hx hb dX1_holds_4 rfl (lv_at hl 0 rfl) ?_
    refine lv_sipush (v := nI 255) hx hb dX1_holds_5 (by decide) ?_
    refine lv_icmp_gt (tgt := 15) hx hb dX1_holds_8 rfl  (fun b8 => ?_) (fun b8 => ?_)
    · refine lv_iconst (v := zI false) hx hb dX1_holds_15 (by decide) ?_
      subst hQ
      exact W.zret hx hb hr (qr_narZ _) (fun t ht hW => ⟨_, rfl, ⟨false, rfl, ⟨fun h => Bool.noConfusion h, fun h => absurd b8 h.2⟩⟩, ht⟩) (fun _ h => absurd h List.not_mem_nil) dX1_holds_16
    · refine lv_iconst (v := zI true) hx hb dX1_holds_11 (by decide) ?_
      refine lv_goto (tgt := 16) hx hb dX1_holds_12 rfl ?_
      subst hQ
      exact W.zret hx hb hr (qr_narZ _) (fun t ht hW => ⟨_, rfl, ⟨true, rfl, ⟨fun _ => ⟨b1, b8⟩, fun _ => rfl⟩⟩, ht⟩) (fun _ h => absurd h List.not_mem_nil) dX1_holds_16
set_option maxHeartbeats 4000000 in
set_option maxRecDepth 100000 in
/-- Field.times -/
theorem qc_times (l : Launch) (a b : BitVec 8)  : Met l yX1_times wsX1_times ({ frames := 0, cells := 0, slots := 0, locals := 0 } : Room) (va_Pc [.int (sI a), .int (sI b)] (fun _ => True)) (vp_Si (fun r => r = sI (qf_m a b))) 0 0 (fun _ => False) := by
  refine Met.ofW (cc := cX1_times) (maxL := 5) (ret := (some .int)) (by decide) rfl ?_
  intro p e s m args below meth c s₁ B hml hv
  obtain ⟨rfl, -⟩ := hv
  have hx := B.exec
  have hb := B.bytes
  have hr := B.returns
  have hts := atoms_spec (ws := wsX1_times) B.pre
  have hown : s.vm.findClass RX1 = some m.cls := findClass_of_methodNamed B.named
  have hlocks := B.notSynchronized
  have hl := lv_entry ([.int (sI a), .int (sI b)]) (n := 5) (Nat.le_of_ble_eq_true rfl)
  rw [lg_entry_eq]
  generalize (lg_sl ([.int (sI a), .int (sI b)]) ++ List.replicate (5 - (lg_sl ([.int (sI a), .int (sI b)])).length) Slot.unset).toArray = ls at hl ⊢
  have hl : lv_has ls 5 [(0, .int (sI a)), (1, .int (sI b))] := hl
  refine qr_nm (fun Q hQ => ?_)
  refine lv_iconst (v := sI 0#8) hx hb dX1_times_0 (by decide) ?_
  refine lv_istore_n (lv' := [(2, .int (sI 0#8)), (0, .int (sI a)), (1, .int (sI b))]) hx hb dX1_times_1 rfl hl (by decide) rfl (fun ls hl => ?_)
  refine lv_iload_n hx hb dX1_times_2 rfl (lv_at hl 1 rfl) ?_
  refine lv_istore_n (lv' := [(3, .int (sI a)), (2, .int (sI 0#8)), (0, .int (sI a)), (1, .int (sI b))]) hx hb dX1_times_3 rfl hl (by decide) rfl (fun ls hl => ?_)
  refine lv_iconst (v := nI 0) hx hb dX1_times_4 (by decide) ?_
  refine lv_istore (lv' := [(4, .int (nI 0)), (3, .int (sI a)), (2, .int (sI 0#8)), (0, .int (sI a)), (1, .int (sI b))]) hx hb dX1_times_5 hl (by decide) rfl (fun ls hl => ?_)
  have lp7 : ∀ (k i : Nat), i + k = 8 → ∀  (ls : Array Slot) , lv_has ls 5 [(0, .int (sI a)), (1, .int (sI b)), (2, .int (sI (qf_u a b i))), (3, .int (sI (qf_s a i))), (4, .int (nI i))] → W p l e (headSpec wsX1_times ({ frames := 0, cells := 0, slots := 0, locals := 0 } : Room)).room s m ([.int (sI a), .int (sI b)] : List Value).toArray below meth c s.heap [] 0 0 Q (F0 m 7 ls []) := by
    intro k
    induction k with
    | zero =>
      intro i hi  ls hl
      have e9 : 8 = i := by omega
      subst e9
      refine lv_iload hx hb dX1_times_7 (lv_at hl 4 rfl) ?_
      refine lv_bipush (v := nI 8) hx hb dX1_times_9 (by decide) ?_
      refine qr_ge (tgt := 50) hx hb dX1_times_11 rfl (by omega) (by omega) (fun b11 => ?_) (fun h => absurd h (by omega))
      refine lv_iload_n hx hb dX1_times_50 rfl (lv_at hl 2 rfl) ?_
      subst hQ
      exact W.iret hx hb hr (fun t ht hW => ⟨_, rfl, rfl, ht⟩) (fun _ h => absurd h List.not_mem_nil) dX1_times_51
    | succ k ih =>
      intro i hi  ls hl
      have li : i < 8 := by omega
      refine lv_iload hx hb dX1_times_7 (lv_at hl 4 rfl) ?_
      refine lv_bipush (v := nI 8) hx hb dX1_times_9 (by decide) ?_
      refine qr_ge (tgt := 50) hx hb dX1_times_11 rfl (by omega) (by omega) (fun h => absurd h (by omega)) (fun b11 => ?_)
      refine lv_iload_n hx hb dX1_times_14 rfl (lv_at hl 1 rfl) ?_
      refine lv_iload hx hb dX1_times_15 (lv_at hl 4 rfl) ?_
      refine qr_ishr (z := (sI b) >>> ((nI i) &&& 31)) hx hb dX1_times_17 rfl ?_
      refine lv_iconst (v := nI 1) hx hb dX1_times_18 (by decide) ?_
      refine qr_iand (z := zI (b.getLsbD i)) hx hb dX1_times_19 (qr_bit b (by omega)) ?_
      refine qr_ifeqZ (tgt := 27) hx hb dX1_times_20 rfl  (fun b20 => ?_) (fun b20 => ?_)
      · refine lv_iload_n hx hb dX1_times_27 rfl (lv_at hl 3 rfl) ?_
        refine lv_iconst (v := nI 1) hx hb dX1_times_28 (by decide) ?_
        refine qr_ishl (z := (sI (qf_s a i)) <<< ((nI 1) &&& 31)) hx hb dX1_times_29 rfl ?_
        refine lv_istore_n (lv' := [(3, .int ((sI (qf_s a i)) <<< ((nI 1) &&& 31))), (0, .int (sI a)), (1, .int (sI b)), (2, .int (sI (qf_u a b i))), (4, .int (nI i))]) hx hb dX1_times_30 rfl hl (by decide) rfl (fun ls hl => ?_)
        refine lv_iload_n hx hb dX1_times_31 rfl (lv_at hl 0 rfl) ?_
        refine lv_sipush (v := nI 255) hx hb dX1_times_32 (by decide) ?_
        refine lv_icmp_le (tgt := 44) hx hb dX1_times_35 rfl  (fun b35 => ?_) (fun b35 => ?_)
        · refine lv_iinc (k := 4) (v := nI (i + 1)) (lv' := [(4, .int (nI (i + 1))), (3, .int ((sI (qf_s a i)) <<< ((nI 1) &&& 31))), (0, .int (sI a)), (1, .int (sI b)), (2, .int (sI (qf_u a b i)))]) hx hb dX1_times_44 hl rfl (qr_inc _) (by decide) rfl (fun ls hl => ?_)
          refine lv_goto (tgt := 7) hx hb dX1_times_47 rfl ?_
          have hl := lv_sub (l' := [(0, .int (sI a)), (1, .int (sI b)), (2, .int (sI (qf_u a b i))), (3, .int ((sI (qf_s a i)) <<< ((nI 1) &&& 31))), (4, .int (nI (i + 1)))]) hl [2, 3, 4, 1, 0] rfl
          have e1 : qf_u a b (i + 1) = qf_u a b i := by simp only [qf_u, b20, cond_true, cond_false, BitVec.xor_zero]
          have e2 : sI (qf_s a (i + 1)) = (sI (qf_s a i)) <<< ((nI 1) &&& 31) := by rw [qf_s, ← qr_sh, if_neg (Int32.not_lt.mpr b35)]
          exact ih (i + 1) (by omega)  ls (by rw [e1, e2]; exact hl) 
        · refine lv_iload_n hx hb dX1_times_38 rfl (lv_at hl 0 rfl) ?_
          refine lv_sipush (v := nI 285) hx hb dX1_times_39 (by decide) ?_
          refine qr_ixor (z := ((sI (qf_s a i)) <<< ((nI 1) &&& 31)) ^^^ (nI 285)) hx hb dX1_times_42 rfl ?_
          refine lv_istore_n (lv' := [(3, .int (((sI (qf_s a i)) <<< ((nI 1) &&& 31)) ^^^ (nI 285))), (0, .int (sI a)), (1, .int (sI b)), (2, .int (sI (qf_u a b i))), (4, .int (nI i))]) hx hb dX1_times_43 rfl hl (by decide) rfl (fun ls hl => ?_)
          refine lv_iinc (k := 4) (v := nI (i + 1)) (lv' := [(4, .int (nI (i + 1))), (3, .int (((sI (qf_s a i)) <<< ((nI 1) &&& 31)) ^^^ (nI 285))), (0, .int (sI a)), (1, .int (sI b)), (2, .int (sI (qf_u a b i)))]) hx hb dX1_times_44 hl rfl (qr_inc _) (by decide) rfl (fun ls hl => ?_)
          refine lv_goto (tgt := 7) hx hb dX1_times_47 rfl ?_
          have hl := lv_sub (l' := [(0, .int (sI a)), (1, .int (sI b)), (2, .int (sI (qf_u a b i))), (3, .int (((sI (qf_s a i)) <<< ((nI 1) &&& 31)) ^^^ (nI 285))), (4, .int (nI (i + 1)))]) hl [2, 3, 4, 1, 0] rfl
          have e3 : qf_u a b (i + 1) = qf_u a b i := by simp only [qf_u, b20, cond_true, cond_false, BitVec.xor_zero]
          have e4 : sI (qf_s a (i + 1)) = ((sI (qf_s a i)) <<< ((nI 1) &&& 31)) ^^^ (nI 285) := by rw [qf_s, ← qr_sh, if_pos (Int32.not_le.mp b35)]
          exact ih (i + 1) (by omega)  ls (by rw [e3, e4]; exact hl) 
      · refine lv_iload_n hx hb dX1_times_23 rfl (lv_at hl 2 rfl) ?_
        refine lv_iload_n hx hb dX1_times_24 rfl (lv_at hl 3 rfl) ?_
        refine qr_ixor (z := sI ((qf_u a b i) ^^^ (qf_s a i))) hx hb dX1_times_25 (sI_xor _ _) ?_
        refine lv_istore_n (lv' := [(2, .int (sI ((qf_u a b i) ^^^ (qf_s a i)))), (0, .int (sI a)), (1, .int (sI b)), (3, .int (sI (qf_s a i))), (4, .int (nI i))]) hx hb dX1_times_26 rfl hl (by decide) rfl (fun ls hl => ?_)
        refine lv_iload_n hx hb dX1_times_27 rfl (lv_at hl 3 rfl) ?_
        refine lv_iconst (v := nI 1) hx hb dX1_times_28 (by decide) ?_
        refine qr_ishl (z := (sI (qf_s a i)) <<< ((nI 1) &&& 31)) hx hb dX1_times_29 rfl ?_
        refine lv_istore_n (lv' := [(3, .int ((sI (qf_s a i)) <<< ((nI 1) &&& 31))), (2, .int (sI ((qf_u a b i) ^^^ (qf_s a i)))), (0, .int (sI a)), (1, .int (sI b)), (4, .int (nI i))]) hx hb dX1_times_30 rfl hl (by decide) rfl (fun ls hl => ?_)
        refine lv_iload_n hx hb dX1_times_31 rfl (lv_at hl 0 rfl) ?_
        refine lv_sipush (v := nI 255) hx hb dX1_times_32 (by decide) ?_
        refine lv_icmp_le (tgt := 44) hx hb dX1_times_35 rfl  (fun b35 => ?_) (fun b35 => ?_)
        · refine lv_iinc (k := 4) (v := nI (i + 1)) (lv' := [(4, .int (nI (i + 1))), (3, .int ((sI (qf_s a i)) <<< ((nI 1) &&& 31))), (2, .int (sI ((qf_u a b i) ^^^ (qf_s a i)))), (0, .int (sI a)), (1, .int (sI b))]) hx hb dX1_times_44 hl rfl (qr_inc _) (by decide) rfl (fun ls hl => ?_)
          refine lv_goto (tgt := 7) hx hb dX1_times_47 rfl ?_
          have hl := lv_sub (l' := [(0, .int (sI a)), (1, .int (sI b)), (2, .int (sI ((qf_u a b i) ^^^ (qf_s a i)))), (3, .int ((sI (qf_s a i)) <<< ((nI 1) &&& 31))), (4, .int (nI (i + 1)))]) hl [3, 4, 2, 1, 0] rfl
          have e5 : qf_u a b (i + 1) = (qf_u a b i) ^^^ (qf_s a i) := by simp only [qf_u, b20, cond_true, cond_false, BitVec.xor_zero]
          have e6 : sI (qf_s a (i + 1)) = (sI (qf_s a i)) <<< ((nI 1) &&& 31) := by rw [qf_s, ← qr_sh, if_neg (Int32.not_lt.mpr b35)]
          exact ih (i + 1) (by omega)  ls (by rw [e5, e6]; exact hl) 
        · refine lv_iload_n hx hb dX1_times_38 rfl (lv_at hl 0 rfl) ?_
          refine lv_sipush (v := nI 285) hx hb dX1_times_39 (by decide) ?_
          refine qr_ixor (z := ((sI (qf_s a i)) <<< ((nI 1) &&& 31)) ^^^ (nI 285)) hx hb dX1_times_42 rfl ?_
          refine lv_istore_n (lv' := [(3, .int (((sI (qf_s a i)) <<< ((nI 1) &&& 31)) ^^^ (nI 285))), (2, .int (sI ((qf_u a b i) ^^^ (qf_s a i)))), (0, .int (sI a)), (1, .int (sI b)), (4, .int (nI i))]) hx hb dX1_times_43 rfl hl (by decide) rfl (fun ls hl => ?_)
          refine lv_iinc (k := 4) (v := nI (i + 1)) (lv' := [(4, .int (nI (i + 1))), (3, .int (((sI (qf_s a i)) <<< ((nI 1) &&& 31)) ^^^ (nI 285))), (2, .int (sI ((qf_u a b i) ^^^ (qf_s a i)))), (0, .int (sI a)), (1, .int (sI b))]) hx hb dX1_times_44 hl rfl (qr_inc _) (by decide) rfl (fun ls hl => ?_)
          refine lv_goto (tgt := 7) hx hb dX1_times_47 rfl ?_
          have hl := lv_sub (l' := [(0, .int (sI a)), (1, .int (sI b)), (2, .int (sI ((qf_u a b i) ^^^ (qf_s a i)))), (3, .int (((sI (qf_s a i)) <<< ((nI 1) &&& 31)) ^^^ (nI 285))), (4, .int (nI (i + 1)))]) hl [3, 4, 2, 1, 0] rfl
          have e7 : qf_u a b (i + 1) = (qf_u a b i) ^^^ (qf_s a i) := by simp only [qf_u, b20, cond_true, cond_false, BitVec.xor_zero]
          have e8 : sI (qf_s a (i + 1)) = ((sI (qf_s a i)) <<< ((nI 1) &&& 31)) ^^^ (nI 285) := by rw [qf_s, ← qr_sh, if_pos (Int32.not_le.mp b35)]
          exact ih (i + 1) (by omega)  ls (by rw [e7, e8]; exact hl) 
  have hl := lv_sub (l' := [(0, .int (sI a)), (1, .int (sI b)), (2, .int (sI 0#8)), (3, .int (sI a)), (4, .int (nI 0))]) hl [3, 4, 2, 1, 0] rfl
  exact lp7 8 0 (by omega)  ls hl 
set_option maxHeartbeats 4000000 in
set_option maxRecDepth 100000 in
/-- Field.inverse -/
theorem qc_inverse (l : Launch) (a : BitVec 8)  : Met l yX1_inverse wsX1_inverse ({ frames := 1, cells := 0, slots := 0, locals := 24 } : Room) (va_Pc [.int (sI a)] (fun _ => True)) (vp_Si (fun r => r = sI (qf_i a))) 0 0 (fun _ => False) := by
  refine Met.ofW (cc := cX1_inverse) (maxL := 4) (ret := (some .int)) (by decide) rfl ?_
  intro p e s m args below meth c s₁ B hml hv
  obtain ⟨rfl, -⟩ := hv
  have hx := B.exec
  have hb := B.bytes
  have hr := B.returns
  have hts := atoms_spec (ws := wsX1_inverse) B.pre
  have hown : s.vm.findClass RX1 = some m.cls := findClass_of_methodNamed B.named
  have hlocks := B.notSynchronized
  have hl := lv_entry ([.int (sI a)]) (n := 4) (Nat.le_of_ble_eq_true rfl)
  rw [lg_entry_eq]
  generalize (lg_sl ([.int (sI a)]) ++ List.replicate (4 - (lg_sl ([.int (sI a)])).length) Slot.unset).toArray = ls at hl ⊢
  have hl : lv_has ls 4 [(0, .int (sI a))] := hl
  refine qr_nm (fun Q hQ => ?_)
  refine lv_iload_n hx hb dX1_inverse_0 rfl (lv_at hl 0 rfl) ?_
  refine lv_istore_n (lv' := [(1, .int (sI a)), (0, .int (sI a))]) hx hb dX1_inverse_1 rfl hl (by decide) rfl (fun ls hl => ?_)
  refine lv_iconst (v := sI 1#8) hx hb dX1_inverse_2 (by decide) ?_
  refine lv_istore_n (lv' := [(2, .int (sI 1#8)), (1, .int (sI a)), (0, .int (sI a))]) hx hb dX1_inverse_3 rfl hl (by decide) rfl (fun ls hl => ?_)
  refine lv_iconst (v := nI 1) hx hb dX1_inverse_4 (by decide) ?_
  refine lv_istore_n (lv' := [(3, .int (nI 1)), (2, .int (sI 1#8)), (1, .int (sI a)), (0, .int (sI a))]) hx hb dX1_inverse_5 rfl hl (by decide) rfl (fun ls hl => ?_)
  have lp6 : ∀ (k i : Nat), i + k = 7 → ∀  (ls : Array Slot) , lv_has ls 4 [(0, .int (sI a)), (1, .int (sI (qf_ip a i))), (2, .int (sI (qf_ir a i))), (3, .int (nI (i + 1)))] → W p l e (headSpec wsX1_inverse ({ frames := 1, cells := 0, slots := 0, locals := 24 } : Room)).room s m ([.int (sI a)] : List Value).toArray below meth c s.heap [] 0 0 Q (F0 m 6 ls []) := by
    intro k
    induction k with
    | zero =>
      intro i hi  ls hl
      have e9 : 7 = i := by omega
      subst e9
      refine lv_iload_n hx hb dX1_inverse_6 rfl (lv_at hl 3 rfl) ?_
      refine lv_bipush (v := nI 8) hx hb dX1_inverse_7 (by decide) ?_
      refine qr_ge (tgt := 30) hx hb dX1_inverse_9 rfl (by omega) (by omega) (fun b9 => ?_) (fun h => absurd h (by omega))
      refine lv_iload_n hx hb dX1_inverse_30 rfl (lv_at hl 2 rfl) ?_
      subst hQ
      exact W.iret hx hb hr (fun t ht hW => ⟨_, rfl, congrArg sI (qf_ir_7 a), ht⟩) (fun _ h => absurd h List.not_mem_nil) dX1_inverse_31
    | succ k ih =>
      intro i hi  ls hl
      have li : i < 7 := by omega
      refine lv_iload_n hx hb dX1_inverse_6 rfl (lv_at hl 3 rfl) ?_
      refine lv_bipush (v := nI 8) hx hb dX1_inverse_7 (by decide) ?_
      refine qr_ge (tgt := 30) hx hb dX1_inverse_9 rfl (by omega) (by omega) (fun h => absurd h (by omega)) (fun b9 => ?_)
      refine lv_iload_n hx hb dX1_inverse_12 rfl (lv_at hl 1 rfl) ?_
      refine lv_iload_n hx hb dX1_inverse_13 rfl (lv_at hl 1 rfl) ?_
      refine vp_callSi (va_Run.run (va_runS (As := [.int (sI (qf_ip a i)), .int (sI (qf_ip a i))]) (rest := []) ⟨hx, hb, hml, hown, hts⟩ (qc_times l (qf_ip a i) (qf_ip a i) ) (va_cwS 2 hts gX1_inverse_X1_times rfl rfl rfl (by decide +kernel) ⟨Nat.le_of_ble_eq_true rfl, Nat.le_of_ble_eq_true rfl⟩) ⟨fun a U g mk q => q, fun U hU hW => ⟨rfl, trivial⟩⟩ rfl rfl hl.1 rfl (lv_room (Nat.le_of_ble_eq_true rfl)) dX1_inverse_14 ⟨Nat.le_of_ble_eq_true rfl, Nat.le_of_ble_eq_true rfl⟩)) (fun r14 hr14 => ?_)
      have hr14 : r14 = sI (qf_m (qf_ip a i) (qf_ip a i)) := hr14
      subst hr14
      refine lv_istore_n (lv' := [(1, .int (sI (qf_m (qf_ip a i) (qf_ip a i)))), (0, .int (sI a)), (2, .int (sI (qf_ir a i))), (3, .int (nI (i + 1)))]) hx hb dX1_inverse_17 rfl hl (by decide) rfl (fun ls hl => ?_)
      refine lv_iload_n hx hb dX1_inverse_18 rfl (lv_at hl 2 rfl) ?_
      refine lv_iload_n hx hb dX1_inverse_19 rfl (lv_at hl 0 rfl) ?_
      refine vp_callSi (va_Run.run (va_runS (As := [.int (sI (qf_ir a i)), .int (sI (qf_m (qf_ip a i) (qf_ip a i)))]) (rest := []) ⟨hx, hb, hml, hown, hts⟩ (qc_times l (qf_ir a i) (qf_m (qf_ip a i) (qf_ip a i)) ) (va_cwS 2 hts gX1_inverse_X1_times rfl rfl rfl (by decide +kernel) ⟨Nat.le_of_ble_eq_true rfl, Nat.le_of_ble_eq_true rfl⟩) ⟨fun a U g mk q => q, fun U hU hW => ⟨rfl, trivial⟩⟩ rfl rfl hl.1 rfl (lv_room (Nat.le_of_ble_eq_true rfl)) dX1_inverse_20 ⟨Nat.le_of_ble_eq_true rfl, Nat.le_of_ble_eq_true rfl⟩)) (fun r20 hr20 => ?_)
      have hr20 : r20 = sI (qf_m (qf_ir a i) (qf_m (qf_ip a i) (qf_ip a i))) := hr20
      subst hr20
      refine lv_istore_n (lv' := [(2, .int (sI (qf_m (qf_ir a i) (qf_m (qf_ip a i) (qf_ip a i))))), (1, .int (sI (qf_m (qf_ip a i) (qf_ip a i)))), (0, .int (sI a)), (3, .int (nI (i + 1)))]) hx hb dX1_inverse_23 rfl hl (by decide) rfl (fun ls hl => ?_)
      refine lv_iinc (k := 3) (v := nI ((i + 1) + 1)) (lv' := [(3, .int (nI ((i + 1) + 1))), (2, .int (sI (qf_m (qf_ir a i) (qf_m (qf_ip a i) (qf_ip a i))))), (1, .int (sI (qf_m (qf_ip a i) (qf_ip a i)))), (0, .int (sI a))]) hx hb dX1_inverse_24 hl rfl (qr_inc _) (by decide) rfl (fun ls hl => ?_)
      refine lv_goto (tgt := 6) hx hb dX1_inverse_27 rfl ?_
      have hl := lv_sub (l' := [(0, .int (sI a)), (1, .int (sI (qf_m (qf_ip a i) (qf_ip a i)))), (2, .int (sI (qf_m (qf_ir a i) (qf_m (qf_ip a i) (qf_ip a i))))), (3, .int (nI ((i + 1) + 1)))]) hl [3, 2, 1, 0] rfl
      have e1 : qf_ip a (i + 1) = qf_m (qf_ip a i) (qf_ip a i) := by first | rfl | (simp only [cond_true, cond_false])
      have e2 : qf_ir a (i + 1) = qf_m (qf_ir a i) (qf_m (qf_ip a i) (qf_ip a i)) := by first | rfl | (simp only [cond_true, cond_false])
      exact ih (i + 1) (by omega)  ls (by rw [e1, e2]; exact hl) 
  have hl := lv_sub (l' := [(0, .int (sI a)), (1, .int (sI a)), (2, .int (sI 1#8)), (3, .int (nI 1))]) hl [3, 2, 1, 0] rfl
  exact lp6 7 0 (by omega)  ls hl 
set_option maxHeartbeats 4000000 in
set_option maxRecDepth 100000 in
/-- Word.makeSums -/
theorem qc_makeSums (l : Launch) (dC : Nat → ClassId) (dI : Nat → Nat → Nat) (cI cZ : ClassId) (h0 a1 a2 a3 a4 a5 a6 a7 n : Nat) (w : Nat → BitVec 8) (z : Nat → Bool) (lo su : Nat → BitVec 8) (da : Nat → Nat) (ch we : Nat → BitVec 8) (sz : Nat) (hn : n ≤ 16) : Met l yX3_makeSums wsX3_makeSums ({ frames := 1, cells := 0, slots := 0, locals := 24 } : Room) (va_Pc [.ref h0] (fun U => U.heap.size = sz ∧ va_P (dC, dI) vwCl [(h0, .inr (2, [.int (nI n), .ref a1, .ref a2, .ref a3, .ref a4, .ref a5, .ref a6, .ref a7])), (a1, .inl (cI, n, .inl (qS w))), (a2, .inl (cZ, n, .inl (qZ z))), (a3, .inl (cI, n, .inl (qS lo))), (a4, .inl (cI, 4, .inl (qS su))), (a5, .inl (cI, 4, .inl (qN da))), (a6, .inl (cI, 4, .inl (qS ch))), (a7, .inl (cI, 4, .inl (qS we)))] U.heap ∧ va_K (dC, dI) vwCl [(cI, .int), (cZ, .boolean)] U ∧ va_D (fun _ => True) [(h0, .inr (2, [.int (nI n), .ref a1, .ref a2, .ref a3, .ref a4, .ref a5, .ref a6, .ref a7])), (a1, .inl (cI, n, .inl (qS w))), (a2, .inl (cZ, n, .inl (qZ z))), (a3, .inl (cI, n, .inl (qS lo))), (a4, .inl (cI, 4, .inl (qS su))), (a5, .inl (cI, 4, .inl (qN da))), (a6, .inl (cI, 4, .inl (qS ch))), (a7, .inl (cI, 4, .inl (qS we)))])) (va_Qv (fun (_ : Unit) => True) (fun _ t => va_P (dC, dI) vwCl [(h0, .inr (2, [.int (nI n), .ref a1, .ref a2, .ref a3, .ref a4, .ref a5, .ref a6, .ref a7])), (a1, .inl (cI, n, .inl (qS w))), (a2, .inl (cZ, n, .inl (qZ z))), (a3, .inl (cI, n, .inl (qS lo))), (a4, .inl (cI, 4, .inl (qS (qm_su n w su 4)))), (a5, .inl (cI, 4, .inl (qN da))), (a6, .inl (cI, 4, .inl (qS ch))), (a7, .inl (cI, 4, .inl (qS we)))] t.heap ∧ va_K (dC, dI) vwCl [(cI, .int), (cZ, .boolean)] t ∧ va_D (va_A [(h0, .inr (2, [.int (nI n), .ref a1, .ref a2, .ref a3, .ref a4, .ref a5, .ref a6, .ref a7])), (a1, .inl (cI, n, .inl (qS w))), (a2, .inl (cZ, n, .inl (qZ z))), (a3, .inl (cI, n, .inl (qS lo))), (a4, .inl (cI, 4, .inl (qS su))), (a5, .inl (cI, 4, .inl (qN da))), (a6, .inl (cI, 4, .inl (qS ch))), (a7, .inl (cI, 4, .inl (qS we)))] sz) [(h0, .inr (2, [.int (nI n), .ref a1, .ref a2, .ref a3, .ref a4, .ref a5, .ref a6, .ref a7])), (a1, .inl (cI, n, .inl (qS w))), (a2, .inl (cZ, n, .inl (qZ z))), (a3, .inl (cI, n, .inl (qS lo))), (a4, .inl (cI, 4, .inl (qS (qm_su n w su 4)))), (a5, .inl (cI, 4, .inl (qN da))), (a6, .inl (cI, 4, .inl (qS ch))), (a7, .inl (cI, 4, .inl (qS we)))]) (va_A [(h0, .inr (2, [.int (nI n), .ref a1, .ref a2, .ref a3, .ref a4, .ref a5, .ref a6, .ref a7])), (a1, .inl (cI, n, .inl (qS w))), (a2, .inl (cZ, n, .inl (qZ z))), (a3, .inl (cI, n, .inl (qS lo))), (a4, .inl (cI, 4, .inl (qS su))), (a5, .inl (cI, 4, .inl (qN da))), (a6, .inl (cI, 4, .inl (qS ch))), (a7, .inl (cI, 4, .inl (qS we)))] sz)) 0 0 (va_A [(h0, .inr (2, [.int (nI n), .ref a1, .ref a2, .ref a3, .ref a4, .ref a5, .ref a6, .ref a7])), (a1, .inl (cI, n, .inl (qS w))), (a2, .inl (cZ, n, .inl (qZ z))), (a3, .inl (cI, n, .inl (qS lo))), (a4, .inl (cI, 4, .inl (qS su))), (a5, .inl (cI, 4, .inl (qN da))), (a6, .inl (cI, 4, .inl (qS ch))), (a7, .inl (cI, 4, .inl (qS we)))] sz) := by
  refine Met.ofW (cc := cX3_makeSums) (maxL := 5) (ret := none) (by decide) rfl ?_
  intro p e s m args below meth c s₁ B hml hv
  obtain ⟨rfl, hsz, hP, hK, hD0⟩ := hv
  have hx := B.exec
  have hb := B.bytes
  have hr := B.returns
  have hts := atoms_spec (ws := wsX3_makeSums) B.pre
  have hown : s.vm.findClass RX3 = some m.cls := findClass_of_methodNamed B.named
  have hlocks := B.notSynchronized
  subst hsz
  have hD := hD0.self (sz := s.heap.size)
  generalize hAe : va_A [(h0, .inr (2, [.int (nI n), .ref a1, .ref a2, .ref a3, .ref a4, .ref a5, .ref a6, .ref a7])), (a1, .inl (cI, n, .inl (qS w))), (a2, .inl (cZ, n, .inl (qZ z))), (a3, .inl (cI, n, .inl (qS lo))), (a4, .inl (cI, 4, .inl (qS su))), (a5, .inl (cI, 4, .inl (qN da))), (a6, .inl (cI, 4, .inl (qS ch))), (a7, .inl (cI, 4, .inl (qS we)))] s.heap.size = A at hD ⊢
  have hA : ∀ q : Nat, s.heap.size ≤ q → A q := fun q h => by rw [← hAe]; exact Or.inr h
  have hS : va_S A s.heap s.heap [] := va_S.rf
  have hP : va_P (dC, dI) vwCl [(h0, .inr (2, [.int (nI n), .ref a1, .ref a2, .ref a3, .ref a4, .ref a5, .ref a6, .ref a7])), (a1, .inl (cI, n, .inl (qS w))), (a2, .inl (cZ, n, .inl (qZ z))), (a3, .inl (cI, n, .inl (qS lo))), (a4, .inl (cI, 4, .inl (qS su))), (a5, .inl (cI, 4, .inl (qN da))), (a6, .inl (cI, 4, .inl (qS ch))), (a7, .inl (cI, 4, .inl (qS we)))] s.heap := hP
  have hl := lv_entry ([.ref h0]) (n := 5) (Nat.le_of_ble_eq_true rfl)
  rw [lg_entry_eq]
  generalize (lg_sl ([.ref h0]) ++ List.replicate (5 - (lg_sl ([.ref h0])).length) Slot.unset).toArray = ls at hl ⊢
  have hl : lv_has ls 5 [(0, .ref h0)] := hl
  have k_9 := hts (.fieldLink RX3 9 "DiscCoder$Word" "size" "I") (by decide +kernel)
  have k_15 := hts (.fieldLink RX3 15 "DiscCoder$Word" "symbols" "[I") (by decide +kernel)
  have k_26 := hts (.fieldLink RX3 26 "DiscCoder$Word" "sums" "[I") (by decide +kernel)
  have i_X3 : ∀ w ∈ u_ws RX3 TX3 8, w ∈ wsX3_makeSums := by decide +kernel
  refine qr_nm (fun Q hQ => ?_)
  refine lv_iconst (v := sI 1#8) hx hb dX3_makeSums_0 (by decide) ?_
  refine lv_istore_n (lv' := [(1, .int (sI 1#8)), (0, .ref h0)]) hx hb dX3_makeSums_1 rfl hl (by decide) rfl (fun ls hl => ?_)
  refine lv_iconst (v := nI 0) hx hb dX3_makeSums_2 (by decide) ?_
  refine lv_istore_n (lv' := [(2, .int (nI 0)), (1, .int (sI 1#8)), (0, .ref h0)]) hx hb dX3_makeSums_3 rfl hl (by decide) rfl (fun ls hl => ?_)
  have lp4 : ∀ (j k : Nat), k + j = 4 → ∀  (ls : Array Slot) (H : Heap) (locs : List Loc), lv_has ls 5 [(0, .ref h0), (1, .int (sI (qf_E k))), (2, .int (nI k))] → va_P (dC, dI) vwCl [(h0, .inr (2, [.int (nI n), .ref a1, .ref a2, .ref a3, .ref a4, .ref a5, .ref a6, .ref a7])), (a1, .inl (cI, n, .inl (qS w))), (a2, .inl (cZ, n, .inl (qZ z))), (a3, .inl (cI, n, .inl (qS lo))), (a4, .inl (cI, 4, .inl (qS (qm_su n w su k)))), (a5, .inl (cI, 4, .inl (qN da))), (a6, .inl (cI, 4, .inl (qS ch))), (a7, .inl (cI, 4, .inl (qS we)))] H → va_D A [(h0, .inr (2, [.int (nI n), .ref a1, .ref a2, .ref a3, .ref a4, .ref a5, .ref a6, .ref a7])), (a1, .inl (cI, n, .inl (qS w))), (a2, .inl (cZ, n, .inl (qZ z))), (a3, .inl (cI, n, .inl (qS lo))), (a4, .inl (cI, 4, .inl (qS (qm_su n w su k)))), (a5, .inl (cI, 4, .inl (qN da))), (a6, .inl (cI, 4, .inl (qS ch))), (a7, .inl (cI, 4, .inl (qS we)))] → va_S A s.heap H locs → W p l e (headSpec wsX3_makeSums ({ frames := 1, cells := 0, slots := 0, locals := 24 } : Room)).room s m ([.ref h0] : List Value).toArray below meth c H locs 0 0 Q (F0 m 4 ls []) := by
    intro j
    induction j with
    | zero =>
      intro k hk  ls H locs hl hP hD hS
      have e9 : 4 = k := by omega
      subst e9
      refine lv_iload_n hx hb dX3_makeSums_4 rfl (lv_at hl 2 rfl) ?_
      refine lv_iconst (v := nI 4) hx hb dX3_makeSums_5 (by decide) ?_
      refine qr_ge (tgt := 62) hx hb dX3_makeSums_6 rfl (by omega) (by omega) (fun b6 => ?_) (fun h => absurd h (by omega))
      subst hQ
      exact W.vret hx hb hr (fun t ht hW => ⟨⟨(), rfl, trivial, by rw [ht]; exact hP, va_K.moved hW.alike hK, hD⟩, hS.F ht⟩) hS.2.2 dX3_makeSums_62
    | succ j ih =>
      intro k hk  ls H locs hl hP hD hS
      have lk : k < 4 := by omega
      refine lv_iload_n hx hb dX3_makeSums_4 rfl (lv_at hl 2 rfl) ?_
      refine lv_iconst (v := nI 4) hx hb dX3_makeSums_5 (by decide) ?_
      refine qr_ge (tgt := 62) hx hb dX3_makeSums_6 rfl (by omega) (by omega) (fun h => absurd h (by omega)) (fun b6 => ?_)
      refine lv_iconst (v := sI 0#8) hx hb dX3_makeSums_9 (by decide) ?_
      refine lv_istore_n (lv' := [(3, .int (sI 0#8)), (0, .ref h0), (1, .int (sI (qf_E k))), (2, .int (nI k))]) hx hb dX3_makeSums_10 rfl hl (by decide) rfl (fun ls hl => ?_)
      refine lv_iconst (v := nI 0) hx hb dX3_makeSums_11 (by decide) ?_
      refine lv_istore (lv' := [(4, .int (nI 0)), (3, .int (sI 0#8)), (0, .ref h0), (1, .int (sI (qf_E k))), (2, .int (nI k))]) hx hb dX3_makeSums_12 hl (by decide) rfl (fun ls hl => ?_)
      have lp14 : ∀ (q i : Nat), i + q = n → ∀  (ls : Array Slot) (H : Heap) (locs : List Loc), lv_has ls 5 [(0, .ref h0), (1, .int (sI (qf_E k))), (2, .int (nI k)), (3, .int (sI (qw_h (qf_E k) w i))), (4, .int (nI i))] → va_P (dC, dI) vwCl [(h0, .inr (2, [.int (nI n), .ref a1, .ref a2, .ref a3, .ref a4, .ref a5, .ref a6, .ref a7])), (a1, .inl (cI, n, .inl (qS w))), (a2, .inl (cZ, n, .inl (qZ z))), (a3, .inl (cI, n, .inl (qS lo))), (a4, .inl (cI, 4, .inl (qS (qm_su n w su k)))), (a5, .inl (cI, 4, .inl (qN da))), (a6, .inl (cI, 4, .inl (qS ch))), (a7, .inl (cI, 4, .inl (qS we)))] H → va_D A [(h0, .inr (2, [.int (nI n), .ref a1, .ref a2, .ref a3, .ref a4, .ref a5, .ref a6, .ref a7])), (a1, .inl (cI, n, .inl (qS w))), (a2, .inl (cZ, n, .inl (qZ z))), (a3, .inl (cI, n, .inl (qS lo))), (a4, .inl (cI, 4, .inl (qS (qm_su n w su k)))), (a5, .inl (cI, 4, .inl (qN da))), (a6, .inl (cI, 4, .inl (qS ch))), (a7, .inl (cI, 4, .inl (qS we)))] → va_S A s.heap H locs → W p l e (headSpec wsX3_makeSums ({ frames := 1, cells := 0, slots := 0, locals := 24 } : Room)).room s m ([.ref h0] : List Value).toArray below meth c H locs 0 0 Q (F0 m 14 ls []) := by
        intro q
        induction q with
        | zero =>
          intro i hi  ls H locs hl hP hD hS
          have e9 : n = i := by omega
          subst e9
          refine lv_iload hx hb dX3_makeSums_14 (lv_at hl 4 rfl) ?_
          refine lv_aload_n hx hb dX3_makeSums_16 rfl (lv_at hl 0 rfl) ?_
          refine va_get (D := (dC, dI)) (ci := 2) (v := .int (nI n)) (C := RX3) (T := TX3) (N := 8) hx hb hts i_X3 hown hK hP 0 rfl rfl 0 (by decide) k_9 (fun _ h9 => h9) rfl dX3_makeSums_17 ?_
          refine qr_ge (tgt := 43) hx hb dX3_makeSums_20 rfl (by omega) (by omega) (fun b20 => ?_) (fun h => absurd h (by omega))
          refine lv_aload_n hx hb dX3_makeSums_43 rfl (lv_at hl 0 rfl) ?_
          refine va_get (D := (dC, dI)) (ci := 2) (v := .ref a4) (C := RX3) (T := TX3) (N := 8) hx hb hts i_X3 hown hK hP 0 rfl rfl 4 (by decide) k_26 (fun _ h9 => h9) rfl dX3_makeSums_44 ?_
          refine lv_iload_n hx hb dX3_makeSums_47 rfl (lv_at hl 2 rfl) ?_
          refine lv_iload_n hx hb dX3_makeSums_48 rfl (lv_at hl 3 rfl) ?_
          refine qr_istS (x := qw_h (qf_E k) w n) hx hb hK hP hD hS 4 0 rfl rfl (by omega) (by omega) dX3_makeSums_49 (fun H locs hP hD hS => ?_)
          have hP : va_P (dC, dI) vwCl [(h0, .inr (2, [.int (nI n), .ref a1, .ref a2, .ref a3, .ref a4, .ref a5, .ref a6, .ref a7])), (a1, .inl (cI, n, .inl (qS w))), (a2, .inl (cZ, n, .inl (qZ z))), (a3, .inl (cI, n, .inl (qS lo))), (a4, .inl (cI, 4, .inl (qS (va_up (qm_su n w su k) k (qw_h (qf_E k) w n))))), (a5, .inl (cI, 4, .inl (qN da))), (a6, .inl (cI, 4, .inl (qS ch))), (a7, .inl (cI, 4, .inl (qS we)))] H := hP
          have hD : va_D A [(h0, .inr (2, [.int (nI n), .ref a1, .ref a2, .ref a3, .ref a4, .ref a5, .ref a6, .ref a7])), (a1, .inl (cI, n, .inl (qS w))), (a2, .inl (cZ, n, .inl (qZ z))), (a3, .inl (cI, n, .inl (qS lo))), (a4, .inl (cI, 4, .inl (qS (va_up (qm_su n w su k) k (qw_h (qf_E k) w n))))), (a5, .inl (cI, 4, .inl (qN da))), (a6, .inl (cI, 4, .inl (qS ch))), (a7, .inl (cI, 4, .inl (qS we)))] := hD
          refine lv_iload_n hx hb dX3_makeSums_50 rfl (lv_at hl 1 rfl) ?_
          refine lv_iconst (v := sI 2#8) hx hb dX3_makeSums_51 (by decide) ?_
          refine vp_callSi (va_Run.run (va_runS (As := [.int (sI (qf_E k)), .int (sI 2#8)]) (rest := []) ⟨hx, hb, hml, hown, hts⟩ (qc_times l (qf_E k) 2#8 ) (va_cwS 2 hts gX3_makeSums_X1_times rfl rfl rfl (by decide +kernel) ⟨Nat.le_of_ble_eq_true rfl, Nat.le_of_ble_eq_true rfl⟩) ⟨fun a U g mk q => q, fun U hU hW => ⟨rfl, trivial⟩⟩ rfl rfl hl.1 rfl (lv_room (Nat.le_of_ble_eq_true rfl)) dX3_makeSums_52 ⟨Nat.le_of_ble_eq_true rfl, Nat.le_of_ble_eq_true rfl⟩)) (fun r52 hr52 => ?_)
          have hr52 : r52 = sI (qf_m (qf_E k) 2#8) := hr52
          subst hr52
          refine lv_istore_n (lv' := [(1, .int (sI (qf_m (qf_E k) 2#8))), (0, .ref h0), (2, .int (nI k)), (3, .int (sI (qw_h (qf_E k) w n))), (4, .int (nI n))]) hx hb dX3_makeSums_55 rfl hl (by decide) rfl (fun ls hl => ?_)
          refine lv_iinc (k := 2) (v := nI (k + 1)) (lv' := [(2, .int (nI (k + 1))), (1, .int (sI (qf_m (qf_E k) 2#8))), (0, .ref h0), (3, .int (sI (qw_h (qf_E k) w n))), (4, .int (nI n))]) hx hb dX3_makeSums_56 hl rfl (qr_inc _) (by decide) rfl (fun ls hl => ?_)
          refine lv_goto (tgt := 4) hx hb dX3_makeSums_59 rfl ?_
          have hl := lv_sub (l' := [(0, .ref h0), (1, .int (sI (qf_m (qf_E k) 2#8))), (2, .int (nI (k + 1)))]) hl [2, 1, 0] rfl
          have e1 : qf_E (k + 1) = qf_m (qf_E k) 2#8 := by first | rfl | (simp only [cond_true, cond_false])
          have e2 : qm_su n w su (k + 1) = va_up (qm_su n w su k) k (qw_h (qf_E k) w n) := by first | rfl | (simp only [cond_true, cond_false])
          exact ih (k + 1) (by omega)  ls H _ (by rw [e1]; exact hl) (by rw [e2]; exact hP) (by rw [e2]; exact hD) hS 
        | succ q ih =>
          intro i hi  ls H locs hl hP hD hS
          have li : i < n := by omega
          refine lv_iload hx hb dX3_makeSums_14 (lv_at hl 4 rfl) ?_
          refine lv_aload_n hx hb dX3_makeSums_16 rfl (lv_at hl 0 rfl) ?_
          refine va_get (D := (dC, dI)) (ci := 2) (v := .int (nI n)) (C := RX3) (T := TX3) (N := 8) hx hb hts i_X3 hown hK hP 0 rfl rfl 0 (by decide) k_9 (fun _ h9 => h9) rfl dX3_makeSums_17 ?_
          refine qr_ge (tgt := 43) hx hb dX3_makeSums_20 rfl (by omega) (by omega) (fun h => absurd h (by omega)) (fun b20 => ?_)
          refine lv_iload_n hx hb dX3_makeSums_23 rfl (lv_at hl 3 rfl) ?_
          refine lv_iload_n hx hb dX3_makeSums_24 rfl (lv_at hl 1 rfl) ?_
          refine vp_callSi (va_Run.run (va_runS (As := [.int (sI (qw_h (qf_E k) w i)), .int (sI (qf_E k))]) (rest := []) ⟨hx, hb, hml, hown, hts⟩ (qc_times l (qw_h (qf_E k) w i) (qf_E k) ) (va_cwS 2 hts gX3_makeSums_X1_times rfl rfl rfl (by decide +kernel) ⟨Nat.le_of_ble_eq_true rfl, Nat.le_of_ble_eq_true rfl⟩) ⟨fun a U g mk q => q, fun U hU hW => ⟨rfl, trivial⟩⟩ rfl rfl hl.1 rfl (lv_room (Nat.le_of_ble_eq_true rfl)) dX3_makeSums_25 ⟨Nat.le_of_ble_eq_true rfl, Nat.le_of_ble_eq_true rfl⟩)) (fun r25 hr25 => ?_)
          have hr25 : r25 = sI (qf_m (qw_h (qf_E k) w i) (qf_E k)) := hr25
          subst hr25
          refine lv_aload_n hx hb dX3_makeSums_28 rfl (lv_at hl 0 rfl) ?_
          refine va_get (D := (dC, dI)) (ci := 2) (v := .ref a1) (C := RX3) (T := TX3) (N := 8) hx hb hts i_X3 hown hK hP 0 rfl rfl 1 (by decide) k_15 (fun _ h9 => h9) rfl dX3_makeSums_29 ?_
          refine lv_iload hx hb dX3_makeSums_32 (lv_at hl 4 rfl) ?_
          refine qr_ildS hx hb hK hP 1 0 rfl rfl (by omega) (by omega) dX3_makeSums_34 ?_
          refine qr_ixor (z := sI ((qf_m (qw_h (qf_E k) w i) (qf_E k)) ^^^ (w i))) hx hb dX3_makeSums_35 (sI_xor _ _) ?_
          refine lv_istore_n (lv' := [(3, .int (sI ((qf_m (qw_h (qf_E k) w i) (qf_E k)) ^^^ (w i)))), (0, .ref h0), (1, .int (sI (qf_E k))), (2, .int (nI k)), (4, .int (nI i))]) hx hb dX3_makeSums_36 rfl hl (by decide) rfl (fun ls hl => ?_)
          refine lv_iinc (k := 4) (v := nI (i + 1)) (lv' := [(4, .int (nI (i + 1))), (3, .int (sI ((qf_m (qw_h (qf_E k) w i) (qf_E k)) ^^^ (w i)))), (0, .ref h0), (1, .int (sI (qf_E k))), (2, .int (nI k))]) hx hb dX3_makeSums_37 hl rfl (qr_inc _) (by decide) rfl (fun ls hl => ?_)
          refine lv_goto (tgt := 14) hx hb dX3_makeSums_40 rfl ?_
          have hl := lv_sub (l' := [(0, .ref h0), (1, .int (sI (qf_E k))), (2, .int (nI k)), (3, .int (sI ((qf_m (qw_h (qf_E k) w i) (qf_E k)) ^^^ (w i)))), (4, .int (nI (i + 1)))]) hl [2, 3, 4, 1, 0] rfl
          have e3 : qw_h (qf_E k) w (i + 1) = (qf_m (qw_h (qf_E k) w i) (qf_E k)) ^^^ (w i) := by first | rfl | (simp only [cond_true, cond_false])
          exact ih (i + 1) (by omega)  ls H _ (by rw [e3]; exact hl) (by exact hP) (by exact hD) hS 
      have hl := lv_sub (l' := [(0, .ref h0), (1, .int (sI (qf_E k))), (2, .int (nI k)), (3, .int (sI 0#8)), (4, .int (nI 0))]) hl [2, 3, 4, 1, 0] rfl
      exact lp14 n 0 (by omega)  ls H _ hl hP hD hS 
  have hl := lv_sub (l' := [(0, .ref h0), (1, .int (sI 1#8)), (2, .int (nI 0))]) hl [2, 1, 0] rfl
  exact lp4 4 0 (by omega)  ls s.heap _ hl hP hD hS 
set_option maxHeartbeats 4000000 in
set_option maxRecDepth 100000 in
/-- Word.isWord -/
theorem qc_isWord (l : Launch) (dC : Nat → ClassId) (dI : Nat → Nat → Nat) (cI cZ : ClassId) (h0 a1 a2 a3 a4 a5 a6 a7 n : Nat) (w : Nat → BitVec 8) (z : Nat → Bool) (lo su : Nat → BitVec 8) (da : Nat → Nat) (ch we : Nat → BitVec 8) (sz : Nat) (hn : n ≤ 16) : Met l yX3_isWord wsX3_isWord ({ frames := 2, cells := 0, slots := 0, locals := 48 } : Room) (va_Pc [.ref h0] (fun U => U.heap.size = sz ∧ va_P (dC, dI) vwCl [(h0, .inr (2, [.int (nI n), .ref a1, .ref a2, .ref a3, .ref a4, .ref a5, .ref a6, .ref a7])), (a1, .inl (cI, n, .inl (qS w))), (a2, .inl (cZ, n, .inl (qZ z))), (a3, .inl (cI, n, .inl (qS lo))), (a4, .inl (cI, 4, .inl (qS su))), (a5, .inl (cI, 4, .inl (qN da))), (a6, .inl (cI, 4, .inl (qS ch))), (a7, .inl (cI, 4, .inl (qS we)))] U.heap ∧ va_K (dC, dI) vwCl [(cI, .int), (cZ, .boolean)] U ∧ va_D (fun _ => True) [(h0, .inr (2, [.int (nI n), .ref a1, .ref a2, .ref a3, .ref a4, .ref a5, .ref a6, .ref a7])), (a1, .inl (cI, n, .inl (qS w))), (a2, .inl (cZ, n, .inl (qZ z))), (a3, .inl (cI, n, .inl (qS lo))), (a4, .inl (cI, 4, .inl (qS su))), (a5, .inl (cI, 4, .inl (qN da))), (a6, .inl (cI, 4, .inl (qS ch))), (a7, .inl (cI, 4, .inl (qS we)))])) (va_Qi (fun (r : Int32) (_ : Unit) => ∃ b : Bool, r = zI b ∧ (b = true ↔ qw_W n w)) (fun _ t => va_P (dC, dI) vwCl [(h0, .inr (2, [.int (nI n), .ref a1, .ref a2, .ref a3, .ref a4, .ref a5, .ref a6, .ref a7])), (a1, .inl (cI, n, .inl (qS w))), (a2, .inl (cZ, n, .inl (qZ z))), (a3, .inl (cI, n, .inl (qS lo))), (a4, .inl (cI, 4, .inl (qS (qm_su n w su 4)))), (a5, .inl (cI, 4, .inl (qN da))), (a6, .inl (cI, 4, .inl (qS ch))), (a7, .inl (cI, 4, .inl (qS we)))] t.heap ∧ va_K (dC, dI) vwCl [(cI, .int), (cZ, .boolean)] t ∧ va_D (va_A [(h0, .inr (2, [.int (nI n), .ref a1, .ref a2, .ref a3, .ref a4, .ref a5, .ref a6, .ref a7])), (a1, .inl (cI, n, .inl (qS w))), (a2, .inl (cZ, n, .inl (qZ z))), (a3, .inl (cI, n, .inl (qS lo))), (a4, .inl (cI, 4, .inl (qS su))), (a5, .inl (cI, 4, .inl (qN da))), (a6, .inl (cI, 4, .inl (qS ch))), (a7, .inl (cI, 4, .inl (qS we)))] sz) [(h0, .inr (2, [.int (nI n), .ref a1, .ref a2, .ref a3, .ref a4, .ref a5, .ref a6, .ref a7])), (a1, .inl (cI, n, .inl (qS w))), (a2, .inl (cZ, n, .inl (qZ z))), (a3, .inl (cI, n, .inl (qS lo))), (a4, .inl (cI, 4, .inl (qS (qm_su n w su 4)))), (a5, .inl (cI, 4, .inl (qN da))), (a6, .inl (cI, 4, .inl (qS ch))), (a7, .inl (cI, 4, .inl (qS we)))]) (va_A [(h0, .inr (2, [.int (nI n), .ref a1, .ref a2, .ref a3, .ref a4, .ref a5, .ref a6, .ref a7])), (a1, .inl (cI, n, .inl (qS w))), (a2, .inl (cZ, n, .inl (qZ z))), (a3, .inl (cI, n, .inl (qS lo))), (a4, .inl (cI, 4, .inl (qS su))), (a5, .inl (cI, 4, .inl (qN da))), (a6, .inl (cI, 4, .inl (qS ch))), (a7, .inl (cI, 4, .inl (qS we)))] sz)) 0 0 (va_A [(h0, .inr (2, [.int (nI n), .ref a1, .ref a2, .ref a3, .ref a4, .ref a5, .ref a6, .ref a7])), (a1, .inl (cI, n, .inl (qS w))), (a2, .inl (cZ, n, .inl (qZ z))), (a3, .inl (cI, n, .inl (qS lo))), (a4, .inl (cI, 4, .inl (qS su))), (a5, .inl (cI, 4, .inl (qN da))), (a6, .inl (cI, 4, .inl (qS ch))), (a7, .inl (cI, 4, .inl (qS we)))] sz) := by
  refine Met.ofW (cc := cX3_isWord) (maxL := 2) (ret := (some .boolean)) (by decide) rfl ?_
  intro p e s m args below meth c s₁ B hml hv
  obtain ⟨rfl, hsz, hP, hK, hD0⟩ := hv
  have hx := B.exec
  have hb := B.bytes
  have hr := B.returns
  have hts := atoms_spec (ws := wsX3_isWord) B.pre
  have hown : s.vm.findClass RX3 = some m.cls := findClass_of_methodNamed B.named
  have hlocks := B.notSynchronized
  subst hsz
  have hD := hD0.self (sz := s.heap.size)
  generalize hAe : va_A [(h0, .inr (2, [.int (nI n), .ref a1, .ref a2, .ref a3, .ref a4, .ref a5, .ref a6, .ref a7])), (a1, .inl (cI, n, .inl (qS w))), (a2, .inl (cZ, n, .inl (qZ z))), (a3, .inl (cI, n, .inl (qS lo))), (a4, .inl (cI, 4, .inl (qS su))), (a5, .inl (cI, 4, .inl (qN da))), (a6, .inl (cI, 4, .inl (qS ch))), (a7, .inl (cI, 4, .inl (qS we)))] s.heap.size = A at hD ⊢
  have hA : ∀ q : Nat, s.heap.size ≤ q → A q := fun q h => by rw [← hAe]; exact Or.inr h
  have hS : va_S A s.heap s.heap [] := va_S.rf
  have hP : va_P (dC, dI) vwCl [(h0, .inr (2, [.int (nI n), .ref a1, .ref a2, .ref a3, .ref a4, .ref a5, .ref a6, .ref a7])), (a1, .inl (cI, n, .inl (qS w))), (a2, .inl (cZ, n, .inl (qZ z))), (a3, .inl (cI, n, .inl (qS lo))), (a4, .inl (cI, 4, .inl (qS su))), (a5, .inl (cI, 4, .inl (qN da))), (a6, .inl (cI, 4, .inl (qS ch))), (a7, .inl (cI, 4, .inl (qS we)))] s.heap := hP
  have hl := lv_entry ([.ref h0]) (n := 2) (Nat.le_of_ble_eq_true rfl)
  rw [lg_entry_eq]
  generalize (lg_sl ([.ref h0]) ++ List.replicate (2 - (lg_sl ([.ref h0])).length) Slot.unset).toArray = ls at hl ⊢
  have hl : lv_has ls 2 [(0, .ref h0)] := hl
  have k_26 := hts (.fieldLink RX3 26 "DiscCoder$Word" "sums" "[I") (by decide +kernel)
  have i_X3 : ∀ w ∈ u_ws RX3 TX3 8, w ∈ wsX3_isWord := by decide +kernel
  refine qr_nm (fun Q hQ => ?_)
  refine lv_aload_n hx hb dX3_isWord_0 rfl (lv_at hl 0 rfl) ?_
  have hPc := hP.sub (ws' := [(h0, .inr (2, [.int (nI n), .ref a1, .ref a2, .ref a3, .ref a4, .ref a5, .ref a6, .ref a7])), (a1, .inl (cI, n, .inl (qS w))), (a2, .inl (cZ, n, .inl (qZ z))), (a3, .inl (cI, n, .inl (qS lo))), (a4, .inl (cI, 4, .inl (qS su))), (a5, .inl (cI, 4, .inl (qN da))), (a6, .inl (cI, 4, .inl (qS ch))), (a7, .inl (cI, 4, .inl (qS we)))]) [0, 1, 2, 3, 4, 5, 6, 7] rfl
  have hDc := hD.sub (ws' := [(h0, .inr (2, [.int (nI n), .ref a1, .ref a2, .ref a3, .ref a4, .ref a5, .ref a6, .ref a7])), (a1, .inl (cI, n, .inl (qS w))), (a2, .inl (cZ, n, .inl (qZ z))), (a3, .inl (cI, n, .inl (qS lo))), (a4, .inl (cI, 4, .inl (qS su))), (a5, .inl (cI, 4, .inl (qN da))), (a6, .inl (cI, 4, .inl (qS ch))), (a7, .inl (cI, 4, .inl (qS we)))]) [0, 1, 2, 3, 4, 5, 6, 7] (by decide) rfl
  have hKc := hK.sub (tys' := [(cI, .int), (cZ, .boolean)]) [0, 1] rfl
  have hFc := va_free (wc := [(h0, .inr (2, [.int (nI n), .ref a1, .ref a2, .ref a3, .ref a4, .ref a5, .ref a6, .ref a7])), (a1, .inl (cI, n, .inl (qS w))), (a2, .inl (cZ, n, .inl (qZ z))), (a3, .inl (cI, n, .inl (qS lo))), (a4, .inl (cI, 4, .inl (qS su))), (a5, .inl (cI, 4, .inl (qN da))), (a6, .inl (cI, 4, .inl (qS ch))), (a7, .inl (cI, 4, .inl (qS we)))]) hD hS hA [0, 1, 2, 3, 4, 5, 6, 7] rfl
  refine va_callv (va_runV (As := []) (rest := []) ⟨hx, hb, hml, hown, hts⟩ (qc_makeSums l dC dI cI cZ h0 a1 a2 a3 a4 a5 a6 a7 n w z lo su da ch we s.heap.size hn) (cwV 0 hts gX3_isWord_X3_makeSums rfl rfl rfl (by decide +kernel) ⟨Nat.le_of_ble_eq_true rfl, Nat.le_of_ble_eq_true rfl⟩) ⟨fun a U g mk q => by obtain ⟨q0, q1, qP, qK, qD⟩ := q; exact ⟨q0, q1, qP, va_K.moved (u := U) (U := U.calling g mk a) (Vm.Alike.refl U.vm) qK, qD⟩, (va_recv (q0 := 0) (ci := 2) hK hP rfl rfl), fun U hU hW => ⟨rfl, by rw [hU], by rw [hU]; exact hPc, va_K.moved hW.alike hKc, hDc.weaken (fun _ _ _ _ => trivial)⟩⟩ rfl rfl hl.1 rfl (lv_room (Nat.le_of_ble_eq_true rfl)) dX3_isWord_1 ⟨Nat.le_of_ble_eq_true rfl, Nat.le_of_ble_eq_true rfl⟩) hS (fun q _ h => hFc q h) hFc (fun u t H1 locs ht hvm hr1 hB hz1 hk1 hS => ?_)
  obtain ⟨hP1, hK1, hD1⟩ := hB
  rw [ht] at hP1
  have hP1 : va_P (dC, dI) vwCl [(h0, .inr (2, [.int (nI n), .ref a1, .ref a2, .ref a3, .ref a4, .ref a5, .ref a6, .ref a7])), (a1, .inl (cI, n, .inl (qS w))), (a2, .inl (cZ, n, .inl (qZ z))), (a3, .inl (cI, n, .inl (qS lo))), (a4, .inl (cI, 4, .inl (qS (qm_su n w su 4)))), (a5, .inl (cI, 4, .inl (qN da))), (a6, .inl (cI, 4, .inl (qS ch))), (a7, .inl (cI, 4, .inl (qS we)))] H1 := hP1
  obtain ⟨hP, hD⟩ := qj_join (wc := [(h0, .inr (2, [.int (nI n), .ref a1, .ref a2, .ref a3, .ref a4, .ref a5, .ref a6, .ref a7])), (a1, .inl (cI, n, .inl (qS w))), (a2, .inl (cZ, n, .inl (qZ z))), (a3, .inl (cI, n, .inl (qS lo))), (a4, .inl (cI, 4, .inl (qS su))), (a5, .inl (cI, 4, .inl (qN da))), (a6, .inl (cI, 4, .inl (qS ch))), (a7, .inl (cI, 4, .inl (qS we)))]) (w1 := [(h0, .inr (2, [.int (nI n), .ref a1, .ref a2, .ref a3, .ref a4, .ref a5, .ref a6, .ref a7])), (a1, .inl (cI, n, .inl (qS w))), (a2, .inl (cZ, n, .inl (qZ z))), (a3, .inl (cI, n, .inl (qS lo))), (a4, .inl (cI, 4, .inl (qS (qm_su n w su 4)))), (a5, .inl (cI, 4, .inl (qN da))), (a6, .inl (cI, 4, .inl (qS ch))), (a7, .inl (cI, 4, .inl (qS we)))]) hP hD [0, 1, 2, 3, 4, 5, 6, 7] rfl rfl hk1 hP1
  generalize H1 = H at hP hS ⊢
  have hP : va_P (dC, dI) vwCl [(h0, .inr (2, [.int (nI n), .ref a1, .ref a2, .ref a3, .ref a4, .ref a5, .ref a6, .ref a7])), (a1, .inl (cI, n, .inl (qS w))), (a2, .inl (cZ, n, .inl (qZ z))), (a3, .inl (cI, n, .inl (qS lo))), (a4, .inl (cI, 4, .inl (qS (qm_su n w su 4)))), (a5, .inl (cI, 4, .inl (qN da))), (a6, .inl (cI, 4, .inl (qS ch))), (a7, .inl (cI, 4, .inl (qS we)))] H := hP
  have hD : va_D A [(h0, .inr (2, [.int (nI n), .ref a1, .ref a2, .ref a3, .ref a4, .ref a5, .ref a6, .ref a7])), (a1, .inl (cI, n, .inl (qS w))), (a2, .inl (cZ, n, .inl (qZ z))), (a3, .inl (cI, n, .inl (qS lo))), (a4, .inl (cI, 4, .inl (qS (qm_su n w su 4)))), (a5, .inl (cI, 4, .inl (qN da))), (a6, .inl (cI, 4, .inl (qS ch))), (a7, .inl (cI, 4, .inl (qS we)))] := hD
  refine lv_iconst (v := nI 0) hx hb dX3_isWord_4 (by decide) ?_
  refine lv_istore_n (lv' := [(1, .int (nI 0)), (0, .ref h0)]) hx hb dX3_isWord_5 rfl hl (by decide) rfl (fun ls hl => ?_)
  have lp6 : ∀ (j k : Nat), k + j = 4 → ∀  (ls : Array Slot) (H : Heap) (locs : List Loc), lv_has ls 2 [(0, .ref h0), (1, .int (nI k))] → va_P (dC, dI) vwCl [(h0, .inr (2, [.int (nI n), .ref a1, .ref a2, .ref a3, .ref a4, .ref a5, .ref a6, .ref a7])), (a1, .inl (cI, n, .inl (qS w))), (a2, .inl (cZ, n, .inl (qZ z))), (a3, .inl (cI, n, .inl (qS lo))), (a4, .inl (cI, 4, .inl (qS (qm_su n w su 4)))), (a5, .inl (cI, 4, .inl (qN da))), (a6, .inl (cI, 4, .inl (qS ch))), (a7, .inl (cI, 4, .inl (qS we)))] H → va_D A [(h0, .inr (2, [.int (nI n), .ref a1, .ref a2, .ref a3, .ref a4, .ref a5, .ref a6, .ref a7])), (a1, .inl (cI, n, .inl (qS w))), (a2, .inl (cZ, n, .inl (qZ z))), (a3, .inl (cI, n, .inl (qS lo))), (a4, .inl (cI, 4, .inl (qS (qm_su n w su 4)))), (a5, .inl (cI, 4, .inl (qN da))), (a6, .inl (cI, 4, .inl (qS ch))), (a7, .inl (cI, 4, .inl (qS we)))] → va_S A s.heap H locs → (∀ j, j < k → qw_S n w j = 0#8) → W p l e (headSpec wsX3_isWord ({ frames := 2, cells := 0, slots := 0, locals := 48 } : Room)).room s m ([.ref h0] : List Value).toArray below meth c H locs 0 0 Q (F0 m 6 ls []) := by
    intro j
    induction j with
    | zero =>
      intro k hk  ls H locs hl hP hD hS hk
      have e9 : 4 = k := by omega
      subst e9
      refine lv_iload_n hx hb dX3_isWord_6 rfl (lv_at hl 1 rfl) ?_
      refine lv_iconst (v := nI 4) hx hb dX3_isWord_7 (by decide) ?_
      refine qr_ge (tgt := 28) hx hb dX3_isWord_8 rfl (by omega) (by omega) (fun b8 => ?_) (fun h => absurd h (by omega))
      refine lv_iconst (v := zI true) hx hb dX3_isWord_28 (by decide) ?_
      subst hQ
      exact W.zret hx hb hr (qr_narZ _) (fun t ht hW => ⟨⟨_, (), rfl, ⟨true, rfl, ⟨fun _ => hk, fun _ => rfl⟩⟩, by rw [ht]; exact hP, va_K.moved hW.alike hK, hD⟩, hS.F ht⟩) hS.2.2 dX3_isWord_29
    | succ j ih =>
      intro k hk  ls H locs hl hP hD hS hk
      have lk : k < 4 := by omega
      refine lv_iload_n hx hb dX3_isWord_6 rfl (lv_at hl 1 rfl) ?_
      refine lv_iconst (v := nI 4) hx hb dX3_isWord_7 (by decide) ?_
      refine qr_ge (tgt := 28) hx hb dX3_isWord_8 rfl (by omega) (by omega) (fun h => absurd h (by omega)) (fun b8 => ?_)
      refine lv_aload_n hx hb dX3_isWord_11 rfl (lv_at hl 0 rfl) ?_
      refine va_get (D := (dC, dI)) (ci := 2) (v := .ref a4) (C := RX3) (T := TX3) (N := 8) hx hb hts i_X3 hown hK hP 0 rfl rfl 4 (by decide) k_26 (fun _ h9 => h9) rfl dX3_isWord_12 ?_
      refine lv_iload_n hx hb dX3_isWord_15 rfl (lv_at hl 1 rfl) ?_
      refine qr_ildS hx hb hK hP 4 0 rfl rfl (by omega) (by omega) dX3_isWord_16 ?_
      refine qr_ifeqS (tgt := 22) hx hb dX3_isWord_17 rfl  (fun b17 => ?_) (fun b17 => ?_)
      · refine lv_iinc (k := 1) (v := nI (k + 1)) (lv' := [(1, .int (nI (k + 1))), (0, .ref h0)]) hx hb dX3_isWord_22 hl rfl (qr_inc _) (by decide) rfl (fun ls hl => ?_)
        refine lv_goto (tgt := 6) hx hb dX3_isWord_25 rfl ?_
        have hl := lv_sub (l' := [(0, .ref h0), (1, .int (nI (k + 1)))]) hl [1, 0] rfl
        exact ih (k + 1) (by omega)  ls H _ (by exact hl) (by exact hP) (by exact hD) hS (lt_s hk (by rw [← qm_su_at (su := su) (m := 4) (by omega)]; exact b17))
      · refine lv_iconst (v := zI false) hx hb dX3_isWord_20 (by decide) ?_
        subst hQ
        exact W.zret hx hb hr (qr_narZ _) (fun t ht hW => ⟨⟨_, (), rfl, ⟨false, rfl, ⟨fun h => Bool.noConfusion h, fun h => absurd ((qm_su_at (su := su) (m := 4) (by omega)).trans (h k (by omega))) b17⟩⟩, by rw [ht]; exact hP, va_K.moved hW.alike hK, hD⟩, hS.F ht⟩) hS.2.2 dX3_isWord_21
  have hl := lv_sub (l' := [(0, .ref h0), (1, .int (nI 0))]) hl [1, 0] rfl
  exact lp6 4 0 (by omega)  ls H _ hl hP hD hS (fun _ h => absurd h (Nat.not_lt_zero _))
set_option maxHeartbeats 4000000 in
set_option maxRecDepth 100000 in
/-- Word.isOnlyFault -/
theorem qc_isOnlyFault (l : Launch) (dC : Nat → ClassId) (dI : Nat → Nat → Nat) (cI cZ : ClassId) (h0 a1 a2 a3 a4 a5 a6 a7 n : Nat) (w : Nat → BitVec 8) (z : Nat → Bool) (lo su : Nat → BitVec 8) (da : Nat → Nat) (ch we : Nat → BitVec 8) (x : Nat) (hn : n ≤ 16) (hx0 : x < n) : Met l yX3_isOnlyFault wsX3_isOnlyFault ({ frames := 1, cells := 0, slots := 0, locals := 24 } : Room) (va_Pc [.ref h0, .int (nI x)] (fun U => va_P (dC, dI) vwCl [(h0, .inr (2, [.int (nI n), .ref a1, .ref a2, .ref a3, .ref a4, .ref a5, .ref a6, .ref a7])), (a1, .inl (cI, n, .inl (qS w))), (a2, .inl (cZ, n, .inl (qZ z))), (a3, .inl (cI, n, .inl (qS lo))), (a4, .inl (cI, 4, .inl (qS su))), (a5, .inl (cI, 4, .inl (qN da))), (a6, .inl (cI, 4, .inl (qS ch))), (a7, .inl (cI, 4, .inl (qS we)))] U.heap ∧ va_K (dC, dI) vwCl [(cI, .int), (cZ, .boolean)] U)) (vp_Si (fun r => ∃ b : Bool, r = zI b ∧ (b = true ↔ ∀ k, 0 < k → k < 4 → qf_m (su 0) (qf_p (lo x) k) = su k))) 0 0 (fun _ => False) := by
  refine Met.ofW (cc := cX3_isOnlyFault) (maxL := 4) (ret := (some .boolean)) (by decide) rfl ?_
  intro p e s m args below meth c s₁ B hml hv
  obtain ⟨rfl, hP, hK⟩ := hv
  have hx := B.exec
  have hb := B.bytes
  have hr := B.returns
  have hts := atoms_spec (ws := wsX3_isOnlyFault) B.pre
  have hown : s.vm.findClass RX3 = some m.cls := findClass_of_methodNamed B.named
  have hlocks := B.notSynchronized
  have hP : va_P (dC, dI) vwCl [(h0, .inr (2, [.int (nI n), .ref a1, .ref a2, .ref a3, .ref a4, .ref a5, .ref a6, .ref a7])), (a1, .inl (cI, n, .inl (qS w))), (a2, .inl (cZ, n, .inl (qZ z))), (a3, .inl (cI, n, .inl (qS lo))), (a4, .inl (cI, 4, .inl (qS su))), (a5, .inl (cI, 4, .inl (qN da))), (a6, .inl (cI, 4, .inl (qS ch))), (a7, .inl (cI, 4, .inl (qS we)))] s.heap := hP
  have hl := lv_entry ([.ref h0, .int (nI x)]) (n := 4) (Nat.le_of_ble_eq_true rfl)
  rw [lg_entry_eq]
  generalize (lg_sl ([.ref h0, .int (nI x)]) ++ List.replicate (4 - (lg_sl ([.ref h0, .int (nI x)])).length) Slot.unset).toArray = ls at hl ⊢
  have hl : lv_has ls 4 [(0, .ref h0), (1, .int (nI x))] := hl
  have k_26 := hts (.fieldLink RX3 26 "DiscCoder$Word" "sums" "[I") (by decide +kernel)
  have k_23 := hts (.fieldLink RX3 23 "DiscCoder$Word" "locators" "[I") (by decide +kernel)
  have i_X3 : ∀ w ∈ u_ws RX3 TX3 8, w ∈ wsX3_isOnlyFault := by decide +kernel
  refine qr_nm (fun Q hQ => ?_)
  refine lv_aload_n hx hb dX3_isOnlyFault_0 rfl (lv_at hl 0 rfl) ?_
  refine va_get (D := (dC, dI)) (ci := 2) (v := .ref a4) (C := RX3) (T := TX3) (N := 8) hx hb hts i_X3 hown hK hP 0 rfl rfl 4 (by decide) k_26 (fun _ h9 => h9) rfl dX3_isOnlyFault_1 ?_
  refine lv_iconst (v := nI 0) hx hb dX3_isOnlyFault_4 (by decide) ?_
  refine qr_ildS hx hb hK hP 4 0 rfl rfl (by omega) (by omega) dX3_isOnlyFault_5 ?_
  refine lv_istore_n (lv' := [(2, .int (sI (su 0))), (0, .ref h0), (1, .int (nI x))]) hx hb dX3_isOnlyFault_6 rfl hl (by decide) rfl (fun ls hl => ?_)
  refine lv_iconst (v := nI 1) hx hb dX3_isOnlyFault_7 (by decide) ?_
  refine lv_istore_n (lv' := [(3, .int (nI 1)), (2, .int (sI (su 0))), (0, .ref h0), (1, .int (nI x))]) hx hb dX3_isOnlyFault_8 rfl hl (by decide) rfl (fun ls hl => ?_)
  have lp9 : ∀ (j i : Nat), i + j = 3 → ∀  (ls : Array Slot) , lv_has ls 4 [(0, .ref h0), (1, .int (nI x)), (2, .int (sI (qm_ex (su 0) (lo x) i))), (3, .int (nI (i + 1)))] → (∀ k, 0 < k → k < i + 1 → qf_m (su 0) (qf_p (lo x) k) = su k) → W p l e (headSpec wsX3_isOnlyFault ({ frames := 1, cells := 0, slots := 0, locals := 24 } : Room)).room s m ([.ref h0, .int (nI x)] : List Value).toArray below meth c s.heap [] 0 0 Q (F0 m 9 ls []) := by
    intro j
    induction j with
    | zero =>
      intro i hi  ls hl hk
      have e9 : 3 = i := by omega
      subst e9
      refine lv_iload_n hx hb dX3_isOnlyFault_9 rfl (lv_at hl 3 rfl) ?_
      refine lv_iconst (v := nI 4) hx hb dX3_isOnlyFault_10 (by decide) ?_
      refine qr_ge (tgt := 43) hx hb dX3_isOnlyFault_11 rfl (by omega) (by omega) (fun b11 => ?_) (fun h => absurd h (by omega))
      refine lv_iconst (v := zI true) hx hb dX3_isOnlyFault_43 (by decide) ?_
      subst hQ
      exact W.zret hx hb hr (qr_narZ _) (fun t ht hW => ⟨_, rfl, ⟨true, rfl, ⟨fun _ => hk, fun _ => rfl⟩⟩, ht⟩) (fun _ h => absurd h List.not_mem_nil) dX3_isOnlyFault_44
    | succ j ih =>
      intro i hi  ls hl hk
      have li : i < 3 := by omega
      refine lv_iload_n hx hb dX3_isOnlyFault_9 rfl (lv_at hl 3 rfl) ?_
      refine lv_iconst (v := nI 4) hx hb dX3_isOnlyFault_10 (by decide) ?_
      refine qr_ge (tgt := 43) hx hb dX3_isOnlyFault_11 rfl (by omega) (by omega) (fun h => absurd h (by omega)) (fun b11 => ?_)
      refine lv_iload_n hx hb dX3_isOnlyFault_14 rfl (lv_at hl 2 rfl) ?_
      refine lv_aload_n hx hb dX3_isOnlyFault_15 rfl (lv_at hl 0 rfl) ?_
      refine va_get (D := (dC, dI)) (ci := 2) (v := .ref a3) (C := RX3) (T := TX3) (N := 8) hx hb hts i_X3 hown hK hP 0 rfl rfl 3 (by decide) k_23 (fun _ h9 => h9) rfl dX3_isOnlyFault_16 ?_
      refine lv_iload_n hx hb dX3_isOnlyFault_19 rfl (lv_at hl 1 rfl) ?_
      refine qr_ildS hx hb hK hP 3 0 rfl rfl (by omega) (by omega) dX3_isOnlyFault_20 ?_
      refine vp_callSi (va_Run.run (va_runS (As := [.int (sI (qm_ex (su 0) (lo x) i)), .int (sI (lo x))]) (rest := []) ⟨hx, hb, hml, hown, hts⟩ (qc_times l (qm_ex (su 0) (lo x) i) (lo x) ) (va_cwS 2 hts gX3_isOnlyFault_X1_times rfl rfl rfl (by decide +kernel) ⟨Nat.le_of_ble_eq_true rfl, Nat.le_of_ble_eq_true rfl⟩) ⟨fun a U g mk q => q, fun U hU hW => ⟨rfl, trivial⟩⟩ rfl rfl hl.1 rfl (lv_room (Nat.le_of_ble_eq_true rfl)) dX3_isOnlyFault_21 ⟨Nat.le_of_ble_eq_true rfl, Nat.le_of_ble_eq_true rfl⟩)) (fun r21 hr21 => ?_)
      have hr21 : r21 = sI (qf_m (qm_ex (su 0) (lo x) i) (lo x)) := hr21
      subst hr21
      refine lv_istore_n (lv' := [(2, .int (sI (qf_m (qm_ex (su 0) (lo x) i) (lo x)))), (0, .ref h0), (1, .int (nI x)), (3, .int (nI (i + 1)))]) hx hb dX3_isOnlyFault_24 rfl hl (by decide) rfl (fun ls hl => ?_)
      refine lv_iload_n hx hb dX3_isOnlyFault_25 rfl (lv_at hl 0 rfl) ?_
      refine lv_aload_n hx hb dX3_isOnlyFault_26 rfl (lv_at hl 1 rfl) ?_
      refine va_get (D := (dC, dI)) (ci := 2) (v := .ref a4) (C := RX3) (T := TX3) (N := 8) hx hb hts i_X3 hown hK hP 0 rfl rfl 4 (by decide) k_26 (fun _ h9 => h9) rfl dX3_isOnlyFault_27 ?_
      refine lv_iload_n hx hb dX3_isOnlyFault_30 rfl (lv_at hl 3 rfl) ?_
      refine qr_ildS hx hb hK hP 4 0 rfl rfl (by omega) (by omega) dX3_isOnlyFault_31 ?_
      refine qr_eqS (tgt := 37) hx hb dX3_isOnlyFault_32 rfl  (fun b32 => ?_) (fun b32 => ?_)
      · refine lv_iinc (k := 3) (v := nI ((i + 1) + 1)) (lv' := [(3, .int (nI ((i + 1) + 1))), (2, .int (sI (qf_m (qm_ex (su 0) (lo x) i) (lo x)))), (0, .ref h0), (1, .int (nI x))]) hx hb dX3_isOnlyFault_37 hl rfl (qr_inc _) (by decide) rfl (fun ls hl => ?_)
        refine lv_goto (tgt := 9) hx hb dX3_isOnlyFault_40 rfl ?_
        have hl := lv_sub (l' := [(0, .ref h0), (1, .int (nI x)), (2, .int (sI (qf_m (qm_ex (su 0) (lo x) i) (lo x)))), (3, .int (nI ((i + 1) + 1)))]) hl [2, 3, 1, 0] rfl
        have e1 : qm_ex (su 0) (lo x) (i + 1) = qf_m (qm_ex (su 0) (lo x) i) (lo x) := by first | rfl | (simp only [cond_true, cond_false])
        exact ih (i + 1) (by omega)  ls (by rw [e1]; exact hl) (fun k h1 h2 => if e9 : k = i + 1 then (by rw [e9, ← qm_ex_p]; exact b32) else hk k h1 (by omega))
      · refine lv_iconst (v := zI false) hx hb dX3_isOnlyFault_35 (by decide) ?_
        subst hQ
        exact W.zret hx hb hr (qr_narZ _) (fun t ht hW => ⟨_, rfl, ⟨false, rfl, ⟨fun h => Bool.noConfusion h, fun h => absurd ((qm_ex_p _ _ _).trans (h (i + 1) (by omega) (by omega))) b32⟩⟩, ht⟩) (fun _ h => absurd h List.not_mem_nil) dX3_isOnlyFault_36
  have hl := lv_sub (l' := [(0, .ref h0), (1, .int (nI x)), (2, .int (sI (su 0))), (3, .int (nI 1))]) hl [2, 3, 1, 0] rfl
  exact lp9 3 0 (by omega)  ls hl (fun k h1 h2 => absurd h1 (by omega))
set_option maxHeartbeats 4000000 in
set_option maxRecDepth 100000 in
/-- Word.countDoubted -/
theorem qc_count (l : Launch) (dC : Nat → ClassId) (dI : Nat → Nat → Nat) (cI cZ : ClassId) (h0 a1 a2 a3 a4 a5 a6 a7 n : Nat) (w : Nat → BitVec 8) (z : Nat → Bool) (lo su : Nat → BitVec 8) (da : Nat → Nat) (ch we : Nat → BitVec 8) (hn : n ≤ 16) : Met l yX3_countDoubted wsX3_countDoubted ({ frames := 0, cells := 0, slots := 0, locals := 0 } : Room) (va_Pc [.ref h0] (fun U => va_P (dC, dI) vwCl [(h0, .inr (2, [.int (nI n), .ref a1, .ref a2, .ref a3, .ref a4, .ref a5, .ref a6, .ref a7])), (a1, .inl (cI, n, .inl (qS w))), (a2, .inl (cZ, n, .inl (qZ z))), (a3, .inl (cI, n, .inl (qS lo))), (a4, .inl (cI, 4, .inl (qS su))), (a5, .inl (cI, 4, .inl (qN da))), (a6, .inl (cI, 4, .inl (qS ch))), (a7, .inl (cI, 4, .inl (qS we)))] U.heap ∧ va_K (dC, dI) vwCl [(cI, .int), (cZ, .boolean)] U)) (vp_Si (fun r => r = nI (qd_c z n))) 0 0 (fun _ => False) := by
  refine Met.ofW (cc := cX3_countDoubted) (maxL := 3) (ret := (some .int)) (by decide) rfl ?_
  intro p e s m args below meth c s₁ B hml hv
  obtain ⟨rfl, hP, hK⟩ := hv
  have hx := B.exec
  have hb := B.bytes
  have hr := B.returns
  have hts := atoms_spec (ws := wsX3_countDoubted) B.pre
  have hown : s.vm.findClass RX3 = some m.cls := findClass_of_methodNamed B.named
  have hlocks := B.notSynchronized
  have hP : va_P (dC, dI) vwCl [(h0, .inr (2, [.int (nI n), .ref a1, .ref a2, .ref a3, .ref a4, .ref a5, .ref a6, .ref a7])), (a1, .inl (cI, n, .inl (qS w))), (a2, .inl (cZ, n, .inl (qZ z))), (a3, .inl (cI, n, .inl (qS lo))), (a4, .inl (cI, 4, .inl (qS su))), (a5, .inl (cI, 4, .inl (qN da))), (a6, .inl (cI, 4, .inl (qS ch))), (a7, .inl (cI, 4, .inl (qS we)))] s.heap := hP
  have hl := lv_entry ([.ref h0]) (n := 3) (Nat.le_of_ble_eq_true rfl)
  rw [lg_entry_eq]
  generalize (lg_sl ([.ref h0]) ++ List.replicate (3 - (lg_sl ([.ref h0])).length) Slot.unset).toArray = ls at hl ⊢
  have hl : lv_has ls 3 [(0, .ref h0)] := hl
  have k_9 := hts (.fieldLink RX3 9 "DiscCoder$Word" "size" "I") (by decide +kernel)
  have k_19 := hts (.fieldLink RX3 19 "DiscCoder$Word" "doubted" "[Z") (by decide +kernel)
  have i_X3 : ∀ w ∈ u_ws RX3 TX3 8, w ∈ wsX3_countDoubted := by decide +kernel
  refine qr_nm (fun Q hQ => ?_)
  refine lv_iconst (v := nI 0) hx hb dX3_countDoubted_0 (by decide) ?_
  refine lv_istore_n (lv' := [(1, .int (nI 0)), (0, .ref h0)]) hx hb dX3_countDoubted_1 rfl hl (by decide) rfl (fun ls hl => ?_)
  refine lv_iconst (v := nI 0) hx hb dX3_countDoubted_2 (by decide) ?_
  refine lv_istore_n (lv' := [(2, .int (nI 0)), (1, .int (nI 0)), (0, .ref h0)]) hx hb dX3_countDoubted_3 rfl hl (by decide) rfl (fun ls hl => ?_)
  have lp4 : ∀ (j i : Nat), i + j = n → ∀  (ls : Array Slot) , lv_has ls 3 [(0, .ref h0), (1, .int (nI (qd_c z i))), (2, .int (nI i))] → W p l e (headSpec wsX3_countDoubted ({ frames := 0, cells := 0, slots := 0, locals := 0 } : Room)).room s m ([.ref h0] : List Value).toArray below meth c s.heap [] 0 0 Q (F0 m 4 ls []) := by
    intro j
    induction j with
    | zero =>
      intro i hi  ls hl
      have e9 : n = i := by omega
      subst e9
      have hq9 := qd_c_le z n
      refine lv_iload_n hx hb dX3_countDoubted_4 rfl (lv_at hl 2 rfl) ?_
      refine lv_aload_n hx hb dX3_countDoubted_5 rfl (lv_at hl 0 rfl) ?_
      refine va_get (D := (dC, dI)) (ci := 2) (v := .int (nI n)) (C := RX3) (T := TX3) (N := 8) hx hb hts i_X3 hown hK hP 0 rfl rfl 0 (by decide) k_9 (fun _ h9 => h9) rfl dX3_countDoubted_6 ?_
      refine qr_ge (tgt := 30) hx hb dX3_countDoubted_9 rfl (by omega) (by omega) (fun b9 => ?_) (fun h => absurd h (by omega))
      refine lv_iload_n hx hb dX3_countDoubted_30 rfl (lv_at hl 1 rfl) ?_
      subst hQ
      exact W.iret hx hb hr (fun t ht hW => ⟨_, rfl, rfl, ht⟩) (fun _ h => absurd h List.not_mem_nil) dX3_countDoubted_31
    | succ j ih =>
      intro i hi  ls hl
      have li : i < n := by omega
      have hq9 := qd_c_le z i
      refine lv_iload_n hx hb dX3_countDoubted_4 rfl (lv_at hl 2 rfl) ?_
      refine lv_aload_n hx hb dX3_countDoubted_5 rfl (lv_at hl 0 rfl) ?_
      refine va_get (D := (dC, dI)) (ci := 2) (v := .int (nI n)) (C := RX3) (T := TX3) (N := 8) hx hb hts i_X3 hown hK hP 0 rfl rfl 0 (by decide) k_9 (fun _ h9 => h9) rfl dX3_countDoubted_6 ?_
      refine qr_ge (tgt := 30) hx hb dX3_countDoubted_9 rfl (by omega) (by omega) (fun h => absurd h (by omega)) (fun b9 => ?_)
      refine lv_aload_n hx hb dX3_countDoubted_12 rfl (lv_at hl 0 rfl) ?_
      refine va_get (D := (dC, dI)) (ci := 2) (v := .ref a2) (C := RX3) (T := TX3) (N := 8) hx hb hts i_X3 hown hK hP 0 rfl rfl 2 (by decide) k_19 (fun _ h9 => h9) rfl dX3_countDoubted_13 ?_
      refine lv_iload_n hx hb dX3_countDoubted_16 rfl (lv_at hl 2 rfl) ?_
      refine qr_zld hx hb hK hP 2 1 rfl rfl (by omega) (by omega) dX3_countDoubted_17 ?_
      refine qr_ifeqZ (tgt := 24) hx hb dX3_countDoubted_18 rfl  (fun b18 => ?_) (fun b18 => ?_)
      · refine lv_iinc (k := 2) (v := nI (i + 1)) (lv' := [(2, .int (nI (i + 1))), (0, .ref h0), (1, .int (nI (qd_c z i)))]) hx hb dX3_countDoubted_24 hl rfl (qr_inc _) (by decide) rfl (fun ls hl => ?_)
        refine lv_goto (tgt := 4) hx hb dX3_countDoubted_27 rfl ?_
        have hl := lv_sub (l' := [(0, .ref h0), (1, .int (nI (qd_c z i))), (2, .int (nI (i + 1)))]) hl [1, 2, 0] rfl
        have e1 : qd_c z (i + 1) = qd_c z i := by simp only [qd_c, b18, cond_true, cond_false]
        exact ih (i + 1) (by omega)  ls (by rw [e1]; exact hl) 
      · refine lv_iinc (k := 1) (v := nI ((qd_c z i) + 1)) (lv' := [(1, .int (nI ((qd_c z i) + 1))), (0, .ref h0), (2, .int (nI i))]) hx hb dX3_countDoubted_21 hl rfl (qr_inc _) (by decide) rfl (fun ls hl => ?_)
        refine lv_iinc (k := 2) (v := nI (i + 1)) (lv' := [(2, .int (nI (i + 1))), (1, .int (nI ((qd_c z i) + 1))), (0, .ref h0)]) hx hb dX3_countDoubted_24 hl rfl (qr_inc _) (by decide) rfl (fun ls hl => ?_)
        refine lv_goto (tgt := 4) hx hb dX3_countDoubted_27 rfl ?_
        have hl := lv_sub (l' := [(0, .ref h0), (1, .int (nI ((qd_c z i) + 1))), (2, .int (nI (i + 1)))]) hl [2, 1, 0] rfl
        have e2 : qd_c z (i + 1) = (qd_c z i) + 1 := by simp only [qd_c, b18, cond_true, cond_false]
        exact ih (i + 1) (by omega)  ls (by rw [e2]; exact hl) 
  have hl := lv_sub (l' := [(0, .ref h0), (1, .int (nI 0)), (2, .int (nI 0))]) hl [2, 1, 0] rfl
  exact lp4 n 0 (by omega)  ls hl 
set_option maxHeartbeats 4000000 in
set_option maxRecDepth 100000 in
/-- Word.listDoubted -/
theorem qc_list (l : Launch) (dC : Nat → ClassId) (dI : Nat → Nat → Nat) (cI cZ : ClassId) (h0 a1 a2 a3 a4 a5 a6 a7 n : Nat) (w : Nat → BitVec 8) (z : Nat → Bool) (lo su : Nat → BitVec 8) (da : Nat → Nat) (ch we : Nat → BitVec 8) (sz : Nat) (hn : n ≤ 16) (hm : qd_c z n ≤ 4) : Met l yX3_listDoubted wsX3_listDoubted ({ frames := 0, cells := 0, slots := 0, locals := 0 } : Room) (va_Pc [.ref h0] (fun U => U.heap.size = sz ∧ va_P (dC, dI) vwCl [(h0, .inr (2, [.int (nI n), .ref a1, .ref a2, .ref a3, .ref a4, .ref a5, .ref a6, .ref a7])), (a1, .inl (cI, n, .inl (qS w))), (a2, .inl (cZ, n, .inl (qZ z))), (a3, .inl (cI, n, .inl (qS lo))), (a4, .inl (cI, 4, .inl (qS su))), (a5, .inl (cI, 4, .inl (qN da))), (a6, .inl (cI, 4, .inl (qS ch))), (a7, .inl (cI, 4, .inl (qS we)))] U.heap ∧ va_K (dC, dI) vwCl [(cI, .int), (cZ, .boolean)] U ∧ va_D (fun _ => True) [(h0, .inr (2, [.int (nI n), .ref a1, .ref a2, .ref a3, .ref a4, .ref a5, .ref a6, .ref a7])), (a1, .inl (cI, n, .inl (qS w))), (a2, .inl (cZ, n, .inl (qZ z))), (a3, .inl (cI, n, .inl (qS lo))), (a4, .inl (cI, 4, .inl (qS su))), (a5, .inl (cI, 4, .inl (qN da))), (a6, .inl (cI, 4, .inl (qS ch))), (a7, .inl (cI, 4, .inl (qS we)))])) (va_Qv (fun (_ : Unit) => True) (fun _ t => va_P (dC, dI) vwCl [(h0, .inr (2, [.int (nI n), .ref a1, .ref a2, .ref a3, .ref a4, .ref a5, .ref a6, .ref a7])), (a1, .inl (cI, n, .inl (qS w))), (a2, .inl (cZ, n, .inl (qZ z))), (a3, .inl (cI, n, .inl (qS lo))), (a4, .inl (cI, 4, .inl (qS su))), (a5, .inl (cI, 4, .inl (qN (qd_d z da n)))), (a6, .inl (cI, 4, .inl (qS ch))), (a7, .inl (cI, 4, .inl (qS we)))] t.heap ∧ va_K (dC, dI) vwCl [(cI, .int), (cZ, .boolean)] t ∧ va_D (va_A [(h0, .inr (2, [.int (nI n), .ref a1, .ref a2, .ref a3, .ref a4, .ref a5, .ref a6, .ref a7])), (a1, .inl (cI, n, .inl (qS w))), (a2, .inl (cZ, n, .inl (qZ z))), (a3, .inl (cI, n, .inl (qS lo))), (a4, .inl (cI, 4, .inl (qS su))), (a5, .inl (cI, 4, .inl (qN da))), (a6, .inl (cI, 4, .inl (qS ch))), (a7, .inl (cI, 4, .inl (qS we)))] sz) [(h0, .inr (2, [.int (nI n), .ref a1, .ref a2, .ref a3, .ref a4, .ref a5, .ref a6, .ref a7])), (a1, .inl (cI, n, .inl (qS w))), (a2, .inl (cZ, n, .inl (qZ z))), (a3, .inl (cI, n, .inl (qS lo))), (a4, .inl (cI, 4, .inl (qS su))), (a5, .inl (cI, 4, .inl (qN (qd_d z da n)))), (a6, .inl (cI, 4, .inl (qS ch))), (a7, .inl (cI, 4, .inl (qS we)))]) (va_A [(h0, .inr (2, [.int (nI n), .ref a1, .ref a2, .ref a3, .ref a4, .ref a5, .ref a6, .ref a7])), (a1, .inl (cI, n, .inl (qS w))), (a2, .inl (cZ, n, .inl (qZ z))), (a3, .inl (cI, n, .inl (qS lo))), (a4, .inl (cI, 4, .inl (qS su))), (a5, .inl (cI, 4, .inl (qN da))), (a6, .inl (cI, 4, .inl (qS ch))), (a7, .inl (cI, 4, .inl (qS we)))] sz)) 0 0 (va_A [(h0, .inr (2, [.int (nI n), .ref a1, .ref a2, .ref a3, .ref a4, .ref a5, .ref a6, .ref a7])), (a1, .inl (cI, n, .inl (qS w))), (a2, .inl (cZ, n, .inl (qZ z))), (a3, .inl (cI, n, .inl (qS lo))), (a4, .inl (cI, 4, .inl (qS su))), (a5, .inl (cI, 4, .inl (qN da))), (a6, .inl (cI, 4, .inl (qS ch))), (a7, .inl (cI, 4, .inl (qS we)))] sz) := by
  refine Met.ofW (cc := cX3_listDoubted) (maxL := 3) (ret := none) (by decide) rfl ?_
  intro p e s m args below meth c s₁ B hml hv
  obtain ⟨rfl, hsz, hP, hK, hD0⟩ := hv
  have hx := B.exec
  have hb := B.bytes
  have hr := B.returns
  have hts := atoms_spec (ws := wsX3_listDoubted) B.pre
  have hown : s.vm.findClass RX3 = some m.cls := findClass_of_methodNamed B.named
  have hlocks := B.notSynchronized
  subst hsz
  have hD := hD0.self (sz := s.heap.size)
  generalize hAe : va_A [(h0, .inr (2, [.int (nI n), .ref a1, .ref a2, .ref a3, .ref a4, .ref a5, .ref a6, .ref a7])), (a1, .inl (cI, n, .inl (qS w))), (a2, .inl (cZ, n, .inl (qZ z))), (a3, .inl (cI, n, .inl (qS lo))), (a4, .inl (cI, 4, .inl (qS su))), (a5, .inl (cI, 4, .inl (qN da))), (a6, .inl (cI, 4, .inl (qS ch))), (a7, .inl (cI, 4, .inl (qS we)))] s.heap.size = A at hD ⊢
  have hA : ∀ q : Nat, s.heap.size ≤ q → A q := fun q h => by rw [← hAe]; exact Or.inr h
  have hS : va_S A s.heap s.heap [] := va_S.rf
  have hP : va_P (dC, dI) vwCl [(h0, .inr (2, [.int (nI n), .ref a1, .ref a2, .ref a3, .ref a4, .ref a5, .ref a6, .ref a7])), (a1, .inl (cI, n, .inl (qS w))), (a2, .inl (cZ, n, .inl (qZ z))), (a3, .inl (cI, n, .inl (qS lo))), (a4, .inl (cI, 4, .inl (qS su))), (a5, .inl (cI, 4, .inl (qN da))), (a6, .inl (cI, 4, .inl (qS ch))), (a7, .inl (cI, 4, .inl (qS we)))] s.heap := hP
  have hl := lv_entry ([.ref h0]) (n := 3) (Nat.le_of_ble_eq_true rfl)
  rw [lg_entry_eq]
  generalize (lg_sl ([.ref h0]) ++ List.replicate (3 - (lg_sl ([.ref h0])).length) Slot.unset).toArray = ls at hl ⊢
  have hl : lv_has ls 3 [(0, .ref h0)] := hl
  have k_9 := hts (.fieldLink RX3 9 "DiscCoder$Word" "size" "I") (by decide +kernel)
  have k_19 := hts (.fieldLink RX3 19 "DiscCoder$Word" "doubted" "[Z") (by decide +kernel)
  have k_29 := hts (.fieldLink RX3 29 "DiscCoder$Word" "doubtedAt" "[I") (by decide +kernel)
  have i_X3 : ∀ w ∈ u_ws RX3 TX3 8, w ∈ wsX3_listDoubted := by decide +kernel
  refine qr_nm (fun Q hQ => ?_)
  refine lv_iconst (v := nI 0) hx hb dX3_listDoubted_0 (by decide) ?_
  refine lv_istore_n (lv' := [(1, .int (nI 0)), (0, .ref h0)]) hx hb dX3_listDoubted_1 rfl hl (by decide) rfl (fun ls hl => ?_)
  refine lv_iconst (v := nI 0) hx hb dX3_listDoubted_2 (by decide) ?_
  refine lv_istore_n (lv' := [(2, .int (nI 0)), (1, .int (nI 0)), (0, .ref h0)]) hx hb dX3_listDoubted_3 rfl hl (by decide) rfl (fun ls hl => ?_)
  have lp4 : ∀ (j i : Nat), i + j = n → ∀  (ls : Array Slot) (H : Heap) (locs : List Loc), lv_has ls 3 [(0, .ref h0), (1, .int (nI (qd_c z i))), (2, .int (nI i))] → va_P (dC, dI) vwCl [(h0, .inr (2, [.int (nI n), .ref a1, .ref a2, .ref a3, .ref a4, .ref a5, .ref a6, .ref a7])), (a1, .inl (cI, n, .inl (qS w))), (a2, .inl (cZ, n, .inl (qZ z))), (a3, .inl (cI, n, .inl (qS lo))), (a4, .inl (cI, 4, .inl (qS su))), (a5, .inl (cI, 4, .inl (qN (qd_d z da i)))), (a6, .inl (cI, 4, .inl (qS ch))), (a7, .inl (cI, 4, .inl (qS we)))] H → va_D A [(h0, .inr (2, [.int (nI n), .ref a1, .ref a2, .ref a3, .ref a4, .ref a5, .ref a6, .ref a7])), (a1, .inl (cI, n, .inl (qS w))), (a2, .inl (cZ, n, .inl (qZ z))), (a3, .inl (cI, n, .inl (qS lo))), (a4, .inl (cI, 4, .inl (qS su))), (a5, .inl (cI, 4, .inl (qN (qd_d z da i)))), (a6, .inl (cI, 4, .inl (qS ch))), (a7, .inl (cI, 4, .inl (qS we)))] → va_S A s.heap H locs → W p l e (headSpec wsX3_listDoubted ({ frames := 0, cells := 0, slots := 0, locals := 0 } : Room)).room s m ([.ref h0] : List Value).toArray below meth c H locs 0 0 Q (F0 m 4 ls []) := by
    intro j
    induction j with
    | zero =>
      intro i hi  ls H locs hl hP hD hS
      have e9 : n = i := by omega
      subst e9
      have hq9 := qd_c_le z n
      refine lv_iload_n hx hb dX3_listDoubted_4 rfl (lv_at hl 2 rfl) ?_
      refine lv_aload_n hx hb dX3_listDoubted_5 rfl (lv_at hl 0 rfl) ?_
      refine va_get (D := (dC, dI)) (ci := 2) (v := .int (nI n)) (C := RX3) (T := TX3) (N := 8) hx hb hts i_X3 hown hK hP 0 rfl rfl 0 (by decide) k_9 (fun _ h9 => h9) rfl dX3_listDoubted_6 ?_
      refine qr_ge (tgt := 42) hx hb dX3_listDoubted_9 rfl (by omega) (by omega) (fun b9 => ?_) (fun h => absurd h (by omega))
      subst hQ
      exact W.vret hx hb hr (fun t ht hW => ⟨⟨(), rfl, trivial, by rw [ht]; exact hP, va_K.moved hW.alike hK, hD⟩, hS.F ht⟩) hS.2.2 dX3_listDoubted_42
    | succ j ih =>
      intro i hi  ls H locs hl hP hD hS
      have li : i < n := by omega
      have hq9 := qd_c_le z i
      refine lv_iload_n hx hb dX3_listDoubted_4 rfl (lv_at hl 2 rfl) ?_
      refine lv_aload_n hx hb dX3_listDoubted_5 rfl (lv_at hl 0 rfl) ?_
      refine va_get (D := (dC, dI)) (ci := 2) (v := .int (nI n)) (C := RX3) (T := TX3) (N := 8) hx hb hts i_X3 hown hK hP 0 rfl rfl 0 (by decide) k_9 (fun _ h9 => h9) rfl dX3_listDoubted_6 ?_
      refine qr_ge (tgt := 42) hx hb dX3_listDoubted_9 rfl (by omega) (by omega) (fun h => absurd h (by omega)) (fun b9 => ?_)
      refine lv_aload_n hx hb dX3_listDoubted_12 rfl (lv_at hl 0 rfl) ?_
      refine va_get (D := (dC, dI)) (ci := 2) (v := .ref a2) (C := RX3) (T := TX3) (N := 8) hx hb hts i_X3 hown hK hP 0 rfl rfl 2 (by decide) k_19 (fun _ h9 => h9) rfl dX3_listDoubted_13 ?_
      refine lv_iload_n hx hb dX3_listDoubted_16 rfl (lv_at hl 2 rfl) ?_
      refine qr_zld hx hb hK hP 2 1 rfl rfl (by omega) (by omega) dX3_listDoubted_17 ?_
      refine qr_ifeqZ (tgt := 36) hx hb dX3_listDoubted_18 rfl  (fun b18 => ?_) (fun b18 => ?_)
      · refine lv_iinc (k := 2) (v := nI (i + 1)) (lv' := [(2, .int (nI (i + 1))), (0, .ref h0), (1, .int (nI (qd_c z i)))]) hx hb dX3_listDoubted_36 hl rfl (qr_inc _) (by decide) rfl (fun ls hl => ?_)
        refine lv_goto (tgt := 4) hx hb dX3_listDoubted_39 rfl ?_
        have hl := lv_sub (l' := [(0, .ref h0), (1, .int (nI (qd_c z i))), (2, .int (nI (i + 1)))]) hl [1, 2, 0] rfl
        have e1 : qd_c z (i + 1) = qd_c z i := by simp only [qd_c, b18, cond_true, cond_false]
        have e2 : qd_d z da (i + 1) = qd_d z da i := by simp only [qd_d, b18, cond_true, cond_false]
        exact ih (i + 1) (by omega)  ls H _ (by rw [e1]; exact hl) (by rw [e2]; exact hP) (by rw [e2]; exact hD) hS 
      · refine lv_iload_n hx hb dX3_listDoubted_21 rfl (lv_at hl 1 rfl) ?_
        refine lv_iconst (v := nI 4) hx hb dX3_listDoubted_22 (by decide) ?_
        refine qr_ge (tgt := 36) hx hb dX3_listDoubted_23 rfl (by omega) (by omega) (fun h => absurd h (by have := qd_c_lt z li b18; omega)) (fun b23 => ?_)
        refine lv_aload_n hx hb dX3_listDoubted_26 rfl (lv_at hl 0 rfl) ?_
        refine va_get (D := (dC, dI)) (ci := 2) (v := .ref a5) (C := RX3) (T := TX3) (N := 8) hx hb hts i_X3 hown hK hP 0 rfl rfl 5 (by decide) k_29 (fun _ h9 => h9) rfl dX3_listDoubted_27 ?_
        refine lv_iload_n hx hb dX3_listDoubted_30 rfl (lv_at hl 1 rfl) ?_
        refine lv_iload_n hx hb dX3_listDoubted_31 rfl (lv_at hl 2 rfl) ?_
        refine qr_istN (x := i) hx hb hK hP hD hS 5 0 rfl rfl (by have := qd_c_lt z li b18; omega) (by omega) dX3_listDoubted_32 (fun H locs hP hD hS => ?_)
        have hP : va_P (dC, dI) vwCl [(h0, .inr (2, [.int (nI n), .ref a1, .ref a2, .ref a3, .ref a4, .ref a5, .ref a6, .ref a7])), (a1, .inl (cI, n, .inl (qS w))), (a2, .inl (cZ, n, .inl (qZ z))), (a3, .inl (cI, n, .inl (qS lo))), (a4, .inl (cI, 4, .inl (qS su))), (a5, .inl (cI, 4, .inl (qN (va_up (qd_d z da i) (qd_c z i) i)))), (a6, .inl (cI, 4, .inl (qS ch))), (a7, .inl (cI, 4, .inl (qS we)))] H := hP
        have hD : va_D A [(h0, .inr (2, [.int (nI n), .ref a1, .ref a2, .ref a3, .ref a4, .ref a5, .ref a6, .ref a7])), (a1, .inl (cI, n, .inl (qS w))), (a2, .inl (cZ, n, .inl (qZ z))), (a3, .inl (cI, n, .inl (qS lo))), (a4, .inl (cI, 4, .inl (qS su))), (a5, .inl (cI, 4, .inl (qN (va_up (qd_d z da i) (qd_c z i) i)))), (a6, .inl (cI, 4, .inl (qS ch))), (a7, .inl (cI, 4, .inl (qS we)))] := hD
        refine lv_iinc (k := 1) (v := nI ((qd_c z i) + 1)) (lv' := [(1, .int (nI ((qd_c z i) + 1))), (0, .ref h0), (2, .int (nI i))]) hx hb dX3_listDoubted_33 hl rfl (qr_inc _) (by decide) rfl (fun ls hl => ?_)
        refine lv_iinc (k := 2) (v := nI (i + 1)) (lv' := [(2, .int (nI (i + 1))), (1, .int (nI ((qd_c z i) + 1))), (0, .ref h0)]) hx hb dX3_listDoubted_36 hl rfl (qr_inc _) (by decide) rfl (fun ls hl => ?_)
        refine lv_goto (tgt := 4) hx hb dX3_listDoubted_39 rfl ?_
        have hl := lv_sub (l' := [(0, .ref h0), (1, .int (nI ((qd_c z i) + 1))), (2, .int (nI (i + 1)))]) hl [2, 1, 0] rfl
        have e3 : qd_c z (i + 1) = (qd_c z i) + 1 := by simp only [qd_c, b18, cond_true, cond_false]
        have e4 : qd_d z da (i + 1) = va_up (qd_d z da i) (qd_c z i) i := by simp only [qd_d, b18, cond_true, cond_false]
        exact ih (i + 1) (by omega)  ls H _ (by rw [e3]; exact hl) (by rw [e4]; exact hP) (by rw [e4]; exact hD) hS 
  have hl := lv_sub (l' := [(0, .ref h0), (1, .int (nI 0)), (2, .int (nI 0))]) hl [2, 1, 0] rfl
  exact lp4 n 0 (by omega)  ls s.heap _ hl hP hD hS 
set_option maxHeartbeats 4000000 in
set_option maxRecDepth 100000 in
/-- Word.addChanges -/
theorem qc_add (l : Launch) (dC : Nat → ClassId) (dI : Nat → Nat → Nat) (cI cZ : ClassId) (h0 a1 a2 a3 a4 a5 a6 a7 n : Nat) (w : Nat → BitVec 8) (z : Nat → Bool) (lo su : Nat → BitVec 8) (da : Nat → Nat) (ch we : Nat → BitVec 8) (mm : Nat) (sz : Nat) (hn : n ≤ 16) (hm : mm ≤ 4) (hd : ∀ c, c < mm → da c < n) : Met l yX3_addChanges wsX3_addChanges ({ frames := 0, cells := 0, slots := 0, locals := 0 } : Room) (va_Pc [.ref h0, .int (nI mm)] (fun U => U.heap.size = sz ∧ va_P (dC, dI) vwCl [(h0, .inr (2, [.int (nI n), .ref a1, .ref a2, .ref a3, .ref a4, .ref a5, .ref a6, .ref a7])), (a1, .inl (cI, n, .inl (qS w))), (a2, .inl (cZ, n, .inl (qZ z))), (a3, .inl (cI, n, .inl (qS lo))), (a4, .inl (cI, 4, .inl (qS su))), (a5, .inl (cI, 4, .inl (qN da))), (a6, .inl (cI, 4, .inl (qS ch))), (a7, .inl (cI, 4, .inl (qS we)))] U.heap ∧ va_K (dC, dI) vwCl [(cI, .int), (cZ, .boolean)] U ∧ va_D (fun _ => True) [(h0, .inr (2, [.int (nI n), .ref a1, .ref a2, .ref a3, .ref a4, .ref a5, .ref a6, .ref a7])), (a1, .inl (cI, n, .inl (qS w))), (a2, .inl (cZ, n, .inl (qZ z))), (a3, .inl (cI, n, .inl (qS lo))), (a4, .inl (cI, 4, .inl (qS su))), (a5, .inl (cI, 4, .inl (qN da))), (a6, .inl (cI, 4, .inl (qS ch))), (a7, .inl (cI, 4, .inl (qS we)))])) (va_Qv (fun (_ : Unit) => True) (fun _ t => va_P (dC, dI) vwCl [(h0, .inr (2, [.int (nI n), .ref a1, .ref a2, .ref a3, .ref a4, .ref a5, .ref a6, .ref a7])), (a1, .inl (cI, n, .inl (qS (qw_a w da ch mm)))), (a2, .inl (cZ, n, .inl (qZ z))), (a3, .inl (cI, n, .inl (qS lo))), (a4, .inl (cI, 4, .inl (qS su))), (a5, .inl (cI, 4, .inl (qN da))), (a6, .inl (cI, 4, .inl (qS ch))), (a7, .inl (cI, 4, .inl (qS we)))] t.heap ∧ va_K (dC, dI) vwCl [(cI, .int), (cZ, .boolean)] t ∧ va_D (va_A [(h0, .inr (2, [.int (nI n), .ref a1, .ref a2, .ref a3, .ref a4, .ref a5, .ref a6, .ref a7])), (a1, .inl (cI, n, .inl (qS w))), (a2, .inl (cZ, n, .inl (qZ z))), (a3, .inl (cI, n, .inl (qS lo))), (a4, .inl (cI, 4, .inl (qS su))), (a5, .inl (cI, 4, .inl (qN da))), (a6, .inl (cI, 4, .inl (qS ch))), (a7, .inl (cI, 4, .inl (qS we)))] sz) [(h0, .inr (2, [.int (nI n), .ref a1, .ref a2, .ref a3, .ref a4, .ref a5, .ref a6, .ref a7])), (a1, .inl (cI, n, .inl (qS (qw_a w da ch mm)))), (a2, .inl (cZ, n, .inl (qZ z))), (a3, .inl (cI, n, .inl (qS lo))), (a4, .inl (cI, 4, .inl (qS su))), (a5, .inl (cI, 4, .inl (qN da))), (a6, .inl (cI, 4, .inl (qS ch))), (a7, .inl (cI, 4, .inl (qS we)))]) (va_A [(h0, .inr (2, [.int (nI n), .ref a1, .ref a2, .ref a3, .ref a4, .ref a5, .ref a6, .ref a7])), (a1, .inl (cI, n, .inl (qS w))), (a2, .inl (cZ, n, .inl (qZ z))), (a3, .inl (cI, n, .inl (qS lo))), (a4, .inl (cI, 4, .inl (qS su))), (a5, .inl (cI, 4, .inl (qN da))), (a6, .inl (cI, 4, .inl (qS ch))), (a7, .inl (cI, 4, .inl (qS we)))] sz)) 0 0 (va_A [(h0, .inr (2, [.int (nI n), .ref a1, .ref a2, .ref a3, .ref a4, .ref a5, .ref a6, .ref a7])), (a1, .inl (cI, n, .inl (qS w))), (a2, .inl (cZ, n, .inl (qZ z))), (a3, .inl (cI, n, .inl (qS lo))), (a4, .inl (cI, 4, .inl (qS su))), (a5, .inl (cI, 4, .inl (qN da))), (a6, .inl (cI, 4, .inl (qS ch))), (a7, .inl (cI, 4, .inl (qS we)))] sz) := by
  refine Met.ofW (cc := cX3_addChanges) (maxL := 3) (ret := none) (by decide) rfl ?_
  intro p e s m args below meth c s₁ B hml hv
  obtain ⟨rfl, hsz, hP, hK, hD0⟩ := hv
  have hx := B.exec
  have hb := B.bytes
  have hr := B.returns
  have hts := atoms_spec (ws := wsX3_addChanges) B.pre
  have hown : s.vm.findClass RX3 = some m.cls := findClass_of_methodNamed B.named
  have hlocks := B.notSynchronized
  subst hsz
  have hD := hD0.self (sz := s.heap.size)
  generalize hAe : va_A [(h0, .inr (2, [.int (nI n), .ref a1, .ref a2, .ref a3, .ref a4, .ref a5, .ref a6, .ref a7])), (a1, .inl (cI, n, .inl (qS w))), (a2, .inl (cZ, n, .inl (qZ z))), (a3, .inl (cI, n, .inl (qS lo))), (a4, .inl (cI, 4, .inl (qS su))), (a5, .inl (cI, 4, .inl (qN da))), (a6, .inl (cI, 4, .inl (qS ch))), (a7, .inl (cI, 4, .inl (qS we)))] s.heap.size = A at hD ⊢
  have hA : ∀ q : Nat, s.heap.size ≤ q → A q := fun q h => by rw [← hAe]; exact Or.inr h
  have hS : va_S A s.heap s.heap [] := va_S.rf
  have hP : va_P (dC, dI) vwCl [(h0, .inr (2, [.int (nI n), .ref a1, .ref a2, .ref a3, .ref a4, .ref a5, .ref a6, .ref a7])), (a1, .inl (cI, n, .inl (qS w))), (a2, .inl (cZ, n, .inl (qZ z))), (a3, .inl (cI, n, .inl (qS lo))), (a4, .inl (cI, 4, .inl (qS su))), (a5, .inl (cI, 4, .inl (qN da))), (a6, .inl (cI, 4, .inl (qS ch))), (a7, .inl (cI, 4, .inl (qS we)))] s.heap := hP
  have hl := lv_entry ([.ref h0, .int (nI mm)]) (n := 3) (Nat.le_of_ble_eq_true rfl)
  rw [lg_entry_eq]
  generalize (lg_sl ([.ref h0, .int (nI mm)]) ++ List.replicate (3 - (lg_sl ([.ref h0, .int (nI mm)])).length) Slot.unset).toArray = ls at hl ⊢
  have hl : lv_has ls 3 [(0, .ref h0), (1, .int (nI mm))] := hl
  have k_15 := hts (.fieldLink RX3 15 "DiscCoder$Word" "symbols" "[I") (by decide +kernel)
  have k_29 := hts (.fieldLink RX3 29 "DiscCoder$Word" "doubtedAt" "[I") (by decide +kernel)
  have k_32 := hts (.fieldLink RX3 32 "DiscCoder$Word" "changes" "[I") (by decide +kernel)
  have i_X3 : ∀ w ∈ u_ws RX3 TX3 8, w ∈ wsX3_addChanges := by decide +kernel
  refine qr_nm (fun Q hQ => ?_)
  refine lv_iconst (v := nI 0) hx hb dX3_addChanges_0 (by decide) ?_
  refine lv_istore_n (lv' := [(2, .int (nI 0)), (0, .ref h0), (1, .int (nI mm))]) hx hb dX3_addChanges_1 rfl hl (by decide) rfl (fun ls hl => ?_)
  have lp2 : ∀ (j k : Nat), k + j = mm → ∀  (ls : Array Slot) (H : Heap) (locs : List Loc), lv_has ls 3 [(0, .ref h0), (1, .int (nI mm)), (2, .int (nI k))] → va_P (dC, dI) vwCl [(h0, .inr (2, [.int (nI n), .ref a1, .ref a2, .ref a3, .ref a4, .ref a5, .ref a6, .ref a7])), (a1, .inl (cI, n, .inl (qS (qw_a w da ch k)))), (a2, .inl (cZ, n, .inl (qZ z))), (a3, .inl (cI, n, .inl (qS lo))), (a4, .inl (cI, 4, .inl (qS su))), (a5, .inl (cI, 4, .inl (qN da))), (a6, .inl (cI, 4, .inl (qS ch))), (a7, .inl (cI, 4, .inl (qS we)))] H → va_D A [(h0, .inr (2, [.int (nI n), .ref a1, .ref a2, .ref a3, .ref a4, .ref a5, .ref a6, .ref a7])), (a1, .inl (cI, n, .inl (qS (qw_a w da ch k)))), (a2, .inl (cZ, n, .inl (qZ z))), (a3, .inl (cI, n, .inl (qS lo))), (a4, .inl (cI, 4, .inl (qS su))), (a5, .inl (cI, 4, .inl (qN da))), (a6, .inl (cI, 4, .inl (qS ch))), (a7, .inl (cI, 4, .inl (qS we)))] → va_S A s.heap H locs → W p l e (headSpec wsX3_addChanges ({ frames := 0, cells := 0, slots := 0, locals := 0 } : Room)).room s m ([.ref h0, .int (nI mm)] : List Value).toArray below meth c H locs 0 0 Q (F0 m 2 ls []) := by
    intro j
    induction j with
    | zero =>
      intro k hk  ls H locs hl hP hD hS
      have e9 : mm = k := by omega
      subst e9
      refine lv_iload_n hx hb dX3_addChanges_2 rfl (lv_at hl 2 rfl) ?_
      refine lv_iload_n hx hb dX3_addChanges_3 rfl (lv_at hl 1 rfl) ?_
      refine qr_ge (tgt := 33) hx hb dX3_addChanges_4 rfl (by omega) (by omega) (fun b4 => ?_) (fun h => absurd h (by omega))
      subst hQ
      exact W.vret hx hb hr (fun t ht hW => ⟨⟨(), rfl, trivial, by rw [ht]; exact hP, va_K.moved hW.alike hK, hD⟩, hS.F ht⟩) hS.2.2 dX3_addChanges_33
    | succ j ih =>
      intro k hk  ls H locs hl hP hD hS
      have lk : k < mm := by omega
      refine lv_iload_n hx hb dX3_addChanges_2 rfl (lv_at hl 2 rfl) ?_
      refine lv_iload_n hx hb dX3_addChanges_3 rfl (lv_at hl 1 rfl) ?_
      refine qr_ge (tgt := 33) hx hb dX3_addChanges_4 rfl (by omega) (by omega) (fun h => absurd h (by omega)) (fun b4 => ?_)
      refine lv_aload_n hx hb dX3_addChanges_7 rfl (lv_at hl 0 rfl) ?_
      refine va_get (D := (dC, dI)) (ci := 2) (v := .ref a1) (C := RX3) (T := TX3) (N := 8) hx hb hts i_X3 hown hK hP 0 rfl rfl 1 (by decide) k_15 (fun _ h9 => h9) rfl dX3_addChanges_8 ?_
      refine lv_aload_n hx hb dX3_addChanges_11 rfl (lv_at hl 0 rfl) ?_
      refine va_get (D := (dC, dI)) (ci := 2) (v := .ref a5) (C := RX3) (T := TX3) (N := 8) hx hb hts i_X3 hown hK hP 0 rfl rfl 5 (by decide) k_29 (fun _ h9 => h9) rfl dX3_addChanges_12 ?_
      refine lv_iload_n hx hb dX3_addChanges_15 rfl (lv_at hl 2 rfl) ?_
      refine qr_ildN hx hb hK hP 5 0 rfl rfl (by omega) (by omega) dX3_addChanges_16 ?_
      refine lv_dup2_11 hx hb dX3_addChanges_17 rfl rfl ?_
      refine qr_ildS hx hb hK hP 1 0 rfl rfl (hd k lk) (by omega) dX3_addChanges_18 ?_
      refine lv_aload_n hx hb dX3_addChanges_19 rfl (lv_at hl 0 rfl) ?_
      refine va_get (D := (dC, dI)) (ci := 2) (v := .ref a6) (C := RX3) (T := TX3) (N := 8) hx hb hts i_X3 hown hK hP 0 rfl rfl 6 (by decide) k_32 (fun _ h9 => h9) rfl dX3_addChanges_20 ?_
      refine lv_iload_n hx hb dX3_addChanges_23 rfl (lv_at hl 2 rfl) ?_
      refine qr_ildS hx hb hK hP 6 0 rfl rfl (by omega) (by omega) dX3_addChanges_24 ?_
      refine qr_ixor (z := sI (((qw_a w da ch k) (da k)) ^^^ (ch k))) hx hb dX3_addChanges_25 (sI_xor _ _) ?_
      refine qr_istS (x := ((qw_a w da ch k) (da k)) ^^^ (ch k)) hx hb hK hP hD hS 1 0 rfl rfl (hd k lk) (by omega) dX3_addChanges_26 (fun H locs hP hD hS => ?_)
      have hP : va_P (dC, dI) vwCl [(h0, .inr (2, [.int (nI n), .ref a1, .ref a2, .ref a3, .ref a4, .ref a5, .ref a6, .ref a7])), (a1, .inl (cI, n, .inl (qS (va_up (qw_a w da ch k) (da k) (((qw_a w da ch k) (da k)) ^^^ (ch k)))))), (a2, .inl (cZ, n, .inl (qZ z))), (a3, .inl (cI, n, .inl (qS lo))), (a4, .inl (cI, 4, .inl (qS su))), (a5, .inl (cI, 4, .inl (qN da))), (a6, .inl (cI, 4, .inl (qS ch))), (a7, .inl (cI, 4, .inl (qS we)))] H := hP
      have hD : va_D A [(h0, .inr (2, [.int (nI n), .ref a1, .ref a2, .ref a3, .ref a4, .ref a5, .ref a6, .ref a7])), (a1, .inl (cI, n, .inl (qS (va_up (qw_a w da ch k) (da k) (((qw_a w da ch k) (da k)) ^^^ (ch k)))))), (a2, .inl (cZ, n, .inl (qZ z))), (a3, .inl (cI, n, .inl (qS lo))), (a4, .inl (cI, 4, .inl (qS su))), (a5, .inl (cI, 4, .inl (qN da))), (a6, .inl (cI, 4, .inl (qS ch))), (a7, .inl (cI, 4, .inl (qS we)))] := hD
      refine lv_iinc (k := 2) (v := nI (k + 1)) (lv' := [(2, .int (nI (k + 1))), (0, .ref h0), (1, .int (nI mm))]) hx hb dX3_addChanges_27 hl rfl (qr_inc _) (by decide) rfl (fun ls hl => ?_)
      refine lv_goto (tgt := 2) hx hb dX3_addChanges_30 rfl ?_
      have hl := lv_sub (l' := [(0, .ref h0), (1, .int (nI mm)), (2, .int (nI (k + 1)))]) hl [1, 2, 0] rfl
      have e1 : qw_a w da ch (k + 1) = va_up (qw_a w da ch k) (da k) (((qw_a w da ch k) (da k)) ^^^ (ch k)) := by first | rfl | (simp only [cond_true, cond_false])
      exact ih (k + 1) (by omega)  ls H _ (by exact hl) (by rw [e1]; exact hP) (by rw [e1]; exact hD) hS 
  have hl := lv_sub (l' := [(0, .ref h0), (1, .int (nI mm)), (2, .int (nI 0))]) hl [1, 2, 0] rfl
  exact lp2 mm 0 (by omega)  ls s.heap _ hl hP hD hS 
set_option maxHeartbeats 4000000 in
set_option maxRecDepth 100000 in
/-- Word.startWeights -/
theorem qc_start (l : Launch) (dC : Nat → ClassId) (dI : Nat → Nat → Nat) (cI cZ : ClassId) (h0 a1 a2 a3 a4 a5 a6 a7 n : Nat) (w : Nat → BitVec 8) (z : Nat → Bool) (lo su : Nat → BitVec 8) (da : Nat → Nat) (ch we : Nat → BitVec 8) (sz : Nat) (hn : n ≤ 16) : Met l yX3_startWeights wsX3_startWeights ({ frames := 0, cells := 0, slots := 0, locals := 0 } : Room) (va_Pc [.ref h0] (fun U => U.heap.size = sz ∧ va_P (dC, dI) vwCl [(h0, .inr (2, [.int (nI n), .ref a1, .ref a2, .ref a3, .ref a4, .ref a5, .ref a6, .ref a7])), (a1, .inl (cI, n, .inl (qS w))), (a2, .inl (cZ, n, .inl (qZ z))), (a3, .inl (cI, n, .inl (qS lo))), (a4, .inl (cI, 4, .inl (qS su))), (a5, .inl (cI, 4, .inl (qN da))), (a6, .inl (cI, 4, .inl (qS ch))), (a7, .inl (cI, 4, .inl (qS we)))] U.heap ∧ va_K (dC, dI) vwCl [(cI, .int), (cZ, .boolean)] U ∧ va_D (fun _ => True) [(h0, .inr (2, [.int (nI n), .ref a1, .ref a2, .ref a3, .ref a4, .ref a5, .ref a6, .ref a7])), (a1, .inl (cI, n, .inl (qS w))), (a2, .inl (cZ, n, .inl (qZ z))), (a3, .inl (cI, n, .inl (qS lo))), (a4, .inl (cI, 4, .inl (qS su))), (a5, .inl (cI, 4, .inl (qN da))), (a6, .inl (cI, 4, .inl (qS ch))), (a7, .inl (cI, 4, .inl (qS we)))])) (va_Qv (fun (_ : Unit) => True) (fun _ t => va_P (dC, dI) vwCl [(h0, .inr (2, [.int (nI n), .ref a1, .ref a2, .ref a3, .ref a4, .ref a5, .ref a6, .ref a7])), (a1, .inl (cI, n, .inl (qS w))), (a2, .inl (cZ, n, .inl (qZ z))), (a3, .inl (cI, n, .inl (qS lo))), (a4, .inl (cI, 4, .inl (qS su))), (a5, .inl (cI, 4, .inl (qN da))), (a6, .inl (cI, 4, .inl (qS ch))), (a7, .inl (cI, 4, .inl (qS (qm_st we 3))))] t.heap ∧ va_K (dC, dI) vwCl [(cI, .int), (cZ, .boolean)] t ∧ va_D (va_A [(h0, .inr (2, [.int (nI n), .ref a1, .ref a2, .ref a3, .ref a4, .ref a5, .ref a6, .ref a7])), (a1, .inl (cI, n, .inl (qS w))), (a2, .inl (cZ, n, .inl (qZ z))), (a3, .inl (cI, n, .inl (qS lo))), (a4, .inl (cI, 4, .inl (qS su))), (a5, .inl (cI, 4, .inl (qN da))), (a6, .inl (cI, 4, .inl (qS ch))), (a7, .inl (cI, 4, .inl (qS we)))] sz) [(h0, .inr (2, [.int (nI n), .ref a1, .ref a2, .ref a3, .ref a4, .ref a5, .ref a6, .ref a7])), (a1, .inl (cI, n, .inl (qS w))), (a2, .inl (cZ, n, .inl (qZ z))), (a3, .inl (cI, n, .inl (qS lo))), (a4, .inl (cI, 4, .inl (qS su))), (a5, .inl (cI, 4, .inl (qN da))), (a6, .inl (cI, 4, .inl (qS ch))), (a7, .inl (cI, 4, .inl (qS (qm_st we 3))))]) (va_A [(h0, .inr (2, [.int (nI n), .ref a1, .ref a2, .ref a3, .ref a4, .ref a5, .ref a6, .ref a7])), (a1, .inl (cI, n, .inl (qS w))), (a2, .inl (cZ, n, .inl (qZ z))), (a3, .inl (cI, n, .inl (qS lo))), (a4, .inl (cI, 4, .inl (qS su))), (a5, .inl (cI, 4, .inl (qN da))), (a6, .inl (cI, 4, .inl (qS ch))), (a7, .inl (cI, 4, .inl (qS we)))] sz)) 0 0 (va_A [(h0, .inr (2, [.int (nI n), .ref a1, .ref a2, .ref a3, .ref a4, .ref a5, .ref a6, .ref a7])), (a1, .inl (cI, n, .inl (qS w))), (a2, .inl (cZ, n, .inl (qZ z))), (a3, .inl (cI, n, .inl (qS lo))), (a4, .inl (cI, 4, .inl (qS su))), (a5, .inl (cI, 4, .inl (qN da))), (a6, .inl (cI, 4, .inl (qS ch))), (a7, .inl (cI, 4, .inl (qS we)))] sz) := by
  refine Met.ofW (cc := cX3_startWeights) (maxL := 2) (ret := none) (by decide) rfl ?_
  intro p e s m args below meth c s₁ B hml hv
  obtain ⟨rfl, hsz, hP, hK, hD0⟩ := hv
  have hx := B.exec
  have hb := B.bytes
  have hr := B.returns
  have hts := atoms_spec (ws := wsX3_startWeights) B.pre
  have hown : s.vm.findClass RX3 = some m.cls := findClass_of_methodNamed B.named
  have hlocks := B.notSynchronized
  subst hsz
  have hD := hD0.self (sz := s.heap.size)
  generalize hAe : va_A [(h0, .inr (2, [.int (nI n), .ref a1, .ref a2, .ref a3, .ref a4, .ref a5, .ref a6, .ref a7])), (a1, .inl (cI, n, .inl (qS w))), (a2, .inl (cZ, n, .inl (qZ z))), (a3, .inl (cI, n, .inl (qS lo))), (a4, .inl (cI, 4, .inl (qS su))), (a5, .inl (cI, 4, .inl (qN da))), (a6, .inl (cI, 4, .inl (qS ch))), (a7, .inl (cI, 4, .inl (qS we)))] s.heap.size = A at hD ⊢
  have hA : ∀ q : Nat, s.heap.size ≤ q → A q := fun q h => by rw [← hAe]; exact Or.inr h
  have hS : va_S A s.heap s.heap [] := va_S.rf
  have hP : va_P (dC, dI) vwCl [(h0, .inr (2, [.int (nI n), .ref a1, .ref a2, .ref a3, .ref a4, .ref a5, .ref a6, .ref a7])), (a1, .inl (cI, n, .inl (qS w))), (a2, .inl (cZ, n, .inl (qZ z))), (a3, .inl (cI, n, .inl (qS lo))), (a4, .inl (cI, 4, .inl (qS su))), (a5, .inl (cI, 4, .inl (qN da))), (a6, .inl (cI, 4, .inl (qS ch))), (a7, .inl (cI, 4, .inl (qS we)))] s.heap := hP
  have hl := lv_entry ([.ref h0]) (n := 2) (Nat.le_of_ble_eq_true rfl)
  rw [lg_entry_eq]
  generalize (lg_sl ([.ref h0]) ++ List.replicate (2 - (lg_sl ([.ref h0])).length) Slot.unset).toArray = ls at hl ⊢
  have hl : lv_has ls 2 [(0, .ref h0)] := hl
  have k_35 := hts (.fieldLink RX3 35 "DiscCoder$Word" "weights" "[I") (by decide +kernel)
  have i_X3 : ∀ w ∈ u_ws RX3 TX3 8, w ∈ wsX3_startWeights := by decide +kernel
  refine qr_nm (fun Q hQ => ?_)
  refine lv_aload_n hx hb dX3_startWeights_0 rfl (lv_at hl 0 rfl) ?_
  refine va_get (D := (dC, dI)) (ci := 2) (v := .ref a7) (C := RX3) (T := TX3) (N := 8) hx hb hts i_X3 hown hK hP 0 rfl rfl 7 (by decide) k_35 (fun _ h9 => h9) rfl dX3_startWeights_1 ?_
  refine lv_iconst (v := nI 0) hx hb dX3_startWeights_4 (by decide) ?_
  refine lv_iconst (v := sI 1#8) hx hb dX3_startWeights_5 (by decide) ?_
  refine qr_istS (x := 1#8) hx hb hK hP hD hS 7 0 rfl rfl (by omega) (by omega) dX3_startWeights_6 (fun H locs hP hD hS => ?_)
  have hP : va_P (dC, dI) vwCl [(h0, .inr (2, [.int (nI n), .ref a1, .ref a2, .ref a3, .ref a4, .ref a5, .ref a6, .ref a7])), (a1, .inl (cI, n, .inl (qS w))), (a2, .inl (cZ, n, .inl (qZ z))), (a3, .inl (cI, n, .inl (qS lo))), (a4, .inl (cI, 4, .inl (qS su))), (a5, .inl (cI, 4, .inl (qN da))), (a6, .inl (cI, 4, .inl (qS ch))), (a7, .inl (cI, 4, .inl (qS (va_up we 0 1#8))))] H := hP
  have hD : va_D A [(h0, .inr (2, [.int (nI n), .ref a1, .ref a2, .ref a3, .ref a4, .ref a5, .ref a6, .ref a7])), (a1, .inl (cI, n, .inl (qS w))), (a2, .inl (cZ, n, .inl (qZ z))), (a3, .inl (cI, n, .inl (qS lo))), (a4, .inl (cI, 4, .inl (qS su))), (a5, .inl (cI, 4, .inl (qN da))), (a6, .inl (cI, 4, .inl (qS ch))), (a7, .inl (cI, 4, .inl (qS (va_up we 0 1#8))))] := hD
  refine lv_iconst (v := nI 1) hx hb dX3_startWeights_7 (by decide) ?_
  refine lv_istore_n (lv' := [(1, .int (nI 1)), (0, .ref h0)]) hx hb dX3_startWeights_8 rfl hl (by decide) rfl (fun ls hl => ?_)
  have lp9 : ∀ (j i : Nat), i + j = 3 → ∀  (ls : Array Slot) (H : Heap) (locs : List Loc), lv_has ls 2 [(0, .ref h0), (1, .int (nI (i + 1)))] → va_P (dC, dI) vwCl [(h0, .inr (2, [.int (nI n), .ref a1, .ref a2, .ref a3, .ref a4, .ref a5, .ref a6, .ref a7])), (a1, .inl (cI, n, .inl (qS w))), (a2, .inl (cZ, n, .inl (qZ z))), (a3, .inl (cI, n, .inl (qS lo))), (a4, .inl (cI, 4, .inl (qS su))), (a5, .inl (cI, 4, .inl (qN da))), (a6, .inl (cI, 4, .inl (qS ch))), (a7, .inl (cI, 4, .inl (qS (qm_st we i))))] H → va_D A [(h0, .inr (2, [.int (nI n), .ref a1, .ref a2, .ref a3, .ref a4, .ref a5, .ref a6, .ref a7])), (a1, .inl (cI, n, .inl (qS w))), (a2, .inl (cZ, n, .inl (qZ z))), (a3, .inl (cI, n, .inl (qS lo))), (a4, .inl (cI, 4, .inl (qS su))), (a5, .inl (cI, 4, .inl (qN da))), (a6, .inl (cI, 4, .inl (qS ch))), (a7, .inl (cI, 4, .inl (qS (qm_st we i))))] → va_S A s.heap H locs → W p l e (headSpec wsX3_startWeights ({ frames := 0, cells := 0, slots := 0, locals := 0 } : Room)).room s m ([.ref h0] : List Value).toArray below meth c H locs 0 0 Q (F0 m 9 ls []) := by
    intro j
    induction j with
    | zero =>
      intro i hi  ls H locs hl hP hD hS
      have e9 : 3 = i := by omega
      subst e9
      refine lv_iload_n hx hb dX3_startWeights_9 rfl (lv_at hl 1 rfl) ?_
      refine lv_iconst (v := nI 4) hx hb dX3_startWeights_10 (by decide) ?_
      refine qr_ge (tgt := 27) hx hb dX3_startWeights_11 rfl (by omega) (by omega) (fun b11 => ?_) (fun h => absurd h (by omega))
      subst hQ
      exact W.vret hx hb hr (fun t ht hW => ⟨⟨(), rfl, trivial, by rw [ht]; exact hP, va_K.moved hW.alike hK, hD⟩, hS.F ht⟩) hS.2.2 dX3_startWeights_27
    | succ j ih =>
      intro i hi  ls H locs hl hP hD hS
      have li : i < 3 := by omega
      refine lv_iload_n hx hb dX3_startWeights_9 rfl (lv_at hl 1 rfl) ?_
      refine lv_iconst (v := nI 4) hx hb dX3_startWeights_10 (by decide) ?_
      refine qr_ge (tgt := 27) hx hb dX3_startWeights_11 rfl (by omega) (by omega) (fun h => absurd h (by omega)) (fun b11 => ?_)
      refine lv_aload_n hx hb dX3_startWeights_14 rfl (lv_at hl 0 rfl) ?_
      refine va_get (D := (dC, dI)) (ci := 2) (v := .ref a7) (C := RX3) (T := TX3) (N := 8) hx hb hts i_X3 hown hK hP 0 rfl rfl 7 (by decide) k_35 (fun _ h9 => h9) rfl dX3_startWeights_15 ?_
      refine lv_iload_n hx hb dX3_startWeights_18 rfl (lv_at hl 1 rfl) ?_
      refine lv_iconst (v := sI 0#8) hx hb dX3_startWeights_19 (by decide) ?_
      refine qr_istS (x := 0#8) hx hb hK hP hD hS 7 0 rfl rfl (by omega) (by omega) dX3_startWeights_20 (fun H locs hP hD hS => ?_)
      have hP : va_P (dC, dI) vwCl [(h0, .inr (2, [.int (nI n), .ref a1, .ref a2, .ref a3, .ref a4, .ref a5, .ref a6, .ref a7])), (a1, .inl (cI, n, .inl (qS w))), (a2, .inl (cZ, n, .inl (qZ z))), (a3, .inl (cI, n, .inl (qS lo))), (a4, .inl (cI, 4, .inl (qS su))), (a5, .inl (cI, 4, .inl (qN da))), (a6, .inl (cI, 4, .inl (qS ch))), (a7, .inl (cI, 4, .inl (qS (va_up (qm_st we i) (i + 1) 0#8))))] H := hP
      have hD : va_D A [(h0, .inr (2, [.int (nI n), .ref a1, .ref a2, .ref a3, .ref a4, .ref a5, .ref a6, .ref a7])), (a1, .inl (cI, n, .inl (qS w))), (a2, .inl (cZ, n, .inl (qZ z))), (a3, .inl (cI, n, .inl (qS lo))), (a4, .inl (cI, 4, .inl (qS su))), (a5, .inl (cI, 4, .inl (qN da))), (a6, .inl (cI, 4, .inl (qS ch))), (a7, .inl (cI, 4, .inl (qS (va_up (qm_st we i) (i + 1) 0#8))))] := hD
      refine lv_iinc (k := 1) (v := nI ((i + 1) + 1)) (lv' := [(1, .int (nI ((i + 1) + 1))), (0, .ref h0)]) hx hb dX3_startWeights_21 hl rfl (qr_inc _) (by decide) rfl (fun ls hl => ?_)
      refine lv_goto (tgt := 9) hx hb dX3_startWeights_24 rfl ?_
      have hl := lv_sub (l' := [(0, .ref h0), (1, .int (nI ((i + 1) + 1)))]) hl [1, 0] rfl
      have e1 : qm_st we (i + 1) = va_up (qm_st we i) (i + 1) 0#8 := by first | rfl | (simp only [cond_true, cond_false])
      exact ih (i + 1) (by omega)  ls H _ (by exact hl) (by rw [e1]; exact hP) (by rw [e1]; exact hD) hS 
  have hl := lv_sub (l' := [(0, .ref h0), (1, .int (nI 1))]) hl [1, 0] rfl
  exact lp9 3 0 (by omega)  ls H _ hl hP hD hS 
set_option maxHeartbeats 4000000 in
set_option maxRecDepth 100000 in
/-- Word.addRoot -/
theorem qc_root (l : Launch) (dC : Nat → ClassId) (dI : Nat → Nat → Nat) (cI cZ : ClassId) (h0 a1 a2 a3 a4 a5 a6 a7 n : Nat) (w : Nat → BitVec 8) (z : Nat → Bool) (lo su : Nat → BitVec 8) (da : Nat → Nat) (ch we : Nat → BitVec 8) (r : BitVec 8) (sz : Nat) (hn : n ≤ 16) : Met l yX3_addRoot wsX3_addRoot ({ frames := 1, cells := 0, slots := 0, locals := 24 } : Room) (va_Pc [.ref h0, .int (sI r)] (fun U => U.heap.size = sz ∧ va_P (dC, dI) vwCl [(h0, .inr (2, [.int (nI n), .ref a1, .ref a2, .ref a3, .ref a4, .ref a5, .ref a6, .ref a7])), (a1, .inl (cI, n, .inl (qS w))), (a2, .inl (cZ, n, .inl (qZ z))), (a3, .inl (cI, n, .inl (qS lo))), (a4, .inl (cI, 4, .inl (qS su))), (a5, .inl (cI, 4, .inl (qN da))), (a6, .inl (cI, 4, .inl (qS ch))), (a7, .inl (cI, 4, .inl (qS we)))] U.heap ∧ va_K (dC, dI) vwCl [(cI, .int), (cZ, .boolean)] U ∧ va_D (fun _ => True) [(h0, .inr (2, [.int (nI n), .ref a1, .ref a2, .ref a3, .ref a4, .ref a5, .ref a6, .ref a7])), (a1, .inl (cI, n, .inl (qS w))), (a2, .inl (cZ, n, .inl (qZ z))), (a3, .inl (cI, n, .inl (qS lo))), (a4, .inl (cI, 4, .inl (qS su))), (a5, .inl (cI, 4, .inl (qN da))), (a6, .inl (cI, 4, .inl (qS ch))), (a7, .inl (cI, 4, .inl (qS we)))])) (va_Qv (fun (_ : Unit) => True) (fun _ t => va_P (dC, dI) vwCl [(h0, .inr (2, [.int (nI n), .ref a1, .ref a2, .ref a3, .ref a4, .ref a5, .ref a6, .ref a7])), (a1, .inl (cI, n, .inl (qS w))), (a2, .inl (cZ, n, .inl (qZ z))), (a3, .inl (cI, n, .inl (qS lo))), (a4, .inl (cI, 4, .inl (qS su))), (a5, .inl (cI, 4, .inl (qN da))), (a6, .inl (cI, 4, .inl (qS ch))), (a7, .inl (cI, 4, .inl (qS (qw_r we r))))] t.heap ∧ va_K (dC, dI) vwCl [(cI, .int), (cZ, .boolean)] t ∧ va_D (va_A [(h0, .inr (2, [.int (nI n), .ref a1, .ref a2, .ref a3, .ref a4, .ref a5, .ref a6, .ref a7])), (a1, .inl (cI, n, .inl (qS w))), (a2, .inl (cZ, n, .inl (qZ z))), (a3, .inl (cI, n, .inl (qS lo))), (a4, .inl (cI, 4, .inl (qS su))), (a5, .inl (cI, 4, .inl (qN da))), (a6, .inl (cI, 4, .inl (qS ch))), (a7, .inl (cI, 4, .inl (qS we)))] sz) [(h0, .inr (2, [.int (nI n), .ref a1, .ref a2, .ref a3, .ref a4, .ref a5, .ref a6, .ref a7])), (a1, .inl (cI, n, .inl (qS w))), (a2, .inl (cZ, n, .inl (qZ z))), (a3, .inl (cI, n, .inl (qS lo))), (a4, .inl (cI, 4, .inl (qS su))), (a5, .inl (cI, 4, .inl (qN da))), (a6, .inl (cI, 4, .inl (qS ch))), (a7, .inl (cI, 4, .inl (qS (qw_r we r))))]) (va_A [(h0, .inr (2, [.int (nI n), .ref a1, .ref a2, .ref a3, .ref a4, .ref a5, .ref a6, .ref a7])), (a1, .inl (cI, n, .inl (qS w))), (a2, .inl (cZ, n, .inl (qZ z))), (a3, .inl (cI, n, .inl (qS lo))), (a4, .inl (cI, 4, .inl (qS su))), (a5, .inl (cI, 4, .inl (qN da))), (a6, .inl (cI, 4, .inl (qS ch))), (a7, .inl (cI, 4, .inl (qS we)))] sz)) 0 0 (va_A [(h0, .inr (2, [.int (nI n), .ref a1, .ref a2, .ref a3, .ref a4, .ref a5, .ref a6, .ref a7])), (a1, .inl (cI, n, .inl (qS w))), (a2, .inl (cZ, n, .inl (qZ z))), (a3, .inl (cI, n, .inl (qS lo))), (a4, .inl (cI, 4, .inl (qS su))), (a5, .inl (cI, 4, .inl (qN da))), (a6, .inl (cI, 4, .inl (qS ch))), (a7, .inl (cI, 4, .inl (qS we)))] sz) := by
  refine Met.ofW (cc := cX3_addRoot) (maxL := 3) (ret := none) (by decide) rfl ?_
  intro p e s m args below meth c s₁ B hml hv
  obtain ⟨rfl, hsz, hP, hK, hD0⟩ := hv
  have hx := B.exec
  have hb := B.bytes
  have hr := B.returns
  have hts := atoms_spec (ws := wsX3_addRoot) B.pre
  have hown : s.vm.findClass RX3 = some m.cls := findClass_of_methodNamed B.named
  have hlocks := B.notSynchronized
  subst hsz
  have hD := hD0.self (sz := s.heap.size)
  generalize hAe : va_A [(h0, .inr (2, [.int (nI n), .ref a1, .ref a2, .ref a3, .ref a4, .ref a5, .ref a6, .ref a7])), (a1, .inl (cI, n, .inl (qS w))), (a2, .inl (cZ, n, .inl (qZ z))), (a3, .inl (cI, n, .inl (qS lo))), (a4, .inl (cI, 4, .inl (qS su))), (a5, .inl (cI, 4, .inl (qN da))), (a6, .inl (cI, 4, .inl (qS ch))), (a7, .inl (cI, 4, .inl (qS we)))] s.heap.size = A at hD ⊢
  have hA : ∀ q : Nat, s.heap.size ≤ q → A q := fun q h => by rw [← hAe]; exact Or.inr h
  have hS : va_S A s.heap s.heap [] := va_S.rf
  have hP : va_P (dC, dI) vwCl [(h0, .inr (2, [.int (nI n), .ref a1, .ref a2, .ref a3, .ref a4, .ref a5, .ref a6, .ref a7])), (a1, .inl (cI, n, .inl (qS w))), (a2, .inl (cZ, n, .inl (qZ z))), (a3, .inl (cI, n, .inl (qS lo))), (a4, .inl (cI, 4, .inl (qS su))), (a5, .inl (cI, 4, .inl (qN da))), (a6, .inl (cI, 4, .inl (qS ch))), (a7, .inl (cI, 4, .inl (qS we)))] s.heap := hP
  have hl := lv_entry ([.ref h0, .int (sI r)]) (n := 3) (Nat.le_of_ble_eq_true rfl)
  rw [lg_entry_eq]
  generalize (lg_sl ([.ref h0, .int (sI r)]) ++ List.replicate (3 - (lg_sl ([.ref h0, .int (sI r)])).length) Slot.unset).toArray = ls at hl ⊢
  have hl : lv_has ls 3 [(0, .ref h0), (1, .int (sI r))] := hl
  have k_35 := hts (.fieldLink RX3 35 "DiscCoder$Word" "weights" "[I") (by decide +kernel)
  have i_X3 : ∀ w ∈ u_ws RX3 TX3 8, w ∈ wsX3_addRoot := by decide +kernel
  refine qr_nm (fun Q hQ => ?_)
  refine lv_iconst (v := nI 3) hx hb dX3_addRoot_0 (by decide) ?_
  refine lv_istore_n (lv' := [(2, .int (nI 3)), (0, .ref h0), (1, .int (sI r))]) hx hb dX3_addRoot_1 rfl hl (by decide) rfl (fun ls hl => ?_)
  have lp2 : ∀ (kc i : Nat), i = kc → ∀  (ls : Array Slot) (H : Heap) (locs : List Loc), lv_has ls 3 [(0, .ref h0), (1, .int (sI r)), (2, .int (nI i))] → va_P (dC, dI) vwCl [(h0, .inr (2, [.int (nI n), .ref a1, .ref a2, .ref a3, .ref a4, .ref a5, .ref a6, .ref a7])), (a1, .inl (cI, n, .inl (qS w))), (a2, .inl (cZ, n, .inl (qZ z))), (a3, .inl (cI, n, .inl (qS lo))), (a4, .inl (cI, 4, .inl (qS su))), (a5, .inl (cI, 4, .inl (qN da))), (a6, .inl (cI, 4, .inl (qS ch))), (a7, .inl (cI, 4, .inl (qS (qm_ar we r i))))] H → va_D A [(h0, .inr (2, [.int (nI n), .ref a1, .ref a2, .ref a3, .ref a4, .ref a5, .ref a6, .ref a7])), (a1, .inl (cI, n, .inl (qS w))), (a2, .inl (cZ, n, .inl (qZ z))), (a3, .inl (cI, n, .inl (qS lo))), (a4, .inl (cI, 4, .inl (qS su))), (a5, .inl (cI, 4, .inl (qN da))), (a6, .inl (cI, 4, .inl (qS ch))), (a7, .inl (cI, 4, .inl (qS (qm_ar we r i))))] → va_S A s.heap H locs → i < 4 → W p l e (headSpec wsX3_addRoot ({ frames := 1, cells := 0, slots := 0, locals := 24 } : Room)).room s m ([.ref h0, .int (sI r)] : List Value).toArray below meth c H locs 0 0 Q (F0 m 2 ls []) := by
    intro kc
    induction kc with
    | zero =>
      intro i hi  ls H locs hl hP hD hS hc
      subst hi
      refine lv_iload_n hx hb dX3_addRoot_2 rfl (lv_at hl 2 rfl) ?_
      refine lv_if_le (tgt := 37) hx hb dX3_addRoot_3 rfl  (fun b3 => ?_) (fun h => absurd (show nI 0 ≤ 0 by decide) h)
      refine lv_aload_n hx hb dX3_addRoot_37 rfl (lv_at hl 0 rfl) ?_
      refine va_get (D := (dC, dI)) (ci := 2) (v := .ref a7) (C := RX3) (T := TX3) (N := 8) hx hb hts i_X3 hown hK hP 0 rfl rfl 7 (by decide) k_35 (fun _ h9 => h9) rfl dX3_addRoot_38 ?_
      refine lv_iconst (v := nI 0) hx hb dX3_addRoot_41 (by decide) ?_
      refine lv_aload_n hx hb dX3_addRoot_42 rfl (lv_at hl 0 rfl) ?_
      refine va_get (D := (dC, dI)) (ci := 2) (v := .ref a7) (C := RX3) (T := TX3) (N := 8) hx hb hts i_X3 hown hK hP 0 rfl rfl 7 (by decide) k_35 (fun _ h9 => h9) rfl dX3_addRoot_43 ?_
      refine lv_iconst (v := nI 0) hx hb dX3_addRoot_46 (by decide) ?_
      refine qr_ildS hx hb hK hP 7 0 rfl rfl (by omega) (by omega) dX3_addRoot_47 ?_
      refine lv_iload_n hx hb dX3_addRoot_48 rfl (lv_at hl 1 rfl) ?_
      refine vp_callSi (va_Run.run (va_runS (As := [.int (sI ((qm_ar we r 0) 0)), .int (sI r)]) (rest := [.int (nI 0), .ref a7]) ⟨hx, hb, hml, hown, hts⟩ (qc_times l ((qm_ar we r 0) 0) r ) (va_cwS 2 hts gX3_addRoot_X1_times rfl rfl rfl (by decide +kernel) ⟨Nat.le_of_ble_eq_true rfl, Nat.le_of_ble_eq_true rfl⟩) ⟨fun a U g mk q => q, fun U hU hW => ⟨rfl, trivial⟩⟩ rfl rfl hl.1 rfl (lv_room (Nat.le_of_ble_eq_true rfl)) dX3_addRoot_49 ⟨Nat.le_of_ble_eq_true rfl, Nat.le_of_ble_eq_true rfl⟩)) (fun r49 hr49 => ?_)
      have hr49 : r49 = sI (qf_m ((qm_ar we r 0) 0) r) := hr49
      subst hr49
      refine qr_istS (x := qf_m ((qm_ar we r 0) 0) r) hx hb hK hP hD hS 7 0 rfl rfl (by omega) (by omega) dX3_addRoot_52 (fun H locs hP hD hS => ?_)
      have hP : va_P (dC, dI) vwCl [(h0, .inr (2, [.int (nI n), .ref a1, .ref a2, .ref a3, .ref a4, .ref a5, .ref a6, .ref a7])), (a1, .inl (cI, n, .inl (qS w))), (a2, .inl (cZ, n, .inl (qZ z))), (a3, .inl (cI, n, .inl (qS lo))), (a4, .inl (cI, 4, .inl (qS su))), (a5, .inl (cI, 4, .inl (qN da))), (a6, .inl (cI, 4, .inl (qS ch))), (a7, .inl (cI, 4, .inl (qS (va_up (qm_ar we r 0) 0 (qf_m ((qm_ar we r 0) 0) r)))))] H := hP
      have hD : va_D A [(h0, .inr (2, [.int (nI n), .ref a1, .ref a2, .ref a3, .ref a4, .ref a5, .ref a6, .ref a7])), (a1, .inl (cI, n, .inl (qS w))), (a2, .inl (cZ, n, .inl (qZ z))), (a3, .inl (cI, n, .inl (qS lo))), (a4, .inl (cI, 4, .inl (qS su))), (a5, .inl (cI, 4, .inl (qN da))), (a6, .inl (cI, 4, .inl (qS ch))), (a7, .inl (cI, 4, .inl (qS (va_up (qm_ar we r 0) 0 (qf_m ((qm_ar we r 0) 0) r)))))] := hD
      subst hQ
      rw [qm_ar_r] at hP hD
      exact W.vret hx hb hr (fun t ht hW => ⟨⟨(), rfl, trivial, by rw [ht]; exact hP, va_K.moved hW.alike hK, hD⟩, hS.F ht⟩) hS.2.2 dX3_addRoot_53
    | succ kc ih =>
      intro i hi  ls H locs hl hP hD hS hc
      subst hi
      refine lv_iload_n hx hb dX3_addRoot_2 rfl (lv_at hl 2 rfl) ?_
      refine lv_if_le (tgt := 37) hx hb dX3_addRoot_3 rfl  (fun h => absurd h (nI_nle (by omega) (by omega))) (fun b3 => ?_)
      refine lv_aload_n hx hb dX3_addRoot_6 rfl (lv_at hl 0 rfl) ?_
      refine va_get (D := (dC, dI)) (ci := 2) (v := .ref a7) (C := RX3) (T := TX3) (N := 8) hx hb hts i_X3 hown hK hP 0 rfl rfl 7 (by decide) k_35 (fun _ h9 => h9) rfl dX3_addRoot_7 ?_
      refine lv_iload_n hx hb dX3_addRoot_10 rfl (lv_at hl 2 rfl) ?_
      refine lv_aload_n hx hb dX3_addRoot_11 rfl (lv_at hl 0 rfl) ?_
      refine va_get (D := (dC, dI)) (ci := 2) (v := .ref a7) (C := RX3) (T := TX3) (N := 8) hx hb hts i_X3 hown hK hP 0 rfl rfl 7 (by decide) k_35 (fun _ h9 => h9) rfl dX3_addRoot_12 ?_
      refine lv_iload_n hx hb dX3_addRoot_15 rfl (lv_at hl 2 rfl) ?_
      refine qr_ildS hx hb hK hP 7 0 rfl rfl (by omega) (by omega) dX3_addRoot_16 ?_
      refine lv_iload_n hx hb dX3_addRoot_17 rfl (lv_at hl 1 rfl) ?_
      refine vp_callSi (va_Run.run (va_runS (As := [.int (sI ((qm_ar we r (kc + 1)) (kc + 1))), .int (sI r)]) (rest := [.int (nI (kc + 1)), .ref a7]) ⟨hx, hb, hml, hown, hts⟩ (qc_times l ((qm_ar we r (kc + 1)) (kc + 1)) r ) (va_cwS 2 hts gX3_addRoot_X1_times rfl rfl rfl (by decide +kernel) ⟨Nat.le_of_ble_eq_true rfl, Nat.le_of_ble_eq_true rfl⟩) ⟨fun a U g mk q => q, fun U hU hW => ⟨rfl, trivial⟩⟩ rfl rfl hl.1 rfl (lv_room (Nat.le_of_ble_eq_true rfl)) dX3_addRoot_18 ⟨Nat.le_of_ble_eq_true rfl, Nat.le_of_ble_eq_true rfl⟩)) (fun r18 hr18 => ?_)
      have hr18 : r18 = sI (qf_m ((qm_ar we r (kc + 1)) (kc + 1)) r) := hr18
      subst hr18
      refine lv_aload_n hx hb dX3_addRoot_21 rfl (lv_at hl 0 rfl) ?_
      refine va_get (D := (dC, dI)) (ci := 2) (v := .ref a7) (C := RX3) (T := TX3) (N := 8) hx hb hts i_X3 hown hK hP 0 rfl rfl 7 (by decide) k_35 (fun _ h9 => h9) rfl dX3_addRoot_22 ?_
      refine lv_iload_n hx hb dX3_addRoot_25 rfl (lv_at hl 2 rfl) ?_
      refine lv_iconst (v := nI 1) hx hb dX3_addRoot_26 (by decide) ?_
      refine qr_isub (z := nI ((kc + 1) - 1)) hx hb dX3_addRoot_27 (pk_sub (by omega)) ?_
      refine qr_ildS hx hb hK hP 7 0 rfl rfl (by omega) (by omega) dX3_addRoot_28 ?_
      refine qr_ixor (z := sI ((qf_m ((qm_ar we r (kc + 1)) (kc + 1)) r) ^^^ ((qm_ar we r (kc + 1)) ((kc + 1) - 1)))) hx hb dX3_addRoot_29 (sI_xor _ _) ?_
      refine qr_istS (x := (qf_m ((qm_ar we r (kc + 1)) (kc + 1)) r) ^^^ ((qm_ar we r (kc + 1)) ((kc + 1) - 1))) hx hb hK hP hD hS 7 0 rfl rfl (by omega) (by omega) dX3_addRoot_30 (fun H locs hP hD hS => ?_)
      have hP : va_P (dC, dI) vwCl [(h0, .inr (2, [.int (nI n), .ref a1, .ref a2, .ref a3, .ref a4, .ref a5, .ref a6, .ref a7])), (a1, .inl (cI, n, .inl (qS w))), (a2, .inl (cZ, n, .inl (qZ z))), (a3, .inl (cI, n, .inl (qS lo))), (a4, .inl (cI, 4, .inl (qS su))), (a5, .inl (cI, 4, .inl (qN da))), (a6, .inl (cI, 4, .inl (qS ch))), (a7, .inl (cI, 4, .inl (qS (va_up (qm_ar we r (kc + 1)) (kc + 1) ((qf_m ((qm_ar we r (kc + 1)) (kc + 1)) r) ^^^ ((qm_ar we r (kc + 1)) ((kc + 1) - 1)))))))] H := hP
      have hD : va_D A [(h0, .inr (2, [.int (nI n), .ref a1, .ref a2, .ref a3, .ref a4, .ref a5, .ref a6, .ref a7])), (a1, .inl (cI, n, .inl (qS w))), (a2, .inl (cZ, n, .inl (qZ z))), (a3, .inl (cI, n, .inl (qS lo))), (a4, .inl (cI, 4, .inl (qS su))), (a5, .inl (cI, 4, .inl (qN da))), (a6, .inl (cI, 4, .inl (qS ch))), (a7, .inl (cI, 4, .inl (qS (va_up (qm_ar we r (kc + 1)) (kc + 1) ((qf_m ((qm_ar we r (kc + 1)) (kc + 1)) r) ^^^ ((qm_ar we r (kc + 1)) ((kc + 1) - 1)))))))] := hD
      refine lv_iinc (k := 2) (v := nI kc) (lv' := [(2, .int (nI kc)), (0, .ref h0), (1, .int (sI r))]) hx hb dX3_addRoot_31 hl rfl (qr_dec _) (by decide) rfl (fun ls hl => ?_)
      refine lv_goto (tgt := 2) hx hb dX3_addRoot_34 rfl ?_
      have hl := lv_sub (l' := [(0, .ref h0), (1, .int (sI r)), (2, .int (nI kc))]) hl [1, 2, 0] rfl
      have e1 : qm_ar we r kc = va_up (qm_ar we r (kc + 1)) (kc + 1) ((qf_m ((qm_ar we r (kc + 1)) (kc + 1)) r) ^^^ ((qm_ar we r (kc + 1)) ((kc + 1) - 1))) := qm_ar_s we r (by omega)
      exact ih kc rfl  ls H _ (by exact hl) (by rw [e1]; exact hP) (by rw [e1]; exact hD) hS (by omega)
  rw [← qm_ar_3 we r] at hP hD
  have hl := lv_sub (l' := [(0, .ref h0), (1, .int (sI r)), (2, .int (nI 3))]) hl [1, 2, 0] rfl
  exact lp2 3 3 rfl  ls s.heap _ hl hP hD hS (by omega)
set_option maxHeartbeats 4000000 in
set_option maxRecDepth 100000 in
/-- Word.weightedSums -/
theorem qc_wsums (l : Launch) (dC : Nat → ClassId) (dI : Nat → Nat → Nat) (cI cZ : ClassId) (h0 a1 a2 a3 a4 a5 a6 a7 n : Nat) (w : Nat → BitVec 8) (z : Nat → Bool) (lo su : Nat → BitVec 8) (da : Nat → Nat) (ch we : Nat → BitVec 8) (hn : n ≤ 16) : Met l yX3_weightedSums wsX3_weightedSums ({ frames := 1, cells := 0, slots := 0, locals := 24 } : Room) (va_Pc [.ref h0] (fun U => va_P (dC, dI) vwCl [(h0, .inr (2, [.int (nI n), .ref a1, .ref a2, .ref a3, .ref a4, .ref a5, .ref a6, .ref a7])), (a1, .inl (cI, n, .inl (qS w))), (a2, .inl (cZ, n, .inl (qZ z))), (a3, .inl (cI, n, .inl (qS lo))), (a4, .inl (cI, 4, .inl (qS su))), (a5, .inl (cI, 4, .inl (qN da))), (a6, .inl (cI, 4, .inl (qS ch))), (a7, .inl (cI, 4, .inl (qS we)))] U.heap ∧ va_K (dC, dI) vwCl [(cI, .int), (cZ, .boolean)] U)) (vp_Si (fun r => r = sI (qw_s (fun k => qf_m (we k) (su k)) 4))) 0 0 (fun _ => False) := by
  refine Met.ofW (cc := cX3_weightedSums) (maxL := 3) (ret := (some .int)) (by decide) rfl ?_
  intro p e s m args below meth c s₁ B hml hv
  obtain ⟨rfl, hP, hK⟩ := hv
  have hx := B.exec
  have hb := B.bytes
  have hr := B.returns
  have hts := atoms_spec (ws := wsX3_weightedSums) B.pre
  have hown : s.vm.findClass RX3 = some m.cls := findClass_of_methodNamed B.named
  have hlocks := B.notSynchronized
  have hP : va_P (dC, dI) vwCl [(h0, .inr (2, [.int (nI n), .ref a1, .ref a2, .ref a3, .ref a4, .ref a5, .ref a6, .ref a7])), (a1, .inl (cI, n, .inl (qS w))), (a2, .inl (cZ, n, .inl (qZ z))), (a3, .inl (cI, n, .inl (qS lo))), (a4, .inl (cI, 4, .inl (qS su))), (a5, .inl (cI, 4, .inl (qN da))), (a6, .inl (cI, 4, .inl (qS ch))), (a7, .inl (cI, 4, .inl (qS we)))] s.heap := hP
  have hl := lv_entry ([.ref h0]) (n := 3) (Nat.le_of_ble_eq_true rfl)
  rw [lg_entry_eq]
  generalize (lg_sl ([.ref h0]) ++ List.replicate (3 - (lg_sl ([.ref h0])).length) Slot.unset).toArray = ls at hl ⊢
  have hl : lv_has ls 3 [(0, .ref h0)] := hl
  have k_35 := hts (.fieldLink RX3 35 "DiscCoder$Word" "weights" "[I") (by decide +kernel)
  have k_26 := hts (.fieldLink RX3 26 "DiscCoder$Word" "sums" "[I") (by decide +kernel)
  have i_X3 : ∀ w ∈ u_ws RX3 TX3 8, w ∈ wsX3_weightedSums := by decide +kernel
  refine qr_nm (fun Q hQ => ?_)
  refine lv_iconst (v := sI 0#8) hx hb dX3_weightedSums_0 (by decide) ?_
  refine lv_istore_n (lv' := [(1, .int (sI 0#8)), (0, .ref h0)]) hx hb dX3_weightedSums_1 rfl hl (by decide) rfl (fun ls hl => ?_)
  refine lv_iconst (v := nI 0) hx hb dX3_weightedSums_2 (by decide) ?_
  refine lv_istore_n (lv' := [(2, .int (nI 0)), (1, .int (sI 0#8)), (0, .ref h0)]) hx hb dX3_weightedSums_3 rfl hl (by decide) rfl (fun ls hl => ?_)
  have lp4 : ∀ (j i : Nat), i + j = 4 → ∀  (ls : Array Slot) , lv_has ls 3 [(0, .ref h0), (1, .int (sI (qw_s (fun k => qf_m (we k) (su k)) i))), (2, .int (nI i))] → W p l e (headSpec wsX3_weightedSums ({ frames := 1, cells := 0, slots := 0, locals := 24 } : Room)).room s m ([.ref h0] : List Value).toArray below meth c s.heap [] 0 0 Q (F0 m 4 ls []) := by
    intro j
    induction j with
    | zero =>
      intro i hi  ls hl
      have e9 : 4 = i := by omega
      subst e9
      refine lv_iload_n hx hb dX3_weightedSums_4 rfl (lv_at hl 2 rfl) ?_
      refine lv_iconst (v := nI 4) hx hb dX3_weightedSums_5 (by decide) ?_
      refine qr_ge (tgt := 33) hx hb dX3_weightedSums_6 rfl (by omega) (by omega) (fun b6 => ?_) (fun h => absurd h (by omega))
      refine lv_iload_n hx hb dX3_weightedSums_33 rfl (lv_at hl 1 rfl) ?_
      subst hQ
      exact W.iret hx hb hr (fun t ht hW => ⟨_, rfl, rfl, ht⟩) (fun _ h => absurd h List.not_mem_nil) dX3_weightedSums_34
    | succ j ih =>
      intro i hi  ls hl
      have li : i < 4 := by omega
      refine lv_iload_n hx hb dX3_weightedSums_4 rfl (lv_at hl 2 rfl) ?_
      refine lv_iconst (v := nI 4) hx hb dX3_weightedSums_5 (by decide) ?_
      refine qr_ge (tgt := 33) hx hb dX3_weightedSums_6 rfl (by omega) (by omega) (fun h => absurd h (by omega)) (fun b6 => ?_)
      refine lv_iload_n hx hb dX3_weightedSums_9 rfl (lv_at hl 1 rfl) ?_
      refine lv_aload_n hx hb dX3_weightedSums_10 rfl (lv_at hl 0 rfl) ?_
      refine va_get (D := (dC, dI)) (ci := 2) (v := .ref a7) (C := RX3) (T := TX3) (N := 8) hx hb hts i_X3 hown hK hP 0 rfl rfl 7 (by decide) k_35 (fun _ h9 => h9) rfl dX3_weightedSums_11 ?_
      refine lv_iload_n hx hb dX3_weightedSums_14 rfl (lv_at hl 2 rfl) ?_
      refine qr_ildS hx hb hK hP 7 0 rfl rfl (by omega) (by omega) dX3_weightedSums_15 ?_
      refine lv_aload_n hx hb dX3_weightedSums_16 rfl (lv_at hl 0 rfl) ?_
      refine va_get (D := (dC, dI)) (ci := 2) (v := .ref a4) (C := RX3) (T := TX3) (N := 8) hx hb hts i_X3 hown hK hP 0 rfl rfl 4 (by decide) k_26 (fun _ h9 => h9) rfl dX3_weightedSums_17 ?_
      refine lv_iload_n hx hb dX3_weightedSums_20 rfl (lv_at hl 2 rfl) ?_
      refine qr_ildS hx hb hK hP 4 0 rfl rfl (by omega) (by omega) dX3_weightedSums_21 ?_
      refine vp_callSi (va_Run.run (va_runS (As := [.int (sI (we i)), .int (sI (su i))]) (rest := [.int (sI (qw_s (fun k => qf_m (we k) (su k)) i))]) ⟨hx, hb, hml, hown, hts⟩ (qc_times l (we i) (su i) ) (va_cwS 2 hts gX3_weightedSums_X1_times rfl rfl rfl (by decide +kernel) ⟨Nat.le_of_ble_eq_true rfl, Nat.le_of_ble_eq_true rfl⟩) ⟨fun a U g mk q => q, fun U hU hW => ⟨rfl, trivial⟩⟩ rfl rfl hl.1 rfl (lv_room (Nat.le_of_ble_eq_true rfl)) dX3_weightedSums_22 ⟨Nat.le_of_ble_eq_true rfl, Nat.le_of_ble_eq_true rfl⟩)) (fun r22 hr22 => ?_)
      have hr22 : r22 = sI (qf_m (we i) (su i)) := hr22
      subst hr22
      refine qr_ixor (z := sI ((qw_s (fun k => qf_m (we k) (su k)) i) ^^^ (qf_m (we i) (su i)))) hx hb dX3_weightedSums_25 (sI_xor _ _) ?_
      refine lv_istore_n (lv' := [(1, .int (sI ((qw_s (fun k => qf_m (we k) (su k)) i) ^^^ (qf_m (we i) (su i))))), (0, .ref h0), (2, .int (nI i))]) hx hb dX3_weightedSums_26 rfl hl (by decide) rfl (fun ls hl => ?_)
      refine lv_iinc (k := 2) (v := nI (i + 1)) (lv' := [(2, .int (nI (i + 1))), (1, .int (sI ((qw_s (fun k => qf_m (we k) (su k)) i) ^^^ (qf_m (we i) (su i))))), (0, .ref h0)]) hx hb dX3_weightedSums_27 hl rfl (qr_inc _) (by decide) rfl (fun ls hl => ?_)
      refine lv_goto (tgt := 4) hx hb dX3_weightedSums_30 rfl ?_
      have hl := lv_sub (l' := [(0, .ref h0), (1, .int (sI ((qw_s (fun k => qf_m (we k) (su k)) i) ^^^ (qf_m (we i) (su i))))), (2, .int (nI (i + 1)))]) hl [2, 1, 0] rfl
      have e1 : qw_s (fun k => qf_m (we k) (su k)) (i + 1) = (qw_s (fun k => qf_m (we k) (su k)) i) ^^^ (qf_m (we i) (su i)) := by first | rfl | (simp only [cond_true, cond_false])
      exact ih (i + 1) (by omega)  ls (by rw [e1]; exact hl) 
  have hl := lv_sub (l' := [(0, .ref h0), (1, .int (sI 0#8)), (2, .int (nI 0))]) hl [2, 1, 0] rfl
  exact lp4 4 0 (by omega)  ls hl 
set_option maxHeartbeats 4000000 in
set_option maxRecDepth 100000 in
/-- Word.beginWith -/
theorem qc_begin (l : Launch) (dC : Nat → ClassId) (dI : Nat → Nat → Nat) (cI cZ : ClassId) (h0 a1 a2 a3 a4 a5 a6 a7 n : Nat) (w : Nat → BitVec 8) (z : Nat → Bool) (lo su : Nat → BitVec 8) (da : Nat → Nat) (ch we : Nat → BitVec 8) (x : Int64) (sz : Nat) (hn : n ≤ 16) (h8 : 8 ≤ n) : Met l yX3_beginWith wsX3_beginWith ({ frames := 0, cells := 0, slots := 0, locals := 0 } : Room) (va_Pc [.ref h0, .long x] (fun U => U.heap.size = sz ∧ va_P (dC, dI) vwCl [(h0, .inr (2, [.int (nI n), .ref a1, .ref a2, .ref a3, .ref a4, .ref a5, .ref a6, .ref a7])), (a1, .inl (cI, n, .inl (qS w))), (a2, .inl (cZ, n, .inl (qZ z))), (a3, .inl (cI, n, .inl (qS lo))), (a4, .inl (cI, 4, .inl (qS su))), (a5, .inl (cI, 4, .inl (qN da))), (a6, .inl (cI, 4, .inl (qS ch))), (a7, .inl (cI, 4, .inl (qS we)))] U.heap ∧ va_K (dC, dI) vwCl [(cI, .int), (cZ, .boolean)] U ∧ va_D (fun _ => True) [(h0, .inr (2, [.int (nI n), .ref a1, .ref a2, .ref a3, .ref a4, .ref a5, .ref a6, .ref a7])), (a1, .inl (cI, n, .inl (qS w))), (a2, .inl (cZ, n, .inl (qZ z))), (a3, .inl (cI, n, .inl (qS lo))), (a4, .inl (cI, 4, .inl (qS su))), (a5, .inl (cI, 4, .inl (qN da))), (a6, .inl (cI, 4, .inl (qS ch))), (a7, .inl (cI, 4, .inl (qS we)))])) (va_Qv (fun (_ : Unit) => True) (fun _ t => va_P (dC, dI) vwCl [(h0, .inr (2, [.int (nI n), .ref a1, .ref a2, .ref a3, .ref a4, .ref a5, .ref a6, .ref a7])), (a1, .inl (cI, n, .inl (qS (qm_bw x w 8)))), (a2, .inl (cZ, n, .inl (qZ z))), (a3, .inl (cI, n, .inl (qS lo))), (a4, .inl (cI, 4, .inl (qS su))), (a5, .inl (cI, 4, .inl (qN da))), (a6, .inl (cI, 4, .inl (qS ch))), (a7, .inl (cI, 4, .inl (qS we)))] t.heap ∧ va_K (dC, dI) vwCl [(cI, .int), (cZ, .boolean)] t ∧ va_D (va_A [(h0, .inr (2, [.int (nI n), .ref a1, .ref a2, .ref a3, .ref a4, .ref a5, .ref a6, .ref a7])), (a1, .inl (cI, n, .inl (qS w))), (a2, .inl (cZ, n, .inl (qZ z))), (a3, .inl (cI, n, .inl (qS lo))), (a4, .inl (cI, 4, .inl (qS su))), (a5, .inl (cI, 4, .inl (qN da))), (a6, .inl (cI, 4, .inl (qS ch))), (a7, .inl (cI, 4, .inl (qS we)))] sz) [(h0, .inr (2, [.int (nI n), .ref a1, .ref a2, .ref a3, .ref a4, .ref a5, .ref a6, .ref a7])), (a1, .inl (cI, n, .inl (qS (qm_bw x w 8)))), (a2, .inl (cZ, n, .inl (qZ z))), (a3, .inl (cI, n, .inl (qS lo))), (a4, .inl (cI, 4, .inl (qS su))), (a5, .inl (cI, 4, .inl (qN da))), (a6, .inl (cI, 4, .inl (qS ch))), (a7, .inl (cI, 4, .inl (qS we)))]) (va_A [(h0, .inr (2, [.int (nI n), .ref a1, .ref a2, .ref a3, .ref a4, .ref a5, .ref a6, .ref a7])), (a1, .inl (cI, n, .inl (qS w))), (a2, .inl (cZ, n, .inl (qZ z))), (a3, .inl (cI, n, .inl (qS lo))), (a4, .inl (cI, 4, .inl (qS su))), (a5, .inl (cI, 4, .inl (qN da))), (a6, .inl (cI, 4, .inl (qS ch))), (a7, .inl (cI, 4, .inl (qS we)))] sz)) 0 0 (va_A [(h0, .inr (2, [.int (nI n), .ref a1, .ref a2, .ref a3, .ref a4, .ref a5, .ref a6, .ref a7])), (a1, .inl (cI, n, .inl (qS w))), (a2, .inl (cZ, n, .inl (qZ z))), (a3, .inl (cI, n, .inl (qS lo))), (a4, .inl (cI, 4, .inl (qS su))), (a5, .inl (cI, 4, .inl (qN da))), (a6, .inl (cI, 4, .inl (qS ch))), (a7, .inl (cI, 4, .inl (qS we)))] sz) := by
  refine Met.ofW (cc := cX3_beginWith) (maxL := 4) (ret := none) (by decide) rfl ?_
  intro p e s m args below meth c s₁ B hml hv
  obtain ⟨rfl, hsz, hP, hK, hD0⟩ := hv
  have hx := B.exec
  have hb := B.bytes
  have hr := B.returns
  have hts := atoms_spec (ws := wsX3_beginWith) B.pre
  have hown : s.vm.findClass RX3 = some m.cls := findClass_of_methodNamed B.named
  have hlocks := B.notSynchronized
  subst hsz
  have hD := hD0.self (sz := s.heap.size)
  generalize hAe : va_A [(h0, .inr (2, [.int (nI n), .ref a1, .ref a2, .ref a3, .ref a4, .ref a5, .ref a6, .ref a7])), (a1, .inl (cI, n, .inl (qS w))), (a2, .inl (cZ, n, .inl (qZ z))), (a3, .inl (cI, n, .inl (qS lo))), (a4, .inl (cI, 4, .inl (qS su))), (a5, .inl (cI, 4, .inl (qN da))), (a6, .inl (cI, 4, .inl (qS ch))), (a7, .inl (cI, 4, .inl (qS we)))] s.heap.size = A at hD ⊢
  have hA : ∀ q : Nat, s.heap.size ≤ q → A q := fun q h => by rw [← hAe]; exact Or.inr h
  have hS : va_S A s.heap s.heap [] := va_S.rf
  have hP : va_P (dC, dI) vwCl [(h0, .inr (2, [.int (nI n), .ref a1, .ref a2, .ref a3, .ref a4, .ref a5, .ref a6, .ref a7])), (a1, .inl (cI, n, .inl (qS w))), (a2, .inl (cZ, n, .inl (qZ z))), (a3, .inl (cI, n, .inl (qS lo))), (a4, .inl (cI, 4, .inl (qS su))), (a5, .inl (cI, 4, .inl (qN da))), (a6, .inl (cI, 4, .inl (qS ch))), (a7, .inl (cI, 4, .inl (qS we)))] s.heap := hP
  have hl := lv_entry ([.ref h0, .long x]) (n := 4) (Nat.le_of_ble_eq_true rfl)
  rw [lg_entry_eq]
  generalize (lg_sl ([.ref h0, .long x]) ++ List.replicate (4 - (lg_sl ([.ref h0, .long x])).length) Slot.unset).toArray = ls at hl ⊢
  have hl : lv_has ls 4 [(0, .ref h0), (1, .long x)] := hl
  have k_15 := hts (.fieldLink RX3 15 "DiscCoder$Word" "symbols" "[I") (by decide +kernel)
  have i_X3 : ∀ w ∈ u_ws RX3 TX3 8, w ∈ wsX3_beginWith := by decide +kernel
  refine qr_nm (fun Q hQ => ?_)
  refine lv_iconst (v := nI 0) hx hb dX3_beginWith_0 (by decide) ?_
  refine lv_istore_n (lv' := [(3, .int (nI 0)), (0, .ref h0), (1, .long x)]) hx hb dX3_beginWith_1 rfl hl (by decide) rfl (fun ls hl => ?_)
  have lp2 : ∀ (j i : Nat), i + j = 8 → ∀  (ls : Array Slot) (H : Heap) (locs : List Loc), lv_has ls 4 [(0, .ref h0), (1, .long x), (3, .int (nI i))] → va_P (dC, dI) vwCl [(h0, .inr (2, [.int (nI n), .ref a1, .ref a2, .ref a3, .ref a4, .ref a5, .ref a6, .ref a7])), (a1, .inl (cI, n, .inl (qS (qm_bw x w i)))), (a2, .inl (cZ, n, .inl (qZ z))), (a3, .inl (cI, n, .inl (qS lo))), (a4, .inl (cI, 4, .inl (qS su))), (a5, .inl (cI, 4, .inl (qN da))), (a6, .inl (cI, 4, .inl (qS ch))), (a7, .inl (cI, 4, .inl (qS we)))] H → va_D A [(h0, .inr (2, [.int (nI n), .ref a1, .ref a2, .ref a3, .ref a4, .ref a5, .ref a6, .ref a7])), (a1, .inl (cI, n, .inl (qS (qm_bw x w i)))), (a2, .inl (cZ, n, .inl (qZ z))), (a3, .inl (cI, n, .inl (qS lo))), (a4, .inl (cI, 4, .inl (qS su))), (a5, .inl (cI, 4, .inl (qN da))), (a6, .inl (cI, 4, .inl (qS ch))), (a7, .inl (cI, 4, .inl (qS we)))] → va_S A s.heap H locs → W p l e (headSpec wsX3_beginWith ({ frames := 0, cells := 0, slots := 0, locals := 0 } : Room)).room s m ([.ref h0, .long x] : List Value).toArray below meth c H locs 0 0 Q (F0 m 2 ls []) := by
    intro j
    induction j with
    | zero =>
      intro i hi  ls H locs hl hP hD hS
      have e9 : 8 = i := by omega
      subst e9
      refine lv_iload_n hx hb dX3_beginWith_2 rfl (lv_at hl 2 rfl) ?_
      refine lv_bipush (v := nI 8) hx hb dX3_beginWith_3 (by decide) ?_
      refine qr_ge (tgt := 31) hx hb dX3_beginWith_5 rfl (by omega) (by omega) (fun b5 => ?_) (fun h => absurd h (by omega))
      subst hQ
      exact W.vret hx hb hr (fun t ht hW => ⟨⟨(), rfl, trivial, by rw [ht]; exact hP, va_K.moved hW.alike hK, hD⟩, hS.F ht⟩) hS.2.2 dX3_beginWith_31
    | succ j ih =>
      intro i hi  ls H locs hl hP hD hS
      have li : i < 8 := by omega
      refine lv_iload_n hx hb dX3_beginWith_2 rfl (lv_at hl 2 rfl) ?_
      refine lv_bipush (v := nI 8) hx hb dX3_beginWith_3 (by decide) ?_
      refine qr_ge (tgt := 31) hx hb dX3_beginWith_5 rfl (by omega) (by omega) (fun h => absurd h (by omega)) (fun b5 => ?_)
      refine lv_aload_n hx hb dX3_beginWith_8 rfl (lv_at hl 0 rfl) ?_
      refine va_get (D := (dC, dI)) (ci := 2) (v := .ref a1) (C := RX3) (T := TX3) (N := 8) hx hb hts i_X3 hown hK hP 0 rfl rfl 1 (by decide) k_15 (fun _ h9 => h9) rfl dX3_beginWith_9 ?_
      refine lv_iload_n hx hb dX3_beginWith_12 rfl (lv_at hl 2 rfl) ?_
      refine lv_lload_n hx hb dX3_beginWith_13 rfl (lv_at hl 1 rfl) ?_
      refine lv_bipush (v := nI 8) hx hb dX3_beginWith_14 (by decide) ?_
      refine lv_iload_n hx hb dX3_beginWith_16 rfl (lv_at hl 2 rfl) ?_
      refine qr_imul (z := nI (8 * i)) hx hb dX3_beginWith_17 (pk_mul _ _) ?_
      refine lv_lushr (v := qm_sx x i) hx hb dX3_beginWith_18 rfl ?_
      refine lv_l2i (v := (qm_sx x i).toInt32) hx hb dX3_beginWith_19 rfl ?_
      refine lv_sipush (v := nI 255) hx hb dX3_beginWith_20 (by decide) ?_
      refine qr_iand (z := sI (qm_by x i)) hx hb dX3_beginWith_23 (qm_byte x (by omega)) ?_
      refine qr_istS (x := qm_by x i) hx hb hK hP hD hS 1 0 rfl rfl (by omega) (by omega) dX3_beginWith_24 (fun H locs hP hD hS => ?_)
      have hP : va_P (dC, dI) vwCl [(h0, .inr (2, [.int (nI n), .ref a1, .ref a2, .ref a3, .ref a4, .ref a5, .ref a6, .ref a7])), (a1, .inl (cI, n, .inl (qS (va_up (qm_bw x w i) i (qm_by x i))))), (a2, .inl (cZ, n, .inl (qZ z))), (a3, .inl (cI, n, .inl (qS lo))), (a4, .inl (cI, 4, .inl (qS su))), (a5, .inl (cI, 4, .inl (qN da))), (a6, .inl (cI, 4, .inl (qS ch))), (a7, .inl (cI, 4, .inl (qS we)))] H := hP
      have hD : va_D A [(h0, .inr (2, [.int (nI n), .ref a1, .ref a2, .ref a3, .ref a4, .ref a5, .ref a6, .ref a7])), (a1, .inl (cI, n, .inl (qS (va_up (qm_bw x w i) i (qm_by x i))))), (a2, .inl (cZ, n, .inl (qZ z))), (a3, .inl (cI, n, .inl (qS lo))), (a4, .inl (cI, 4, .inl (qS su))), (a5, .inl (cI, 4, .inl (qN da))), (a6, .inl (cI, 4, .inl (qS ch))), (a7, .inl (cI, 4, .inl (qS we)))] := hD
      refine lv_iinc (k := 2) (v := nI (i + 1)) (lv' := [(3, .int (nI (i + 1))), (0, .ref h0), (1, .long x)]) hx hb dX3_beginWith_25 hl rfl (qr_inc _) (by decide) rfl (fun ls hl => ?_)
      refine lv_goto (tgt := 2) hx hb dX3_beginWith_28 rfl ?_
      have hl := lv_sub (l' := [(0, .ref h0), (1, .long x), (3, .int (nI (i + 1)))]) hl [1, 2, 0] rfl
      have e1 : qm_bw x w (i + 1) = va_up (qm_bw x w i) i (qm_by x i) := by first | rfl | (simp only [cond_true, cond_false])
      exact ih (i + 1) (by omega)  ls H _ (by exact hl) (by rw [e1]; exact hP) (by rw [e1]; exact hD) hS 
  have hl := lv_sub (l' := [(0, .ref h0), (1, .long x), (3, .int (nI 0))]) hl [1, 2, 0] rfl
  exact lp2 8 0 (by omega)  ls s.heap _ hl hP hD hS 
set_option maxHeartbeats 4000000 in
set_option maxRecDepth 100000 in
/-- Word.changeAt -/
theorem qc_change (l : Launch) (dC : Nat → ClassId) (dI : Nat → Nat → Nat) (cI cZ : ClassId) (h0 a1 a2 a3 a4 a5 a6 a7 n : Nat) (w : Nat → BitVec 8) (z : Nat → Bool) (lo su : Nat → BitVec 8) (da : Nat → Nat) (ch we : Nat → BitVec 8) (x mm : Nat) (sz : Nat) (hn : n ≤ 16) (hm : mm ≤ 4) (hx0 : x < mm) (hd : ∀ c, c < mm → da c < n) : Met l yX3_changeAt wsX3_changeAt ({ frames := 2, cells := 0, slots := 0, locals := 47 } : Room) (va_Pc [.ref h0, .int (nI x), .int (nI mm)] (fun U => U.heap.size = sz ∧ va_P (dC, dI) vwCl [(h0, .inr (2, [.int (nI n), .ref a1, .ref a2, .ref a3, .ref a4, .ref a5, .ref a6, .ref a7])), (a1, .inl (cI, n, .inl (qS w))), (a2, .inl (cZ, n, .inl (qZ z))), (a3, .inl (cI, n, .inl (qS lo))), (a4, .inl (cI, 4, .inl (qS su))), (a5, .inl (cI, 4, .inl (qN da))), (a6, .inl (cI, 4, .inl (qS ch))), (a7, .inl (cI, 4, .inl (qS we)))] U.heap ∧ va_K (dC, dI) vwCl [(cI, .int), (cZ, .boolean)] U ∧ va_D (fun _ => True) [(h0, .inr (2, [.int (nI n), .ref a1, .ref a2, .ref a3, .ref a4, .ref a5, .ref a6, .ref a7])), (a1, .inl (cI, n, .inl (qS w))), (a2, .inl (cZ, n, .inl (qZ z))), (a3, .inl (cI, n, .inl (qS lo))), (a4, .inl (cI, 4, .inl (qS su))), (a5, .inl (cI, 4, .inl (qN da))), (a6, .inl (cI, 4, .inl (qS ch))), (a7, .inl (cI, 4, .inl (qS we)))])) (va_Qi (fun (r : Int32) (_ : Unit) => r = sI (qf_m (qw_s (fun k => qf_m (qw_V (fun c => lo (da c)) x (qm_st we 3) mm k) (su k)) 4) (qf_i (qw_e (fun c => lo (da c)) x (lo (da x)) mm)))) (fun _ t => va_P (dC, dI) vwCl [(h0, .inr (2, [.int (nI n), .ref a1, .ref a2, .ref a3, .ref a4, .ref a5, .ref a6, .ref a7])), (a1, .inl (cI, n, .inl (qS w))), (a2, .inl (cZ, n, .inl (qZ z))), (a3, .inl (cI, n, .inl (qS lo))), (a4, .inl (cI, 4, .inl (qS su))), (a5, .inl (cI, 4, .inl (qN da))), (a6, .inl (cI, 4, .inl (qS ch))), (a7, .inl (cI, 4, .inl (qS (qw_V (fun c => lo (da c)) x (qm_st we 3) mm))))] t.heap ∧ va_K (dC, dI) vwCl [(cI, .int), (cZ, .boolean)] t ∧ va_D (va_A [(h0, .inr (2, [.int (nI n), .ref a1, .ref a2, .ref a3, .ref a4, .ref a5, .ref a6, .ref a7])), (a1, .inl (cI, n, .inl (qS w))), (a2, .inl (cZ, n, .inl (qZ z))), (a3, .inl (cI, n, .inl (qS lo))), (a4, .inl (cI, 4, .inl (qS su))), (a5, .inl (cI, 4, .inl (qN da))), (a6, .inl (cI, 4, .inl (qS ch))), (a7, .inl (cI, 4, .inl (qS we)))] sz) [(h0, .inr (2, [.int (nI n), .ref a1, .ref a2, .ref a3, .ref a4, .ref a5, .ref a6, .ref a7])), (a1, .inl (cI, n, .inl (qS w))), (a2, .inl (cZ, n, .inl (qZ z))), (a3, .inl (cI, n, .inl (qS lo))), (a4, .inl (cI, 4, .inl (qS su))), (a5, .inl (cI, 4, .inl (qN da))), (a6, .inl (cI, 4, .inl (qS ch))), (a7, .inl (cI, 4, .inl (qS (qw_V (fun c => lo (da c)) x (qm_st we 3) mm))))]) (va_A [(h0, .inr (2, [.int (nI n), .ref a1, .ref a2, .ref a3, .ref a4, .ref a5, .ref a6, .ref a7])), (a1, .inl (cI, n, .inl (qS w))), (a2, .inl (cZ, n, .inl (qZ z))), (a3, .inl (cI, n, .inl (qS lo))), (a4, .inl (cI, 4, .inl (qS su))), (a5, .inl (cI, 4, .inl (qN da))), (a6, .inl (cI, 4, .inl (qS ch))), (a7, .inl (cI, 4, .inl (qS we)))] sz)) 0 0 (va_A [(h0, .inr (2, [.int (nI n), .ref a1, .ref a2, .ref a3, .ref a4, .ref a5, .ref a6, .ref a7])), (a1, .inl (cI, n, .inl (qS w))), (a2, .inl (cZ, n, .inl (qZ z))), (a3, .inl (cI, n, .inl (qS lo))), (a4, .inl (cI, 4, .inl (qS su))), (a5, .inl (cI, 4, .inl (qN da))), (a6, .inl (cI, 4, .inl (qS ch))), (a7, .inl (cI, 4, .inl (qS we)))] sz) := by
  refine Met.ofW (cc := cX3_changeAt) (maxL := 7) (ret := (some .int)) (by decide) rfl ?_
  intro p e s m args below meth c s₁ B hml hv
  obtain ⟨rfl, hsz, hP, hK, hD0⟩ := hv
  have hx := B.exec
  have hb := B.bytes
  have hr := B.returns
  have hts := atoms_spec (ws := wsX3_changeAt) B.pre
  have hown : s.vm.findClass RX3 = some m.cls := findClass_of_methodNamed B.named
  have hlocks := B.notSynchronized
  subst hsz
  have hD := hD0.self (sz := s.heap.size)
  generalize hAe : va_A [(h0, .inr (2, [.int (nI n), .ref a1, .ref a2, .ref a3, .ref a4, .ref a5, .ref a6, .ref a7])), (a1, .inl (cI, n, .inl (qS w))), (a2, .inl (cZ, n, .inl (qZ z))), (a3, .inl (cI, n, .inl (qS lo))), (a4, .inl (cI, 4, .inl (qS su))), (a5, .inl (cI, 4, .inl (qN da))), (a6, .inl (cI, 4, .inl (qS ch))), (a7, .inl (cI, 4, .inl (qS we)))] s.heap.size = A at hD ⊢
  have hA : ∀ q : Nat, s.heap.size ≤ q → A q := fun q h => by rw [← hAe]; exact Or.inr h
  have hS : va_S A s.heap s.heap [] := va_S.rf
  have hP : va_P (dC, dI) vwCl [(h0, .inr (2, [.int (nI n), .ref a1, .ref a2, .ref a3, .ref a4, .ref a5, .ref a6, .ref a7])), (a1, .inl (cI, n, .inl (qS w))), (a2, .inl (cZ, n, .inl (qZ z))), (a3, .inl (cI, n, .inl (qS lo))), (a4, .inl (cI, 4, .inl (qS su))), (a5, .inl (cI, 4, .inl (qN da))), (a6, .inl (cI, 4, .inl (qS ch))), (a7, .inl (cI, 4, .inl (qS we)))] s.heap := hP
  have hl := lv_entry ([.ref h0, .int (nI x), .int (nI mm)]) (n := 7) (Nat.le_of_ble_eq_true rfl)
  rw [lg_entry_eq]
  generalize (lg_sl ([.ref h0, .int (nI x), .int (nI mm)]) ++ List.replicate (7 - (lg_sl ([.ref h0, .int (nI x), .int (nI mm)])).length) Slot.unset).toArray = ls at hl ⊢
  have hl : lv_has ls 7 [(0, .ref h0), (1, .int (nI x)), (2, .int (nI mm))] := hl
  have k_23 := hts (.fieldLink RX3 23 "DiscCoder$Word" "locators" "[I") (by decide +kernel)
  have k_29 := hts (.fieldLink RX3 29 "DiscCoder$Word" "doubtedAt" "[I") (by decide +kernel)
  have i_X3 : ∀ w ∈ u_ws RX3 TX3 8, w ∈ wsX3_changeAt := by decide +kernel
  refine qr_nm (fun Q hQ => ?_)
  refine lv_aload_n hx hb dX3_changeAt_0 rfl (lv_at hl 0 rfl) ?_
  refine va_get (D := (dC, dI)) (ci := 2) (v := .ref a3) (C := RX3) (T := TX3) (N := 8) hx hb hts i_X3 hown hK hP 0 rfl rfl 3 (by decide) k_23 (fun _ h9 => h9) rfl dX3_changeAt_1 ?_
  refine lv_aload_n hx hb dX3_changeAt_4 rfl (lv_at hl 0 rfl) ?_
  refine va_get (D := (dC, dI)) (ci := 2) (v := .ref a5) (C := RX3) (T := TX3) (N := 8) hx hb hts i_X3 hown hK hP 0 rfl rfl 5 (by decide) k_29 (fun _ h9 => h9) rfl dX3_changeAt_5 ?_
  refine lv_iload_n hx hb dX3_changeAt_8 rfl (lv_at hl 1 rfl) ?_
  refine qr_ildN hx hb hK hP 5 0 rfl rfl (by omega) (by omega) dX3_changeAt_9 ?_
  refine qr_ildS hx hb hK hP 3 0 rfl rfl (hd x hx0) (by omega) dX3_changeAt_10 ?_
  refine lv_istore_n (lv' := [(3, .int (sI (lo (da x)))), (0, .ref h0), (1, .int (nI x)), (2, .int (nI mm))]) hx hb dX3_changeAt_11 rfl hl (by decide) rfl (fun ls hl => ?_)
  refine lv_iconst (v := sI 1#8) hx hb dX3_changeAt_12 (by decide) ?_
  refine lv_istore (lv' := [(4, .int (sI 1#8)), (3, .int (sI (lo (da x)))), (0, .ref h0), (1, .int (nI x)), (2, .int (nI mm))]) hx hb dX3_changeAt_13 hl (by decide) rfl (fun ls hl => ?_)
  refine lv_aload_n hx hb dX3_changeAt_15 rfl (lv_at hl 2 rfl) ?_
  have hPc := hP.sub (ws' := [(h0, .inr (2, [.int (nI n), .ref a1, .ref a2, .ref a3, .ref a4, .ref a5, .ref a6, .ref a7])), (a1, .inl (cI, n, .inl (qS w))), (a2, .inl (cZ, n, .inl (qZ z))), (a3, .inl (cI, n, .inl (qS lo))), (a4, .inl (cI, 4, .inl (qS su))), (a5, .inl (cI, 4, .inl (qN da))), (a6, .inl (cI, 4, .inl (qS ch))), (a7, .inl (cI, 4, .inl (qS we)))]) [0, 1, 2, 3, 4, 5, 6, 7] rfl
  have hDc := hD.sub (ws' := [(h0, .inr (2, [.int (nI n), .ref a1, .ref a2, .ref a3, .ref a4, .ref a5, .ref a6, .ref a7])), (a1, .inl (cI, n, .inl (qS w))), (a2, .inl (cZ, n, .inl (qZ z))), (a3, .inl (cI, n, .inl (qS lo))), (a4, .inl (cI, 4, .inl (qS su))), (a5, .inl (cI, 4, .inl (qN da))), (a6, .inl (cI, 4, .inl (qS ch))), (a7, .inl (cI, 4, .inl (qS we)))]) [0, 1, 2, 3, 4, 5, 6, 7] (by decide) rfl
  have hKc := hK.sub (tys' := [(cI, .int), (cZ, .boolean)]) [0, 1] rfl
  have hFc := va_free (wc := [(h0, .inr (2, [.int (nI n), .ref a1, .ref a2, .ref a3, .ref a4, .ref a5, .ref a6, .ref a7])), (a1, .inl (cI, n, .inl (qS w))), (a2, .inl (cZ, n, .inl (qZ z))), (a3, .inl (cI, n, .inl (qS lo))), (a4, .inl (cI, 4, .inl (qS su))), (a5, .inl (cI, 4, .inl (qN da))), (a6, .inl (cI, 4, .inl (qS ch))), (a7, .inl (cI, 4, .inl (qS we)))]) hD hS hA [0, 1, 2, 3, 4, 5, 6, 7] rfl
  refine va_callv (va_runV (As := []) (rest := []) ⟨hx, hb, hml, hown, hts⟩ (qc_start l dC dI cI cZ h0 a1 a2 a3 a4 a5 a6 a7 n w z lo su da ch we s.heap.size hn) (cwV 0 hts gX3_changeAt_X3_startWeights rfl rfl rfl (by decide +kernel) ⟨Nat.le_of_ble_eq_true rfl, Nat.le_of_ble_eq_true rfl⟩) ⟨fun a U g mk q => by obtain ⟨q0, q1, qP, qK, qD⟩ := q; exact ⟨q0, q1, qP, va_K.moved (u := U) (U := U.calling g mk a) (Vm.Alike.refl U.vm) qK, qD⟩, (va_recv (q0 := 0) (ci := 2) hK hP rfl rfl), fun U hU hW => ⟨rfl, by rw [hU], by rw [hU]; exact hPc, va_K.moved hW.alike hKc, hDc.weaken (fun _ _ _ _ => trivial)⟩⟩ rfl rfl hl.1 rfl (lv_room (Nat.le_of_ble_eq_true rfl)) dX3_changeAt_16 ⟨Nat.le_of_ble_eq_true rfl, Nat.le_of_ble_eq_true rfl⟩) hS (fun q _ h => hFc q h) hFc (fun u t H1 locs ht hvm hr16 hB hz1 hk1 hS => ?_)
  obtain ⟨hP1, hK1, hD1⟩ := hB
  rw [ht] at hP1
  have hP1 : va_P (dC, dI) vwCl [(h0, .inr (2, [.int (nI n), .ref a1, .ref a2, .ref a3, .ref a4, .ref a5, .ref a6, .ref a7])), (a1, .inl (cI, n, .inl (qS w))), (a2, .inl (cZ, n, .inl (qZ z))), (a3, .inl (cI, n, .inl (qS lo))), (a4, .inl (cI, 4, .inl (qS su))), (a5, .inl (cI, 4, .inl (qN da))), (a6, .inl (cI, 4, .inl (qS ch))), (a7, .inl (cI, 4, .inl (qS (qm_st we 3))))] H1 := hP1
  obtain ⟨hP, hD⟩ := qj_join (wc := [(h0, .inr (2, [.int (nI n), .ref a1, .ref a2, .ref a3, .ref a4, .ref a5, .ref a6, .ref a7])), (a1, .inl (cI, n, .inl (qS w))), (a2, .inl (cZ, n, .inl (qZ z))), (a3, .inl (cI, n, .inl (qS lo))), (a4, .inl (cI, 4, .inl (qS su))), (a5, .inl (cI, 4, .inl (qN da))), (a6, .inl (cI, 4, .inl (qS ch))), (a7, .inl (cI, 4, .inl (qS we)))]) (w1 := [(h0, .inr (2, [.int (nI n), .ref a1, .ref a2, .ref a3, .ref a4, .ref a5, .ref a6, .ref a7])), (a1, .inl (cI, n, .inl (qS w))), (a2, .inl (cZ, n, .inl (qZ z))), (a3, .inl (cI, n, .inl (qS lo))), (a4, .inl (cI, 4, .inl (qS su))), (a5, .inl (cI, 4, .inl (qN da))), (a6, .inl (cI, 4, .inl (qS ch))), (a7, .inl (cI, 4, .inl (qS (qm_st we 3))))]) hP hD [0, 1, 2, 3, 4, 5, 6, 7] rfl rfl hk1 hP1
  generalize H1 = H at hP hS ⊢
  have hP : va_P (dC, dI) vwCl [(h0, .inr (2, [.int (nI n), .ref a1, .ref a2, .ref a3, .ref a4, .ref a5, .ref a6, .ref a7])), (a1, .inl (cI, n, .inl (qS w))), (a2, .inl (cZ, n, .inl (qZ z))), (a3, .inl (cI, n, .inl (qS lo))), (a4, .inl (cI, 4, .inl (qS su))), (a5, .inl (cI, 4, .inl (qN da))), (a6, .inl (cI, 4, .inl (qS ch))), (a7, .inl (cI, 4, .inl (qS (qm_st we 3))))] H := hP
  have hD : va_D A [(h0, .inr (2, [.int (nI n), .ref a1, .ref a2, .ref a3, .ref a4, .ref a5, .ref a6, .ref a7])), (a1, .inl (cI, n, .inl (qS w))), (a2, .inl (cZ, n, .inl (qZ z))), (a3, .inl (cI, n, .inl (qS lo))), (a4, .inl (cI, 4, .inl (qS su))), (a5, .inl (cI, 4, .inl (qN da))), (a6, .inl (cI, 4, .inl (qS ch))), (a7, .inl (cI, 4, .inl (qS (qm_st we 3))))] := hD
  refine lv_iconst (v := nI 0) hx hb dX3_changeAt_19 (by decide) ?_
  refine lv_istore (lv' := [(5, .int (nI 0)), (4, .int (sI 1#8)), (3, .int (sI (lo (da x)))), (0, .ref h0), (1, .int (nI x)), (2, .int (nI mm))]) hx hb dX3_changeAt_20 hl (by decide) rfl (fun ls hl => ?_)
  have lp22 : ∀ (j ot : Nat), ot + j = mm → ∀  (ls : Array Slot) (H : Heap) (locs : List Loc), lv_has ls 7 [(0, .ref h0), (1, .int (nI x)), (2, .int (nI mm)), (3, .int (sI (lo (da x)))), (4, .int (sI (qw_e (fun c => lo (da c)) x (lo (da x)) ot))), (5, .int (nI ot))] → va_P (dC, dI) vwCl [(h0, .inr (2, [.int (nI n), .ref a1, .ref a2, .ref a3, .ref a4, .ref a5, .ref a6, .ref a7])), (a1, .inl (cI, n, .inl (qS w))), (a2, .inl (cZ, n, .inl (qZ z))), (a3, .inl (cI, n, .inl (qS lo))), (a4, .inl (cI, 4, .inl (qS su))), (a5, .inl (cI, 4, .inl (qN da))), (a6, .inl (cI, 4, .inl (qS ch))), (a7, .inl (cI, 4, .inl (qS (qw_V (fun c => lo (da c)) x (qm_st we 3) ot))))] H → va_D A [(h0, .inr (2, [.int (nI n), .ref a1, .ref a2, .ref a3, .ref a4, .ref a5, .ref a6, .ref a7])), (a1, .inl (cI, n, .inl (qS w))), (a2, .inl (cZ, n, .inl (qZ z))), (a3, .inl (cI, n, .inl (qS lo))), (a4, .inl (cI, 4, .inl (qS su))), (a5, .inl (cI, 4, .inl (qN da))), (a6, .inl (cI, 4, .inl (qS ch))), (a7, .inl (cI, 4, .inl (qS (qw_V (fun c => lo (da c)) x (qm_st we 3) ot))))] → va_S A s.heap H locs → W p l e (headSpec wsX3_changeAt ({ frames := 2, cells := 0, slots := 0, locals := 47 } : Room)).room s m ([.ref h0, .int (nI x), .int (nI mm)] : List Value).toArray below meth c H locs 0 0 Q (F0 m 22 ls []) := by
    intro j
    induction j with
    | zero =>
      intro ot hot  ls H locs hl hP hD hS
      have e9 : mm = ot := by omega
      subst e9
      refine lv_iload hx hb dX3_changeAt_22 (lv_at hl 5 rfl) ?_
      refine lv_iload_n hx hb dX3_changeAt_24 rfl (lv_at hl 2 rfl) ?_
      refine qr_ge (tgt := 71) hx hb dX3_changeAt_25 rfl (by omega) (by omega) (fun b25 => ?_) (fun h => absurd h (by omega))
      refine lv_aload_n hx hb dX3_changeAt_71 rfl (lv_at hl 0 rfl) ?_
      have hPc := hP.sub (ws' := [(h0, .inr (2, [.int (nI n), .ref a1, .ref a2, .ref a3, .ref a4, .ref a5, .ref a6, .ref a7])), (a1, .inl (cI, n, .inl (qS w))), (a2, .inl (cZ, n, .inl (qZ z))), (a3, .inl (cI, n, .inl (qS lo))), (a4, .inl (cI, 4, .inl (qS su))), (a5, .inl (cI, 4, .inl (qN da))), (a6, .inl (cI, 4, .inl (qS ch))), (a7, .inl (cI, 4, .inl (qS (qw_V (fun c => lo (da c)) x (qm_st we 3) mm))))]) [0, 1, 2, 3, 4, 5, 6, 7] rfl
      have hKc := hK.sub (tys' := [(cI, .int), (cZ, .boolean)]) [0, 1] rfl
      refine vp_callSi (va_Run.run (va_runV (As := []) (rest := []) ⟨hx, hb, hml, hown, hts⟩ (qc_wsums l dC dI cI cZ h0 a1 a2 a3 a4 a5 a6 a7 n w z lo su da ch (qw_V (fun c => lo (da c)) x (qm_st we 3) mm) hn) (cwV 0 hts gX3_changeAt_X3_weightedSums rfl rfl rfl (by decide +kernel) ⟨Nat.le_of_ble_eq_true rfl, Nat.le_of_ble_eq_true rfl⟩) ⟨fun a U g mk q => by obtain ⟨q0, qP, qK⟩ := q; exact ⟨q0, qP, va_K.moved (u := U) (U := U.calling g mk a) (Vm.Alike.refl U.vm) qK⟩, (va_recv (q0 := 0) (ci := 2) hK hP rfl rfl), fun U hU hW => ⟨rfl, by rw [hU]; exact hPc, va_K.moved hW.alike hKc⟩⟩ rfl rfl hl.1 rfl (lv_room (Nat.le_of_ble_eq_true rfl)) dX3_changeAt_72 ⟨Nat.le_of_ble_eq_true rfl, Nat.le_of_ble_eq_true rfl⟩)) (fun r72 hr72 => ?_)
      have hr72 : r72 = sI (qw_s (fun k => qf_m ((qw_V (fun c => lo (da c)) x (qm_st we 3) mm) k) (su k)) 4) := hr72
      subst hr72
      refine lv_iload hx hb dX3_changeAt_75 (lv_at hl 4 rfl) ?_
      refine vp_callSi (va_Run.run (va_runS (As := [.int (sI (qw_e (fun c => lo (da c)) x (lo (da x)) mm))]) (rest := [.int (sI (qw_s (fun k => qf_m ((qw_V (fun c => lo (da c)) x (qm_st we 3) mm) k) (su k)) 4))]) ⟨hx, hb, hml, hown, hts⟩ (qc_inverse l (qw_e (fun c => lo (da c)) x (lo (da x)) mm) ) (va_cwS 1 hts gX3_changeAt_X1_inverse rfl rfl rfl (by decide +kernel) ⟨Nat.le_of_ble_eq_true rfl, Nat.le_of_ble_eq_true rfl⟩) ⟨fun a U g mk q => q, fun U hU hW => ⟨rfl, trivial⟩⟩ rfl rfl hl.1 rfl (lv_room (Nat.le_of_ble_eq_true rfl)) dX3_changeAt_77 ⟨Nat.le_of_ble_eq_true rfl, Nat.le_of_ble_eq_true rfl⟩)) (fun r77 hr77 => ?_)
      have hr77 : r77 = sI (qf_i (qw_e (fun c => lo (da c)) x (lo (da x)) mm)) := hr77
      subst hr77
      refine vp_callSi (va_Run.run (va_runS (As := [.int (sI (qw_s (fun k => qf_m ((qw_V (fun c => lo (da c)) x (qm_st we 3) mm) k) (su k)) 4)), .int (sI (qf_i (qw_e (fun c => lo (da c)) x (lo (da x)) mm)))]) (rest := []) ⟨hx, hb, hml, hown, hts⟩ (qc_times l (qw_s (fun k => qf_m ((qw_V (fun c => lo (da c)) x (qm_st we 3) mm) k) (su k)) 4) (qf_i (qw_e (fun c => lo (da c)) x (lo (da x)) mm)) ) (va_cwS 2 hts gX3_changeAt_X1_times rfl rfl rfl (by decide +kernel) ⟨Nat.le_of_ble_eq_true rfl, Nat.le_of_ble_eq_true rfl⟩) ⟨fun a U g mk q => q, fun U hU hW => ⟨rfl, trivial⟩⟩ rfl rfl hl.1 rfl (lv_room (Nat.le_of_ble_eq_true rfl)) dX3_changeAt_80 ⟨Nat.le_of_ble_eq_true rfl, Nat.le_of_ble_eq_true rfl⟩)) (fun r80 hr80 => ?_)
      have hr80 : r80 = sI (qf_m (qw_s (fun k => qf_m ((qw_V (fun c => lo (da c)) x (qm_st we 3) mm) k) (su k)) 4) (qf_i (qw_e (fun c => lo (da c)) x (lo (da x)) mm))) := hr80
      subst hr80
      subst hQ
      exact W.iret hx hb hr (fun t ht hW => ⟨⟨_, (), rfl, rfl, by rw [ht]; exact hP, va_K.moved hW.alike hK, hD⟩, hS.F ht⟩) hS.2.2 dX3_changeAt_83
    | succ j ih =>
      intro ot hot  ls H locs hl hP hD hS
      have lot : ot < mm := by omega
      have lo0 : ot < mm := by omega
      refine lv_iload hx hb dX3_changeAt_22 (lv_at hl 5 rfl) ?_
      refine lv_iload_n hx hb dX3_changeAt_24 rfl (lv_at hl 2 rfl) ?_
      refine qr_ge (tgt := 71) hx hb dX3_changeAt_25 rfl (by omega) (by omega) (fun h => absurd h (by omega)) (fun b25 => ?_)
      refine lv_iload hx hb dX3_changeAt_28 (lv_at hl 5 rfl) ?_
      refine lv_iload_n hx hb dX3_changeAt_30 rfl (lv_at hl 1 rfl) ?_
      refine qr_eqN (tgt := 65) hx hb dX3_changeAt_31 rfl (by omega) (by omega) (fun b31 => ?_) (fun b31 => ?_)
      · refine lv_iinc (k := 5) (v := nI (ot + 1)) (lv' := [(5, .int (nI (ot + 1))), (0, .ref h0), (1, .int (nI x)), (2, .int (nI mm)), (3, .int (sI (lo (da x)))), (4, .int (sI (qw_e (fun c => lo (da c)) x (lo (da x)) ot)))]) hx hb dX3_changeAt_65 hl rfl (qr_inc _) (by decide) rfl (fun ls hl => ?_)
        refine lv_goto (tgt := 22) hx hb dX3_changeAt_68 rfl ?_
        have hl := lv_sub (l' := [(0, .ref h0), (1, .int (nI x)), (2, .int (nI mm)), (3, .int (sI (lo (da x)))), (4, .int (sI (qw_e (fun c => lo (da c)) x (lo (da x)) ot))), (5, .int (nI (ot + 1)))]) hl [1, 2, 3, 4, 5, 0] rfl
        have e1 : qw_e (fun c => lo (da c)) x (lo (da x)) (ot + 1) = qw_e (fun c => lo (da c)) x (lo (da x)) ot := by rw [qw_e, if_pos b31]
        have e2 : qw_V (fun c => lo (da c)) x (qm_st we 3) (ot + 1) = qw_V (fun c => lo (da c)) x (qm_st we 3) ot := by rw [qw_V, if_pos b31]
        exact ih (ot + 1) (by omega)  ls H _ (by rw [e1]; exact hl) (by rw [e2]; exact hP) (by rw [e2]; exact hD) hS 
      · refine lv_aload_n hx hb dX3_changeAt_34 rfl (lv_at hl 0 rfl) ?_
        refine va_get (D := (dC, dI)) (ci := 2) (v := .ref a3) (C := RX3) (T := TX3) (N := 8) hx hb hts i_X3 hown hK hP 0 rfl rfl 3 (by decide) k_23 (fun _ h9 => h9) rfl dX3_changeAt_35 ?_
        refine lv_aload_n hx hb dX3_changeAt_38 rfl (lv_at hl 0 rfl) ?_
        refine va_get (D := (dC, dI)) (ci := 2) (v := .ref a5) (C := RX3) (T := TX3) (N := 8) hx hb hts i_X3 hown hK hP 0 rfl rfl 5 (by decide) k_29 (fun _ h9 => h9) rfl dX3_changeAt_39 ?_
        refine lv_iload hx hb dX3_changeAt_42 (lv_at hl 5 rfl) ?_
        refine qr_ildN hx hb hK hP 5 0 rfl rfl (by omega) (by omega) dX3_changeAt_44 ?_
        refine qr_ildS hx hb hK hP 3 0 rfl rfl (hd ot lo0) (by omega) dX3_changeAt_45 ?_
        refine lv_istore (lv' := [(6, .int (sI (lo (da ot)))), (0, .ref h0), (1, .int (nI x)), (2, .int (nI mm)), (3, .int (sI (lo (da x)))), (4, .int (sI (qw_e (fun c => lo (da c)) x (lo (da x)) ot))), (5, .int (nI ot))]) hx hb dX3_changeAt_46 hl (by decide) rfl (fun ls hl => ?_)
        refine lv_aload_n hx hb dX3_changeAt_48 rfl (lv_at hl 1 rfl) ?_
        refine lv_iload hx hb dX3_changeAt_49 (lv_at hl 0 rfl) ?_
        have hPc := hP.sub (ws' := [(h0, .inr (2, [.int (nI n), .ref a1, .ref a2, .ref a3, .ref a4, .ref a5, .ref a6, .ref a7])), (a1, .inl (cI, n, .inl (qS w))), (a2, .inl (cZ, n, .inl (qZ z))), (a3, .inl (cI, n, .inl (qS lo))), (a4, .inl (cI, 4, .inl (qS su))), (a5, .inl (cI, 4, .inl (qN da))), (a6, .inl (cI, 4, .inl (qS ch))), (a7, .inl (cI, 4, .inl (qS (qw_V (fun c => lo (da c)) x (qm_st we 3) ot))))]) [0, 1, 2, 3, 4, 5, 6, 7] rfl
        have hDc := hD.sub (ws' := [(h0, .inr (2, [.int (nI n), .ref a1, .ref a2, .ref a3, .ref a4, .ref a5, .ref a6, .ref a7])), (a1, .inl (cI, n, .inl (qS w))), (a2, .inl (cZ, n, .inl (qZ z))), (a3, .inl (cI, n, .inl (qS lo))), (a4, .inl (cI, 4, .inl (qS su))), (a5, .inl (cI, 4, .inl (qN da))), (a6, .inl (cI, 4, .inl (qS ch))), (a7, .inl (cI, 4, .inl (qS (qw_V (fun c => lo (da c)) x (qm_st we 3) ot))))]) [0, 1, 2, 3, 4, 5, 6, 7] (by decide) rfl
        have hKc := hK.sub (tys' := [(cI, .int), (cZ, .boolean)]) [0, 1] rfl
        have hFc := va_free (wc := [(h0, .inr (2, [.int (nI n), .ref a1, .ref a2, .ref a3, .ref a4, .ref a5, .ref a6, .ref a7])), (a1, .inl (cI, n, .inl (qS w))), (a2, .inl (cZ, n, .inl (qZ z))), (a3, .inl (cI, n, .inl (qS lo))), (a4, .inl (cI, 4, .inl (qS su))), (a5, .inl (cI, 4, .inl (qN da))), (a6, .inl (cI, 4, .inl (qS ch))), (a7, .inl (cI, 4, .inl (qS (qw_V (fun c => lo (da c)) x (qm_st we 3) ot))))]) hD hS hA [0, 1, 2, 3, 4, 5, 6, 7] rfl
        refine va_callv (va_runV (As := [.int (sI (lo (da ot)))]) (rest := []) ⟨hx, hb, hml, hown, hts⟩ (qc_root l dC dI cI cZ h0 a1 a2 a3 a4 a5 a6 a7 n w z lo su da ch (qw_V (fun c => lo (da c)) x (qm_st we 3) ot) (lo (da ot)) H.size hn) (cwV 1 hts gX3_changeAt_X3_addRoot rfl rfl rfl (by decide +kernel) ⟨Nat.le_of_ble_eq_true rfl, Nat.le_of_ble_eq_true rfl⟩) ⟨fun a U g mk q => by obtain ⟨q0, q1, qP, qK, qD⟩ := q; exact ⟨q0, q1, qP, va_K.moved (u := U) (U := U.calling g mk a) (Vm.Alike.refl U.vm) qK, qD⟩, (va_recv (q0 := 0) (ci := 2) hK hP rfl rfl), fun U hU hW => ⟨rfl, by rw [hU], by rw [hU]; exact hPc, va_K.moved hW.alike hKc, hDc.weaken (fun _ _ _ _ => trivial)⟩⟩ rfl rfl hl.1 rfl (lv_room (Nat.le_of_ble_eq_true rfl)) dX3_changeAt_51 ⟨Nat.le_of_ble_eq_true rfl, Nat.le_of_ble_eq_true rfl⟩) hS (fun q _ h => hFc q h) hFc (fun u t H1 locs ht hvm hr51 hB hz1 hk1 hS => ?_)
        obtain ⟨hP1, hK1, hD1⟩ := hB
        rw [ht] at hP1
        have hP1 : va_P (dC, dI) vwCl [(h0, .inr (2, [.int (nI n), .ref a1, .ref a2, .ref a3, .ref a4, .ref a5, .ref a6, .ref a7])), (a1, .inl (cI, n, .inl (qS w))), (a2, .inl (cZ, n, .inl (qZ z))), (a3, .inl (cI, n, .inl (qS lo))), (a4, .inl (cI, 4, .inl (qS su))), (a5, .inl (cI, 4, .inl (qN da))), (a6, .inl (cI, 4, .inl (qS ch))), (a7, .inl (cI, 4, .inl (qS (qw_r (qw_V (fun c => lo (da c)) x (qm_st we 3) ot) (lo (da ot))))))] H1 := hP1
        obtain ⟨hP, hD⟩ := qj_join (wc := [(h0, .inr (2, [.int (nI n), .ref a1, .ref a2, .ref a3, .ref a4, .ref a5, .ref a6, .ref a7])), (a1, .inl (cI, n, .inl (qS w))), (a2, .inl (cZ, n, .inl (qZ z))), (a3, .inl (cI, n, .inl (qS lo))), (a4, .inl (cI, 4, .inl (qS su))), (a5, .inl (cI, 4, .inl (qN da))), (a6, .inl (cI, 4, .inl (qS ch))), (a7, .inl (cI, 4, .inl (qS (qw_V (fun c => lo (da c)) x (qm_st we 3) ot))))]) (w1 := [(h0, .inr (2, [.int (nI n), .ref a1, .ref a2, .ref a3, .ref a4, .ref a5, .ref a6, .ref a7])), (a1, .inl (cI, n, .inl (qS w))), (a2, .inl (cZ, n, .inl (qZ z))), (a3, .inl (cI, n, .inl (qS lo))), (a4, .inl (cI, 4, .inl (qS su))), (a5, .inl (cI, 4, .inl (qN da))), (a6, .inl (cI, 4, .inl (qS ch))), (a7, .inl (cI, 4, .inl (qS (qw_r (qw_V (fun c => lo (da c)) x (qm_st we 3) ot) (lo (da ot))))))]) hP hD [0, 1, 2, 3, 4, 5, 6, 7] rfl rfl hk1 hP1
        generalize H1 = H at hP hS ⊢
        have hP : va_P (dC, dI) vwCl [(h0, .inr (2, [.int (nI n), .ref a1, .ref a2, .ref a3, .ref a4, .ref a5, .ref a6, .ref a7])), (a1, .inl (cI, n, .inl (qS w))), (a2, .inl (cZ, n, .inl (qZ z))), (a3, .inl (cI, n, .inl (qS lo))), (a4, .inl (cI, 4, .inl (qS su))), (a5, .inl (cI, 4, .inl (qN da))), (a6, .inl (cI, 4, .inl (qS ch))), (a7, .inl (cI, 4, .inl (qS (qw_r (qw_V (fun c => lo (da c)) x (qm_st we 3) ot) (lo (da ot))))))] H := hP
        have hD : va_D A [(h0, .inr (2, [.int (nI n), .ref a1, .ref a2, .ref a3, .ref a4, .ref a5, .ref a6, .ref a7])), (a1, .inl (cI, n, .inl (qS w))), (a2, .inl (cZ, n, .inl (qZ z))), (a3, .inl (cI, n, .inl (qS lo))), (a4, .inl (cI, 4, .inl (qS su))), (a5, .inl (cI, 4, .inl (qN da))), (a6, .inl (cI, 4, .inl (qS ch))), (a7, .inl (cI, 4, .inl (qS (qw_r (qw_V (fun c => lo (da c)) x (qm_st we 3) ot) (lo (da ot))))))] := hD
        refine lv_iload hx hb dX3_changeAt_54 (lv_at hl 5 rfl) ?_
        refine lv_iload_n hx hb dX3_changeAt_56 rfl (lv_at hl 4 rfl) ?_
        refine lv_iload hx hb dX3_changeAt_57 (lv_at hl 0 rfl) ?_
        refine qr_ixor (z := sI ((lo (da x)) ^^^ (lo (da ot)))) hx hb dX3_changeAt_59 (sI_xor _ _) ?_
        refine vp_callSi (va_Run.run (va_runS (As := [.int (sI (qw_e (fun c => lo (da c)) x (lo (da x)) ot)), .int (sI ((lo (da x)) ^^^ (lo (da ot))))]) (rest := []) ⟨hx, hb, hml, hown, hts⟩ (qc_times l (qw_e (fun c => lo (da c)) x (lo (da x)) ot) ((lo (da x)) ^^^ (lo (da ot))) ) (va_cwS 2 hts gX3_changeAt_X1_times rfl rfl rfl (by decide +kernel) ⟨Nat.le_of_ble_eq_true rfl, Nat.le_of_ble_eq_true rfl⟩) ⟨fun a U g mk q => q, fun U hU hW => ⟨rfl, trivial⟩⟩ rfl rfl hl.1 rfl (lv_room (Nat.le_of_ble_eq_true rfl)) dX3_changeAt_60 ⟨Nat.le_of_ble_eq_true rfl, Nat.le_of_ble_eq_true rfl⟩)) (fun r60 hr60 => ?_)
        have hr60 : r60 = sI (qf_m (qw_e (fun c => lo (da c)) x (lo (da x)) ot) ((lo (da x)) ^^^ (lo (da ot)))) := hr60
        subst hr60
        refine lv_istore (lv' := [(4, .int (sI (qf_m (qw_e (fun c => lo (da c)) x (lo (da x)) ot) ((lo (da x)) ^^^ (lo (da ot)))))), (6, .int (sI (lo (da ot)))), (0, .ref h0), (1, .int (nI x)), (2, .int (nI mm)), (3, .int (sI (lo (da x)))), (5, .int (nI ot))]) hx hb dX3_changeAt_63 hl (by decide) rfl (fun ls hl => ?_)
        refine lv_iinc (k := 6) (v := nI (ot + 1)) (lv' := [(5, .int (nI (ot + 1))), (4, .int (sI (qf_m (qw_e (fun c => lo (da c)) x (lo (da x)) ot) ((lo (da x)) ^^^ (lo (da ot)))))), (6, .int (sI (lo (da ot)))), (0, .ref h0), (1, .int (nI x)), (2, .int (nI mm)), (3, .int (sI (lo (da x))))]) hx hb dX3_changeAt_65 hl rfl (qr_inc _) (by decide) rfl (fun ls hl => ?_)
        refine lv_goto (tgt := 22) hx hb dX3_changeAt_68 rfl ?_
        have hl := lv_sub (l' := [(0, .ref h0), (1, .int (nI x)), (2, .int (nI mm)), (3, .int (sI (lo (da x)))), (4, .int (sI (qf_m (qw_e (fun c => lo (da c)) x (lo (da x)) ot) ((lo (da x)) ^^^ (lo (da ot)))))), (5, .int (nI (ot + 1)))]) hl [3, 4, 5, 6, 1, 0] rfl
        have e3 : qw_e (fun c => lo (da c)) x (lo (da x)) (ot + 1) = qf_m (qw_e (fun c => lo (da c)) x (lo (da x)) ot) ((lo (da x)) ^^^ (lo (da ot))) := by rw [qw_e, if_neg b31]
        have e4 : qw_V (fun c => lo (da c)) x (qm_st we 3) (ot + 1) = qw_r (qw_V (fun c => lo (da c)) x (qm_st we 3) ot) (lo (da ot)) := by rw [qw_V, if_neg b31]
        exact ih (ot + 1) (by omega)  ls H _ (by rw [e3]; exact hl) (by rw [e4]; exact hP) (by rw [e4]; exact hD) hS 
  have hl := lv_sub (l' := [(0, .ref h0), (1, .int (nI x)), (2, .int (nI mm)), (3, .int (sI (lo (da x)))), (4, .int (sI 1#8)), (5, .int (nI 0))]) hl [3, 4, 5, 2, 1, 0] rfl
  exact lp22 mm 0 (by omega)  ls H _ hl hP hD hS 
