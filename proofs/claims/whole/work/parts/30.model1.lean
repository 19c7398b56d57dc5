set_option maxHeartbeats 4000000 in
set_option maxRecDepth 100000 in
/-- reference: times -/
theorem qc_mtimes (l : Launch) (a b : BitVec 8)  : Met l yX6_times wsX6_times ({ frames := 0, cells := 0, slots := 0, locals := 0 } : Room) (va_Pc [.int (sI a), .int (sI b)] (fun _ => True)) (vp_Si (fun r => r = sI (qf_m a b))) 0 0 (fun _ => False) := by
  refine Met.ofW (cc := cX6_times) (maxL := 5) (ret := (some .int)) (by decide) rfl ?_
  intro p e s m args below meth c s₁ B hml hv
  obtain ⟨rfl, -⟩ := hv
  have hx := B.exec
  have hb := B.bytes
  have hr := B.returns
  have hts := atoms_spec (ws := wsX6_times) B.pre
  have hown : s.vm.findClass RX6 = some m.cls := findClass_of_methodNamed B.named
  have hlocks := B.notSynchronized
  have hl := lv_entry ([.int (sI a), .int (sI b)]) (n := 5) (Nat.le_of_ble_eq_true rfl)
  rw [lg_entry_eq]
  generalize (lg_sl ([.int (sI a), .int (sI b)]) ++ List.replicate (5 - (lg_sl ([.int (sI a), .int (sI b)])).length) Slot.unset).toArray = ls at hl ⊢
  have hl : lv_has ls 5 [(0, .int (sI a)), (1, .int (sI b))] := hl
  refine qr_nm (fun Q hQ => ?_)
  refine lv_iload_n hx hb dX6_times_0 rfl (lv_at hl 0 rfl) ?_
  refine lv_istore_n (lv' := [(2, .int (sI a)), (0, .int (sI a)), (1, .int (sI b))]) hx hb dX6_times_1 rfl hl (by decide) rfl (fun ls hl => ?_)
  refine lv_iconst (v := sI 0#8) hx hb dX6_times_2 (by decide) ?_
  refine lv_istore_n (lv' := [(3, .int (sI 0#8)), (2, .int (sI a)), (0, .int (sI a)), (1, .int (sI b))]) hx hb dX6_times_3 rfl hl (by decide) rfl (fun ls hl => ?_)
  refine lv_iconst (v := nI 0) hx hb dX6_times_4 (by decide) ?_
  refine lv_istore (lv' := [(4, .int (nI 0)), (3, .int (sI 0#8)), (2, .int (sI a)), (0, .int (sI a)), (1, .int (sI b))]) hx hb dX6_times_5 hl (by decide) rfl (fun ls hl => ?_)
  have lp7 : ∀ (j i : Nat), i + j = 8 → ∀  (ls : Array Slot) , lv_has ls 5 [(0, .int (sI a)), (1, .int (sI b)), (2, .int (sI (qf_s a i))), (3, .int (sI (qf_u a b i))), (4, .int (nI i))] → W p l e (headSpec wsX6_times ({ frames := 0, cells := 0, slots := 0, locals := 0 } : Room)).room s m ([.int (sI a), .int (sI b)] : List Value).toArray below meth c s.heap [] 0 0 Q (F0 m 7 ls []) := by
    intro j
    induction j with
    | zero =>
      intro i hi  ls hl
      have e9 : 8 = i := by omega
      subst e9
      refine lv_iload hx hb dX6_times_7 (lv_at hl 4 rfl) ?_
      refine lv_bipush (v := nI 8) hx hb dX6_times_9 (by decide) ?_
      refine qr_ge (tgt := 59) hx hb dX6_times_11 rfl (by omega) (by omega) (fun b11 => ?_) (fun h => absurd h (by omega))
      refine lv_iload_n hx hb dX6_times_59 rfl (lv_at hl 3 rfl) ?_
      subst hQ
      exact W.iret hx hb hr (fun t ht hW => ⟨_, rfl, rfl, ht⟩) (fun _ h => absurd h List.not_mem_nil) dX6_times_60
    | succ j ih =>
      intro i hi  ls hl
      have li : i < 8 := by omega
      refine lv_iload hx hb dX6_times_7 (lv_at hl 4 rfl) ?_
      refine lv_bipush (v := nI 8) hx hb dX6_times_9 (by decide) ?_
      refine qr_ge (tgt := 59) hx hb dX6_times_11 rfl (by omega) (by omega) (fun h => absurd h (by omega)) (fun b11 => ?_)
      refine lv_iload_n hx hb dX6_times_14 rfl (lv_at hl 3 rfl) ?_
      refine lv_iload_n hx hb dX6_times_15 rfl (lv_at hl 1 rfl) ?_
      refine lv_iload hx hb dX6_times_16 (lv_at hl 4 rfl) ?_
      refine qr_ishr (z := (sI b) >>> ((nI i) &&& 31)) hx hb dX6_times_18 rfl ?_
      refine lv_iconst (v := nI 1) hx hb dX6_times_19 (by decide) ?_
      refine qr_iand (z := zI (b.getLsbD i)) hx hb dX6_times_20 (qr_bit b (by omega)) ?_
      refine lv_iconst (v := nI 1) hx hb dX6_times_21 (by decide) ?_
      refine qr_ne1Z (tgt := 29) hx hb dX6_times_22 rfl  (fun b22 => ?_) (fun b22 => ?_)
      · refine lv_iconst (v := sI 0#8) hx hb dX6_times_29 (by decide) ?_
        refine qr_ixor (z := sI ((qf_u a b i) ^^^ 0#8)) hx hb dX6_times_30 (sI_xor _ _) ?_
        refine lv_istore_n (lv' := [(3, .int (sI ((qf_u a b i) ^^^ 0#8))), (0, .int (sI a)), (1, .int (sI b)), (2, .int (sI (qf_s a i))), (4, .int (nI i))]) hx hb dX6_times_31 rfl hl (by decide) rfl (fun ls hl => ?_)
        refine lv_iload_n hx hb dX6_times_32 rfl (lv_at hl 3 rfl) ?_
        refine lv_iconst (v := nI 1) hx hb dX6_times_33 (by decide) ?_
        refine qr_ishl (z := (sI (qf_s a i)) <<< ((nI 1) &&& 31)) hx hb dX6_times_34 rfl ?_
        refine lv_istore_n (lv' := [(2, .int ((sI (qf_s a i)) <<< ((nI 1) &&& 31))), (3, .int (sI ((qf_u a b i) ^^^ 0#8))), (0, .int (sI a)), (1, .int (sI b)), (4, .int (nI i))]) hx hb dX6_times_35 rfl hl (by decide) rfl (fun ls hl => ?_)
        refine lv_iload_n hx hb dX6_times_36 rfl (lv_at hl 0 rfl) ?_
        refine lv_sipush (v := nI 255) hx hb dX6_times_37 (by decide) ?_
        refine lv_icmp_le (tgt := 51) hx hb dX6_times_40 rfl  (fun b40 => ?_) (fun b40 => ?_)
        · refine lv_iload_n hx hb dX6_times_51 rfl (lv_at hl 0 rfl) ?_
          refine lv_istore_n (lv' := [(2, .int ((sI (qf_s a i)) <<< ((nI 1) &&& 31))), (3, .int (sI ((qf_u a b i) ^^^ 0#8))), (0, .int (sI a)), (1, .int (sI b)), (4, .int (nI i))]) hx hb dX6_times_52 rfl hl (by decide) rfl (fun ls hl => ?_)
          refine lv_iinc (k := 4) (v := nI (i + 1)) (lv' := [(4, .int (nI (i + 1))), (2, .int ((sI (qf_s a i)) <<< ((nI 1) &&& 31))), (3, .int (sI ((qf_u a b i) ^^^ 0#8))), (0, .int (sI a)), (1, .int (sI b))]) hx hb dX6_times_53 hl rfl (qr_inc _) (by decide) rfl (fun ls hl => ?_)
          refine lv_goto (tgt := 7) hx hb dX6_times_56 rfl ?_
          have hl := lv_sub (l' := [(0, .int (sI a)), (1, .int (sI b)), (2, .int ((sI (qf_s a i)) <<< ((nI 1) &&& 31))), (3, .int (sI ((qf_u a b i) ^^^ 0#8))), (4, .int (nI (i + 1)))]) hl [3, 4, 1, 2, 0] rfl
          have e1 : sI (qf_s a (i + 1)) = (sI (qf_s a i)) <<< ((nI 1) &&& 31) := by rw [qf_s, ← qr_sh, if_neg (Int32.not_lt.mpr b40)]
          have e2 : qf_u a b (i + 1) = (qf_u a b i) ^^^ 0#8 := by simp only [qf_u, b22, cond_true, cond_false]
          exact ih (i + 1) (by omega)  ls (by rw [e1, e2]; exact hl) 
        · refine lv_iload_n hx hb dX6_times_43 rfl (lv_at hl 0 rfl) ?_
          refine lv_sipush (v := nI 285) hx hb dX6_times_44 (by decide) ?_
          refine qr_ixor (z := ((sI (qf_s a i)) <<< ((nI 1) &&& 31)) ^^^ (nI 285)) hx hb dX6_times_47 rfl ?_
          refine lv_goto (tgt := 52) hx hb dX6_times_48 rfl ?_
          refine lv_istore_n (lv' := [(2, .int (((sI (qf_s a i)) <<< ((nI 1) &&& 31)) ^^^ (nI 285))), (3, .int (sI ((qf_u a b i) ^^^ 0#8))), (0, .int (sI a)), (1, .int (sI b)), (4, .int (nI i))]) hx hb dX6_times_52 rfl hl (by decide) rfl (fun ls hl => ?_)
          refine lv_iinc (k := 4) (v := nI (i + 1)) (lv' := [(4, .int (nI (i + 1))), (2, .int (((sI (qf_s a i)) <<< ((nI 1) &&& 31)) ^^^ (nI 285))), (3, .int (sI ((qf_u a b i) ^^^ 0#8))), (0, .int (sI a)), (1, .int (sI b))]) hx hb dX6_times_53 hl rfl (qr_inc _) (by decide) rfl (fun ls hl => ?_)
          refine lv_goto (tgt := 7) hx hb dX6_times_56 rfl ?_
          have hl := lv_sub (l' := [(0, .int (sI a)), (1, .int (sI b)), (2, .int (((sI (qf_s a i)) <<< ((nI 1) &&& 31)) ^^^ (nI 285))), (3, .int (sI ((qf_u a b i) ^^^ 0#8))), (4, .int (nI (i + 1)))]) hl [3, 4, 1, 2, 0] rfl
          have e3 : sI (qf_s a (i + 1)) = ((sI (qf_s a i)) <<< ((nI 1) &&& 31)) ^^^ (nI 285) := by rw [qf_s, ← qr_sh, if_pos (Int32.not_le.mp b40)]
          have e4 : qf_u a b (i + 1) = (qf_u a b i) ^^^ 0#8 := by simp only [qf_u, b22, cond_true, cond_false]
          exact ih (i + 1) (by omega)  ls (by rw [e3, e4]; exact hl) 
      · refine lv_iload_n hx hb dX6_times_25 rfl (lv_at hl 2 rfl) ?_
        refine lv_goto (tgt := 30) hx hb dX6_times_26 rfl ?_
        refine qr_ixor (z := sI ((qf_u a b i) ^^^ (qf_s a i))) hx hb dX6_times_30 (sI_xor _ _) ?_
        refine lv_istore_n (lv' := [(3, .int (sI ((qf_u a b i) ^^^ (qf_s a i)))), (0, .int (sI a)), (1, .int (sI b)), (2, .int (sI (qf_s a i))), (4, .int (nI i))]) hx hb dX6_times_31 rfl hl (by decide) rfl (fun ls hl => ?_)
        refine lv_iload_n hx hb dX6_times_32 rfl (lv_at hl 3 rfl) ?_
        refine lv_iconst (v := nI 1) hx hb dX6_times_33 (by decide) ?_
        refine qr_ishl (z := (sI (qf_s a i)) <<< ((nI 1) &&& 31)) hx hb dX6_times_34 rfl ?_
        refine lv_istore_n (lv' := [(2, .int ((sI (qf_s a i)) <<< ((nI 1) &&& 31))), (3, .int (sI ((qf_u a b i) ^^^ (qf_s a i)))), (0, .int (sI a)), (1, .int (sI b)), (4, .int (nI i))]) hx hb dX6_times_35 rfl hl (by decide) rfl (fun ls hl => ?_)
        refine lv_iload_n hx hb dX6_times_36 rfl (lv_at hl 0 rfl) ?_
        refine lv_sipush (v := nI 255) hx hb dX6_times_37 (by decide) ?_
        refine lv_icmp_le (tgt := 51) hx hb dX6_times_40 rfl  (fun b40 => ?_) (fun b40 => ?_)
        · refine lv_iload_n hx hb dX6_times_51 rfl (lv_at hl 0 rfl) ?_
          refine lv_istore_n (lv' := [(2, .int ((sI (qf_s a i)) <<< ((nI 1) &&& 31))), (3, .int (sI ((qf_u a b i) ^^^ (qf_s a i)))), (0, .int (sI a)), (1, .int (sI b)), (4, .int (nI i))]) hx hb dX6_times_52 rfl hl (by decide) rfl (fun ls hl => ?_)
          refine lv_iinc (k := 4) (v := nI (i + 1)) (lv' := [(4, .int (nI (i + 1))), (2, .int ((sI (qf_s a i)) <<< ((nI 1) &&& 31))), (3, .int (sI ((qf_u a b i) ^^^ (qf_s a i)))), (0, .int (sI a)), (1, .int (sI b))]) hx hb dX6_times_53 hl rfl (qr_inc _) (by decide) rfl (fun ls hl => ?_)
          refine lv_goto (tgt := 7) hx hb dX6_times_56 rfl ?_
          have hl := lv_sub (l' := [(0, .int (sI a)), (1, .int (sI b)), (2, .int ((sI (qf_s a i)) <<< ((nI 1) &&& 31))), (3, .int (sI ((qf_u a b i) ^^^ (qf_s a i)))), (4, .int (nI (i + 1)))]) hl [3, 4, 1, 2, 0] rfl
          have e5 : sI (qf_s a (i + 1)) = (sI (qf_s a i)) <<< ((nI 1) &&& 31) := by rw [qf_s, ← qr_sh, if_neg (Int32.not_lt.mpr b40)]
          have e6 : qf_u a b (i + 1) = (qf_u a b i) ^^^ (qf_s a i) := by simp only [qf_u, b22, cond_true, cond_false]
          exact ih (i + 1) (by omega)  ls (by rw [e5, e6]; exact hl) 
        · refine lv_iload_n hx hb dX6_times_43 rfl (lv_at hl 0 rfl) ?_
          refine lv_sipush (v := nI 285) hx hb dX6_times_44 (by decide) ?_
          refine qr_ixor (z := ((sI (qf_s a i)) <<< ((nI 1) &&& 31)) ^^^ (nI 285)) hx hb dX6_times_47 rfl ?_
          refine lv_goto (tgt := 52) hx hb dX6_times_48 rfl ?_
          refine lv_istore_n (lv' := [(2, .int (((sI (qf_s a i)) <<< ((nI 1) &&& 31)) ^^^ (nI 285))), (3, .int (sI ((qf_u a b i) ^^^ (qf_s a i)))), (0, .int (sI a)), (1, .int (sI b)), (4, .int (nI i))]) hx hb dX6_times_52 rfl hl (by decide) rfl (fun ls hl => ?_)
          refine lv_iinc (k := 4) (v := nI (i + 1)) (lv' := [(4, .int (nI (i + 1))), (2, .int (((sI (qf_s a i)) <<< ((nI 1) &&& 31)) ^^^ (nI 285))), (3, .int (sI ((qf_u a b i) ^^^ (qf_s a i)))), (0, .int (sI a)), (1, .int (sI b))]) hx hb dX6_times_53 hl rfl (qr_inc _) (by decide) rfl (fun ls hl => ?_)
          refine lv_goto (tgt := 7) hx hb dX6_times_56 rfl ?_
          have hl := lv_sub (l' := [(0, .int (sI a)), (1, .int (sI b)), (2, .int (((sI (qf_s a i)) <<< ((nI 1) &&& 31)) ^^^ (nI 285))), (3, .int (sI ((qf_u a b i) ^^^ (qf_s a i)))), (4, .int (nI (i + 1)))]) hl [3, 4, 1, 2, 0] rfl
          have e7 : sI (qf_s a (i + 1)) = ((sI (qf_s a i)) <<< ((nI 1) &&& 31)) ^^^ (nI 285) := by rw [qf_s, ← qr_sh, if_pos (Int32.not_le.mp b40)]
          have e8 : qf_u a b (i + 1) = (qf_u a b i) ^^^ (qf_s a i) := by simp only [qf_u, b22, cond_true, cond_false]
          exact ih (i + 1) (by omega)  ls (by rw [e7, e8]; exact hl) 
  have hl := lv_sub (l' := [(0, .int (sI a)), (1, .int (sI b)), (2, .int (sI a)), (3, .int (sI 0#8)), (4, .int (nI 0))]) hl [3, 4, 2, 1, 0] rfl
  exact lp7 8 0 (by omega)  ls hl 
set_option maxHeartbeats 4000000 in
set_option maxRecDepth 100000 in
/-- reference: power -/
theorem qc_power (l : Launch) (q : Nat) (hq : q < 2 ^ 31) : Met l yX6_power wsX6_power ({ frames := 1, cells := 0, slots := 0, locals := 24 } : Room) (va_Pc [.int (nI q)] (fun _ => True)) (vp_Si (fun r => r = sI (qf_E q))) 0 0 (fun _ => False) := by
  refine Met.ofW (cc := cX6_power) (maxL := 3) (ret := (some .int)) (by decide) rfl ?_
  intro p e s m args below meth c s₁ B hml hv
  obtain ⟨rfl, -⟩ := hv
  have hx := B.exec
  have hb := B.bytes
  have hr := B.returns
  have hts := atoms_spec (ws := wsX6_power) B.pre
  have hown : s.vm.findClass RX6 = some m.cls := findClass_of_methodNamed B.named
  have hlocks := B.notSynchronized
  have hl := lv_entry ([.int (nI q)]) (n := 3) (Nat.le_of_ble_eq_true rfl)
  rw [lg_entry_eq]
  generalize (lg_sl ([.int (nI q)]) ++ List.replicate (3 - (lg_sl ([.int (nI q)])).length) Slot.unset).toArray = ls at hl ⊢
  have hl : lv_has ls 3 [(0, .int (nI q))] := hl
  refine qr_nm (fun Q hQ => ?_)
  refine lv_iconst (v := sI 1#8) hx hb dX6_power_0 (by decide) ?_
  refine lv_istore_n (lv' := [(1, .int (sI 1#8)), (0, .int (nI q))]) hx hb dX6_power_1 rfl hl (by decide) rfl (fun ls hl => ?_)
  refine lv_iconst (v := nI 0) hx hb dX6_power_2 (by decide) ?_
  refine lv_istore_n (lv' := [(2, .int (nI 0)), (1, .int (sI 1#8)), (0, .int (nI q))]) hx hb dX6_power_3 rfl hl (by decide) rfl (fun ls hl => ?_)
  have lp4 : ∀ (j i : Nat), i + j = q → ∀  (ls : Array Slot) , lv_has ls 3 [(0, .int (nI q)), (1, .int (sI (qf_E i))), (2, .int (nI i))] → W p l e (headSpec wsX6_power ({ frames := 1, cells := 0, slots := 0, locals := 24 } : Room)).room s m ([.int (nI q)] : List Value).toArray below meth c s.heap [] 0 0 Q (F0 m 4 ls []) := by
    intro j
    induction j with
    | zero =>
      intro i hi  ls hl
      have e9 : q = i := by omega
      subst e9
      refine lv_iload_n hx hb dX6_power_4 rfl (lv_at hl 2 rfl) ?_
      refine lv_iload_n hx hb dX6_power_5 rfl (lv_at hl 0 rfl) ?_
      refine qr_ge (tgt := 21) hx hb dX6_power_6 rfl (by omega) (by omega) (fun b6 => ?_) (fun h => absurd h (by omega))
      refine lv_iload_n hx hb dX6_power_21 rfl (lv_at hl 1 rfl) ?_
      subst hQ
      exact W.iret hx hb hr (fun t ht hW => ⟨_, rfl, rfl, ht⟩) (fun _ h => absurd h List.not_mem_nil) dX6_power_22
    | succ j ih =>
      intro i hi  ls hl
      have li : i < q := by omega
      refine lv_iload_n hx hb dX6_power_4 rfl (lv_at hl 2 rfl) ?_
      refine lv_iload_n hx hb dX6_power_5 rfl (lv_at hl 0 rfl) ?_
      refine qr_ge (tgt := 21) hx hb dX6_power_6 rfl (by omega) (by omega) (fun h => absurd h (by omega)) (fun b6 => ?_)
      refine lv_iload_n hx hb dX6_power_9 rfl (lv_at hl 1 rfl) ?_
      refine lv_iconst (v := sI 2#8) hx hb dX6_power_10 (by decide) ?_
      refine vp_callSi (va_Run.run (va_runS (As := [.int (sI (qf_E i)), .int (sI 2#8)]) (rest := []) ⟨hx, hb, hml, hown, hts⟩ (qc_mtimes l (qf_E i) 2#8 ) (va_cwS 2 hts gX6_power_X6_times rfl rfl rfl (by decide +kernel) ⟨Nat.le_of_ble_eq_true rfl, Nat.le_of_ble_eq_true rfl⟩) ⟨fun a U g mk q => q, fun U hU hW => ⟨rfl, trivial⟩⟩ rfl rfl hl.1 rfl (lv_room (Nat.le_of_ble_eq_true rfl)) dX6_power_11 ⟨Nat.le_of_ble_eq_true rfl, Nat.le_of_ble_eq_true rfl⟩)) (fun r11 hr11 => ?_)
      have hr11 : r11 = sI (qf_m (qf_E i) 2#8) := hr11
      subst hr11
      refine lv_istore_n (lv' := [(1, .int (sI (qf_m (qf_E i) 2#8))), (0, .int (nI q)), (2, .int (nI i))]) hx hb dX6_power_14 rfl hl (by decide) rfl (fun ls hl => ?_)
      refine lv_iinc (k := 2) (v := nI (i + 1)) (lv' := [(2, .int (nI (i + 1))), (1, .int (sI (qf_m (qf_E i) 2#8))), (0, .int (nI q))]) hx hb dX6_power_15 hl rfl (qr_inc _) (by decide) rfl (fun ls hl => ?_)
      refine lv_goto (tgt := 4) hx hb dX6_power_18 rfl ?_
      have hl := lv_sub (l' := [(0, .int (nI q)), (1, .int (sI (qf_m (qf_E i) 2#8))), (2, .int (nI (i + 1)))]) hl [2, 1, 0] rfl
      have e1 : qf_E (i + 1) = qf_m (qf_E i) 2#8 := by first | rfl | (simp only [cond_true, cond_false])
      exact ih (i + 1) (by omega)  ls (by rw [e1]; exact hl) 
  have hl := lv_sub (l' := [(0, .int (nI q)), (1, .int (sI 1#8)), (2, .int (nI 0))]) hl [2, 1, 0] rfl
  exact lp4 q 0 (by omega)  ls hl 
set_option maxHeartbeats 4000000 in
set_option maxRecDepth 100000 in
/-- reference: inverse -/
theorem qc_minverse (l : Launch) (a : BitVec 8)  : Met l yX6_inverse wsX6_inverse ({ frames := 1, cells := 0, slots := 0, locals := 24 } : Room) (va_Pc [.int (sI a)] (fun _ => True)) (vp_Si (fun r => r = sI (qf_i a))) 0 0 (fun _ => False) := by
  refine Met.ofW (cc := cX6_inverse) (maxL := 3) (ret := (some .int)) (by decide) rfl ?_
  intro p e s m args below meth c s₁ B hml hv
  obtain ⟨rfl, -⟩ := hv
  have hx := B.exec
  have hb := B.bytes
  have hr := B.returns
  have hts := atoms_spec (ws := wsX6_inverse) B.pre
  have hown : s.vm.findClass RX6 = some m.cls := findClass_of_methodNamed B.named
  have hlocks := B.notSynchronized
  have hl := lv_entry ([.int (sI a)]) (n := 3) (Nat.le_of_ble_eq_true rfl)
  rw [lg_entry_eq]
  generalize (lg_sl ([.int (sI a)]) ++ List.replicate (3 - (lg_sl ([.int (sI a)])).length) Slot.unset).toArray = ls at hl ⊢
  have hl : lv_has ls 3 [(0, .int (sI a))] := hl
  refine qr_nm (fun Q hQ => ?_)
  refine lv_iconst (v := sI 1#8) hx hb dX6_inverse_0 (by decide) ?_
  refine lv_istore_n (lv' := [(1, .int (sI 1#8)), (0, .int (sI a))]) hx hb dX6_inverse_1 rfl hl (by decide) rfl (fun ls hl => ?_)
  refine lv_iconst (v := nI 0) hx hb dX6_inverse_2 (by decide) ?_
  refine lv_istore_n (lv' := [(2, .int (nI 0)), (1, .int (sI 1#8)), (0, .int (sI a))]) hx hb dX6_inverse_3 rfl hl (by decide) rfl (fun ls hl => ?_)
  have lp4 : ∀ (j i : Nat), i + j = 254 → ∀  (ls : Array Slot) , lv_has ls 3 [(0, .int (sI a)), (1, .int (sI (qf_p a i))), (2, .int (nI i))] → W p l e (headSpec wsX6_inverse ({ frames := 1, cells := 0, slots := 0, locals := 24 } : Room)).room s m ([.int (sI a)] : List Value).toArray below meth c s.heap [] 0 0 Q (F0 m 4 ls []) := by
    intro j
    induction j with
    | zero =>
      intro i hi  ls hl
      have e9 : 254 = i := by omega
      subst e9
      refine lv_iload_n hx hb dX6_inverse_4 rfl (lv_at hl 2 rfl) ?_
      refine lv_sipush (v := nI 254) hx hb dX6_inverse_5 (by decide) ?_
      refine qr_ge (tgt := 23) hx hb dX6_inverse_8 rfl (by omega) (by omega) (fun b8 => ?_) (fun h => absurd h (by omega))
      refine lv_iload_n hx hb dX6_inverse_23 rfl (lv_at hl 1 rfl) ?_
      subst hQ
      exact W.iret hx hb hr (fun t ht hW => ⟨_, rfl, rfl, ht⟩) (fun _ h => absurd h List.not_mem_nil) dX6_inverse_24
    | succ j ih =>
      intro i hi  ls hl
      have li : i < 254 := by omega
      refine lv_iload_n hx hb dX6_inverse_4 rfl (lv_at hl 2 rfl) ?_
      refine lv_sipush (v := nI 254) hx hb dX6_inverse_5 (by decide) ?_
      refine qr_ge (tgt := 23) hx hb dX6_inverse_8 rfl (by omega) (by omega) (fun h => absurd h (by omega)) (fun b8 => ?_)
      refine lv_iload_n hx hb dX6_inverse_11 rfl (lv_at hl 1 rfl) ?_
      refine lv_iload_n hx hb dX6_inverse_12 rfl (lv_at hl 0 rfl) ?_
      refine vp_callSi (va_Run.run (va_runS (As := [.int (sI (qf_p a i)), .int (sI a)]) (rest := []) ⟨hx, hb, hml, hown, hts⟩ (qc_mtimes l (qf_p a i) a ) (va_cwS 2 hts gX6_inverse_X6_times rfl rfl rfl (by decide +kernel) ⟨Nat.le_of_ble_eq_true rfl, Nat.le_of_ble_eq_true rfl⟩) ⟨fun a U g mk q => q, fun U hU hW => ⟨rfl, trivial⟩⟩ rfl rfl hl.1 rfl (lv_room (Nat.le_of_ble_eq_true rfl)) dX6_inverse_13 ⟨Nat.le_of_ble_eq_true rfl, Nat.le_of_ble_eq_true rfl⟩)) (fun r13 hr13 => ?_)
      have hr13 : r13 = sI (qf_m (qf_p a i) a) := hr13
      subst hr13
      refine lv_istore_n (lv' := [(1, .int (sI (qf_m (qf_p a i) a))), (0, .int (sI a)), (2, .int (nI i))]) hx hb dX6_inverse_16 rfl hl (by decide) rfl (fun ls hl => ?_)
      refine lv_iinc (k := 2) (v := nI (i + 1)) (lv' := [(2, .int (nI (i + 1))), (1, .int (sI (qf_m (qf_p a i) a))), (0, .int (sI a))]) hx hb dX6_inverse_17 hl rfl (qr_inc _) (by decide) rfl (fun ls hl => ?_)
      refine lv_goto (tgt := 4) hx hb dX6_inverse_20 rfl ?_
      have hl := lv_sub (l' := [(0, .int (sI a)), (1, .int (sI (qf_m (qf_p a i) a))), (2, .int (nI (i + 1)))]) hl [2, 1, 0] rfl
      have e1 : qf_p a (i + 1) = qf_m (qf_p a i) a := by first | rfl | (simp only [cond_true, cond_false])
      exact ih (i + 1) (by omega)  ls (by rw [e1]; exact hl) 
  have hl := lv_sub (l' := [(0, .int (sI a)), (1, .int (sI 1#8)), (2, .int (nI 0))]) hl [2, 1, 0] rfl
  exact lp4 254 0 (by omega)  ls hl 
set_option maxHeartbeats 4000000 in
set_option maxRecDepth 100000 in
/-- reference: sum -/
theorem qc_sum (l : Launch) (dC : Nat → ClassId) (dI : Nat → Nat → Nat) (cI cZ : ClassId) (h0 k0 T dn me du fi ls0 e1 e2 e3 e4 e5 e6 e7 e8 e9 e10 e11 e12 : Nat) (w : Nat → BitVec 8) (z : Nat → Bool) (M : Nat → Nat → BitVec 8) (pl : Nat → Nat) (n q : Nat) (hn : n ≤ 16) (hq : q < 4) : Met l yX6_sum wsX6_sum ({ frames := 1, cells := 0, slots := 0, locals := 24 } : Room) (va_Pc [.ref h0, .int (nI n), .int (nI q)] (fun U => va_P (dC, dI) vwCl [(h0, .inr (5, [.int (nI k0), .int (nI T), .ref e1, .ref e2, .ref e3, .int (nI dn), .ref e4, .ref e5, .ref e6, .ref e7, .ref e8, .int (nI me), .int (nI du), .int (nI fi), .int (nI ls0), .ref e9, .ref e10, .ref e11, .ref e12])), (e9, .inl (cI, 16, .inl (qS w))), (e10, .inl (cZ, 16, .inl (qZ z))), (e11, .inl (cI, 20, .inl (qS (qg_f M)))), (e12, .inl (cI, 4, .inl (qN pl)))] U.heap ∧ va_K (dC, dI) vwCl [(cI, .int), (cZ, .boolean)] U)) (vp_Si (fun r => r = sI (qw_S n w q))) 0 0 (fun _ => False) := by
  refine Met.ofW (cc := cX6_sum) (maxL := 5) (ret := (some .int)) (by decide) rfl ?_
  intro p e s m args below meth c s₁ B hml hv
  obtain ⟨rfl, hP, hK⟩ := hv
  have hx := B.exec
  have hb := B.bytes
  have hr := B.returns
  have hts := atoms_spec (ws := wsX6_sum) B.pre
  have hown : s.vm.findClass RX6 = some m.cls := findClass_of_methodNamed B.named
  have hlocks := B.notSynchronized
  have hP : va_P (dC, dI) vwCl [(h0, .inr (5, [.int (nI k0), .int (nI T), .ref e1, .ref e2, .ref e3, .int (nI dn), .ref e4, .ref e5, .ref e6, .ref e7, .ref e8, .int (nI me), .int (nI du), .int (nI fi), .int (nI ls0), .ref e9, .ref e10, .ref e11, .ref e12])), (e9, .inl (cI, 16, .inl (qS w))), (e10, .inl (cZ, 16, .inl (qZ z))), (e11, .inl (cI, 20, .inl (qS (qg_f M)))), (e12, .inl (cI, 4, .inl (qN pl)))] s.heap := hP
  have hl := lv_entry ([.ref h0, .int (nI n), .int (nI q)]) (n := 5) (Nat.le_of_ble_eq_true rfl)
  rw [lg_entry_eq]
  generalize (lg_sl ([.ref h0, .int (nI n), .int (nI q)]) ++ List.replicate (5 - (lg_sl ([.ref h0, .int (nI n), .int (nI q)])).length) Slot.unset).toArray = ls at hl ⊢
  have hl : lv_has ls 5 [(0, .ref h0), (1, .int (nI n)), (2, .int (nI q))] := hl
  have k_35 := hts (.fieldLink RX6 35 "DiscCoderModel" "word" "[I") (by decide +kernel)
  have i_X6 : ∀ w ∈ u_ws RX6 TX6 19, w ∈ wsX6_sum := by decide +kernel
  refine qr_nm (fun Q hQ => ?_)
  refine lv_iconst (v := sI 0#8) hx hb dX6_sum_0 (by decide) ?_
  refine lv_istore_n (lv' := [(3, .int (sI 0#8)), (0, .ref h0), (1, .int (nI n)), (2, .int (nI q))]) hx hb dX6_sum_1 rfl hl (by decide) rfl (fun ls hl => ?_)
  refine lv_iconst (v := nI 0) hx hb dX6_sum_2 (by decide) ?_
  refine lv_istore (lv' := [(4, .int (nI 0)), (3, .int (sI 0#8)), (0, .ref h0), (1, .int (nI n)), (2, .int (nI q))]) hx hb dX6_sum_3 hl (by decide) rfl (fun ls hl => ?_)
  have lp5 : ∀ (j i : Nat), i + j = n → ∀  (ls : Array Slot) , lv_has ls 5 [(0, .ref h0), (1, .int (nI n)), (2, .int (nI q)), (3, .int (sI (qw_h (qf_E q) w i))), (4, .int (nI i))] → W p l e (headSpec wsX6_sum ({ frames := 1, cells := 0, slots := 0, locals := 24 } : Room)).room s m ([.ref h0, .int (nI n), .int (nI q)] : List Value).toArray below meth c s.heap [] 0 0 Q (F0 m 5 ls []) := by
    intro j
    induction j with
    | zero =>
      intro i hi  ls hl
      have e9 : n = i := by omega
      subst e9
      refine lv_iload hx hb dX6_sum_5 (lv_at hl 4 rfl) ?_
      refine lv_iload_n hx hb dX6_sum_7 rfl (lv_at hl 1 rfl) ?_
      refine qr_ge (tgt := 33) hx hb dX6_sum_8 rfl (by omega) (by omega) (fun b8 => ?_) (fun h => absurd h (by omega))
      refine lv_iload_n hx hb dX6_sum_33 rfl (lv_at hl 3 rfl) ?_
      subst hQ
      exact W.iret hx hb hr (fun t ht hW => ⟨_, rfl, rfl, ht⟩) (fun _ h => absurd h List.not_mem_nil) dX6_sum_34
    | succ j ih =>
      intro i hi  ls hl
      have li : i < n := by omega
      refine lv_iload hx hb dX6_sum_5 (lv_at hl 4 rfl) ?_
      refine lv_iload_n hx hb dX6_sum_7 rfl (lv_at hl 1 rfl) ?_
      refine qr_ge (tgt := 33) hx hb dX6_sum_8 rfl (by omega) (by omega) (fun h => absurd h (by omega)) (fun b8 => ?_)
      refine lv_iload_n hx hb dX6_sum_11 rfl (lv_at hl 3 rfl) ?_
      refine lv_iconst (v := nI 1) hx hb dX6_sum_12 (by decide) ?_
      refine lv_iload_n hx hb dX6_sum_13 rfl (lv_at hl 2 rfl) ?_
      refine qr_ishl (z := sI (qf_E q)) hx hb dX6_sum_14 (qr_shE hq) ?_
      refine vp_callSi (va_Run.run (va_runS (As := [.int (sI (qw_h (qf_E q) w i)), .int (sI (qf_E q))]) (rest := []) ⟨hx, hb, hml, hown, hts⟩ (qc_mtimes l (qw_h (qf_E q) w i) (qf_E q) ) (va_cwS 2 hts gX6_sum_X6_times rfl rfl rfl (by decide +kernel) ⟨Nat.le_of_ble_eq_true rfl, Nat.le_of_ble_eq_true rfl⟩) ⟨fun a U g mk q => q, fun U hU hW => ⟨rfl, trivial⟩⟩ rfl rfl hl.1 rfl (lv_room (Nat.le_of_ble_eq_true rfl)) dX6_sum_15 ⟨Nat.le_of_ble_eq_true rfl, Nat.le_of_ble_eq_true rfl⟩)) (fun r15 hr15 => ?_)
      have hr15 : r15 = sI (qf_m (qw_h (qf_E q) w i) (qf_E q)) := hr15
      subst hr15
      refine lv_aload_n hx hb dX6_sum_18 rfl (lv_at hl 0 rfl) ?_
      refine va_get (D := (dC, dI)) (ci := 5) (v := .ref e9) (C := RX6) (T := TX6) (N := 19) hx hb hts i_X6 hown hK hP 0 rfl rfl 15 (by decide) k_35 (fun _ h9 => h9) rfl dX6_sum_19 ?_
      refine lv_iload hx hb dX6_sum_22 (lv_at hl 4 rfl) ?_
      refine qr_ildS hx hb hK hP 1 0 rfl rfl (by omega) (by omega) dX6_sum_24 ?_
      refine qr_ixor (z := sI ((qf_m (qw_h (qf_E q) w i) (qf_E q)) ^^^ (w i))) hx hb dX6_sum_25 (sI_xor _ _) ?_
      refine lv_istore_n (lv' := [(3, .int (sI ((qf_m (qw_h (qf_E q) w i) (qf_E q)) ^^^ (w i)))), (0, .ref h0), (1, .int (nI n)), (2, .int (nI q)), (4, .int (nI i))]) hx hb dX6_sum_26 rfl hl (by decide) rfl (fun ls hl => ?_)
      refine lv_iinc (k := 4) (v := nI (i + 1)) (lv' := [(4, .int (nI (i + 1))), (3, .int (sI ((qf_m (qw_h (qf_E q) w i) (qf_E q)) ^^^ (w i)))), (0, .ref h0), (1, .int (nI n)), (2, .int (nI q))]) hx hb dX6_sum_27 hl rfl (qr_inc _) (by decide) rfl (fun ls hl => ?_)
      refine lv_goto (tgt := 5) hx hb dX6_sum_30 rfl ?_
      have hl := lv_sub (l' := [(0, .ref h0), (1, .int (nI n)), (2, .int (nI q)), (3, .int (sI ((qf_m (qw_h (qf_E q) w i) (qf_E q)) ^^^ (w i)))), (4, .int (nI (i + 1)))]) hl [2, 3, 4, 1, 0] rfl
      have e1 : qw_h (qf_E q) w (i + 1) = (qf_m (qw_h (qf_E q) w i) (qf_E q)) ^^^ (w i) := by first | rfl | (simp only [cond_true, cond_false])
      exact ih (i + 1) (by omega)  ls (by rw [e1]; exact hl) 
  have hl := lv_sub (l' := [(0, .ref h0), (1, .int (nI n)), (2, .int (nI q)), (3, .int (sI 0#8)), (4, .int (nI 0))]) hl [2, 3, 4, 1, 0] rfl
  exact lp5 n 0 (by omega)  ls hl 
set_option maxHeartbeats 4000000 in
set_option maxRecDepth 100000 in
/-- reference: isWord -/
theorem qc_misWord (l : Launch) (dC : Nat → ClassId) (dI : Nat → Nat → Nat) (cI cZ : ClassId) (h0 k0 T dn me du fi ls0 e1 e2 e3 e4 e5 e6 e7 e8 e9 e10 e11 e12 : Nat) (w : Nat → BitVec 8) (z : Nat → Bool) (M : Nat → Nat → BitVec 8) (pl : Nat → Nat) (n : Nat) (hn : n ≤ 16) : Met l yX6_isWord wsX6_isWord ({ frames := 2, cells := 0, slots := 0, locals := 48 } : Room) (va_Pc [.ref h0, .int (nI n)] (fun U => va_P (dC, dI) vwCl [(h0, .inr (5, [.int (nI k0), .int (nI T), .ref e1, .ref e2, .ref e3, .int (nI dn), .ref e4, .ref e5, .ref e6, .ref e7, .ref e8, .int (nI me), .int (nI du), .int (nI fi), .int (nI ls0), .ref e9, .ref e10, .ref e11, .ref e12])), (e9, .inl (cI, 16, .inl (qS w))), (e10, .inl (cZ, 16, .inl (qZ z))), (e11, .inl (cI, 20, .inl (qS (qg_f M)))), (e12, .inl (cI, 4, .inl (qN pl)))] U.heap ∧ va_K (dC, dI) vwCl [(cI, .int), (cZ, .boolean)] U)) (vp_Si (fun r => ∃ b : Bool, r = zI b ∧ (b = true ↔ qw_W n w))) 0 0 (fun _ => False) := by
  refine Met.ofW (cc := cX6_isWord) (maxL := 2) (ret := (some .boolean)) (by decide) rfl ?_
  intro p e s m args below meth c s₁ B hml hv
  obtain ⟨rfl, hP, hK⟩ := hv
  have hx := B.exec
  have hb := B.bytes
  have hr := B.returns
  have hts := atoms_spec (ws := wsX6_isWord) B.pre
  have hown : s.vm.findClass RX6 = some m.cls := findClass_of_methodNamed B.named
  have hlocks := B.notSynchronized
  have hP : va_P (dC, dI) vwCl [(h0, .inr (5, [.int (nI k0), .int (nI T), .ref e1, .ref e2, .ref e3, .int (nI dn), .ref e4, .ref e5, .ref e6, .ref e7, .ref e8, .int (nI me), .int (nI du), .int (nI fi), .int (nI ls0), .ref e9, .ref e10, .ref e11, .ref e12])), (e9, .inl (cI, 16, .inl (qS w))), (e10, .inl (cZ, 16, .inl (qZ z))), (e11, .inl (cI, 20, .inl (qS (qg_f M)))), (e12, .inl (cI, 4, .inl (qN pl)))] s.heap := hP
  have hl := lv_entry ([.ref h0, .int (nI n)]) (n := 2) (Nat.le_of_ble_eq_true rfl)
  rw [lg_entry_eq]
  generalize (lg_sl ([.ref h0, .int (nI n)]) ++ List.replicate (2 - (lg_sl ([.ref h0, .int (nI n)])).length) Slot.unset).toArray = ls at hl ⊢
  have hl : lv_has ls 2 [(0, .ref h0), (1, .int (nI n))] := hl
  refine qr_nm (fun Q hQ => ?_)
  refine lv_aload_n hx hb dX6_isWord_0 rfl (lv_at hl 0 rfl) ?_
  refine lv_iload_n hx hb dX6_isWord_1 rfl (lv_at hl 1 rfl) ?_
  refine lv_iconst (v := nI 0) hx hb dX6_isWord_2 (by decide) ?_
  have hPc := hP.sub (ws' := [(h0, .inr (5, [.int (nI k0), .int (nI T), .ref e1, .ref e2, .ref e3, .int (nI dn), .ref e4, .ref e5, .ref e6, .ref e7, .ref e8, .int (nI me), .int (nI du), .int (nI fi), .int (nI ls0), .ref e9, .ref e10, .ref e11, .ref e12])), (e9, .inl (cI, 16, .inl (qS w))), (e10, .inl (cZ, 16, .inl (qZ z))), (e11, .inl (cI, 20, .inl (qS (qg_f M)))), (e12, .inl (cI, 4, .inl (qN pl)))]) [0, 1, 2, 3, 4] rfl
  have hKc := hK.sub (tys' := [(cI, .int), (cZ, .boolean)]) [0, 1] rfl
  refine vp_callSi (va_Run.run (va_runV (As := [.int (nI n), .int (nI 0)]) (rest := []) ⟨hx, hb, hml, hown, hts⟩ (qc_sum l dC dI cI cZ h0 k0 T dn me du fi ls0 e1 e2 e3 e4 e5 e6 e7 e8 e9 e10 e11 e12 w z M pl n 0 hn (by omega)) (cwV 2 hts gX6_isWord_X6_sum rfl rfl rfl (by decide +kernel) ⟨Nat.le_of_ble_eq_true rfl, Nat.le_of_ble_eq_true rfl⟩) ⟨fun a U g mk q => by obtain ⟨q0, qP, qK⟩ := q; exact ⟨q0, qP, va_K.moved (u := U) (U := U.calling g mk a) (Vm.Alike.refl U.vm) qK⟩, (va_recv (q0 := 0) (ci := 5) hK hP rfl rfl), fun U hU hW => ⟨rfl, by rw [hU]; exact hPc, va_K.moved hW.alike hKc⟩⟩ rfl rfl hl.1 rfl (lv_room (Nat.le_of_ble_eq_true rfl)) dX6_isWord_3 ⟨Nat.le_of_ble_eq_true rfl, Nat.le_of_ble_eq_true rfl⟩)) (fun r3 hr3 => ?_)
  have hr3 : r3 = sI (qw_S n w 0) := hr3
  subst hr3
  refine qr_ifneS (tgt := 40) hx hb dX6_isWord_6 rfl  (fun b6 => ?_) (fun b6 => ?_)
  · refine lv_iconst (v := zI false) hx hb dX6_isWord_40 (by decide) ?_
    subst hQ
    exact W.zret hx hb hr (qr_narZ _) (fun t ht hW => ⟨_, rfl, ⟨false, rfl, ⟨fun h => Bool.noConfusion h, fun h => absurd (h 0 (by omega)) b6⟩⟩, ht⟩) (fun _ h => absurd h List.not_mem_nil) dX6_isWord_41
  · refine lv_aload_n hx hb dX6_isWord_9 rfl (lv_at hl 0 rfl) ?_
    refine lv_iload_n hx hb dX6_isWord_10 rfl (lv_at hl 1 rfl) ?_
    refine lv_iconst (v := nI 1) hx hb dX6_isWord_11 (by decide) ?_
    have hPc := hP.sub (ws' := [(h0, .inr (5, [.int (nI k0), .int (nI T), .ref e1, .ref e2, .ref e3, .int (nI dn), .ref e4, .ref e5, .ref e6, .ref e7, .ref e8, .int (nI me), .int (nI du), .int (nI fi), .int (nI ls0), .ref e9, .ref e10, .ref e11, .ref e12])), (e9, .inl (cI, 16, .inl (qS w))), (e10, .inl (cZ, 16, .inl (qZ z))), (e11, .inl (cI, 20, .inl (qS (qg_f M)))), (e12, .inl (cI, 4, .inl (qN pl)))]) [0, 1, 2, 3, 4] rfl
    have hKc := hK.sub (tys' := [(cI, .int), (cZ, .boolean)]) [0, 1] rfl
    refine vp_callSi (va_Run.run (va_runV (As := [.int (nI n), .int (nI 1)]) (rest := []) ⟨hx, hb, hml, hown, hts⟩ (qc_sum l dC dI cI cZ h0 k0 T dn me du fi ls0 e1 e2 e3 e4 e5 e6 e7 e8 e9 e10 e11 e12 w z M pl n 1 hn (by omega)) (cwV 2 hts gX6_isWord_X6_sum rfl rfl rfl (by decide +kernel) ⟨Nat.le_of_ble_eq_true rfl, Nat.le_of_ble_eq_true rfl⟩) ⟨fun a U g mk q => by obtain ⟨q0, qP, qK⟩ := q; exact ⟨q0, qP, va_K.moved (u := U) (U := U.calling g mk a) (Vm.Alike.refl U.vm) qK⟩, (va_recv (q0 := 0) (ci := 5) hK hP rfl rfl), fun U hU hW => ⟨rfl, by rw [hU]; exact hPc, va_K.moved hW.alike hKc⟩⟩ rfl rfl hl.1 rfl (lv_room (Nat.le_of_ble_eq_true rfl)) dX6_isWord_12 ⟨Nat.le_of_ble_eq_true rfl, Nat.le_of_ble_eq_true rfl⟩)) (fun r12 hr12 => ?_)
    have hr12 : r12 = sI (qw_S n w 1) := hr12
    subst hr12
    refine qr_ifneS (tgt := 40) hx hb dX6_isWord_15 rfl  (fun b15 => ?_) (fun b15 => ?_)
    · refine lv_iconst (v := zI false) hx hb dX6_isWord_40 (by decide) ?_
      subst hQ
      exact W.zret hx hb hr (qr_narZ _) (fun t ht hW => ⟨_, rfl, ⟨false, rfl, ⟨fun h => Bool.noConfusion h, fun h => absurd (h 1 (by omega)) b15⟩⟩, ht⟩) (fun _ h => absurd h List.not_mem_nil) dX6_isWord_41
    · refine lv_aload_n hx hb dX6_isWord_18 rfl (lv_at hl 0 rfl) ?_
      refine lv_iload_n hx hb dX6_isWord_19 rfl (lv_at hl 1 rfl) ?_
      refine lv_iconst (v := nI 2) hx hb dX6_isWord_20 (by decide) ?_
      have hPc := hP.sub (ws' := [(h0, .inr (5, [.int (nI k0), .int (nI T), .ref e1, .ref e2, .ref e3, .int (nI dn), .ref e4, .ref e5, .ref e6, .ref e7, .ref e8, .int (nI me), .int (nI du), .int (nI fi), .int (nI ls0), .ref e9, .ref e10, .ref e11, .ref e12])), (e9, .inl (cI, 16, .inl (qS w))), (e10, .inl (cZ, 16, .inl (qZ z))), (e11, .inl (cI, 20, .inl (qS (qg_f M)))), (e12, .inl (cI, 4, .inl (qN pl)))]) [0, 1, 2, 3, 4] rfl
      have hKc := hK.sub (tys' := [(cI, .int), (cZ, .boolean)]) [0, 1] rfl
      refine vp_callSi (va_Run.run (va_runV (As := [.int (nI n), .int (nI 2)]) (rest := []) ⟨hx, hb, hml, hown, hts⟩ (qc_sum l dC dI cI cZ h0 k0 T dn me du fi ls0 e1 e2 e3 e4 e5 e6 e7 e8 e9 e10 e11 e12 w z M pl n 2 hn (by omega)) (cwV 2 hts gX6_isWord_X6_sum rfl rfl rfl (by decide +kernel) ⟨Nat.le_of_ble_eq_true rfl, Nat.le_of_ble_eq_true rfl⟩) ⟨fun a U g mk q => by obtain ⟨q0, qP, qK⟩ := q; exact ⟨q0, qP, va_K.moved (u := U) (U := U.calling g mk a) (Vm.Alike.refl U.vm) qK⟩, (va_recv (q0 := 0) (ci := 5) hK hP rfl rfl), fun U hU hW => ⟨rfl, by rw [hU]; exact hPc, va_K.moved hW.alike hKc⟩⟩ rfl rfl hl.1 rfl (lv_room (Nat.le_of_ble_eq_true rfl)) dX6_isWord_21 ⟨Nat.le_of_ble_eq_true rfl, Nat.le_of_ble_eq_true rfl⟩)) (fun r21 hr21 => ?_)
      have hr21 : r21 = sI (qw_S n w 2) := hr21
      subst hr21
      refine qr_ifneS (tgt := 40) hx hb dX6_isWord_24 rfl  (fun b24 => ?_) (fun b24 => ?_)
      · refine lv_iconst (v := zI false) hx hb dX6_isWord_40 (by decide) ?_
        subst hQ
        exact W.zret hx hb hr (qr_narZ _) (fun t ht hW => ⟨_, rfl, ⟨false, rfl, ⟨fun h => Bool.noConfusion h, fun h => absurd (h 2 (by omega)) b24⟩⟩, ht⟩) (fun _ h => absurd h List.not_mem_nil) dX6_isWord_41
      · refine lv_aload_n hx hb dX6_isWord_27 rfl (lv_at hl 0 rfl) ?_
        refine lv_iload_n hx hb dX6_isWord_28 rfl (lv_at hl 1 rfl) ?_
        refine lv_iconst (v := nI 3) hx hb dX6_isWord_29 (by decide) ?_
        have hPc := hP.sub (ws' := [(h0, .inr (5, [.int (nI k0), .int (nI T), .ref e1, .ref e2, .ref e3, .int (nI dn), .ref e4, .ref e5, .ref e6, .ref e7, .ref e8, .int (nI me), .int (nI du), .int (nI fi), .int (nI ls0), .ref e9, .ref e10, .ref e11, .ref e12])), (e9, .inl (cI, 16, .inl (qS w))), (e10, .inl (cZ, 16, .inl (qZ z))), (e11, .inl (cI, 20, .inl (qS (qg_f M)))), (e12, .inl (cI, 4, .inl (qN pl)))]) [0, 1, 2, 3, 4] rfl
        have hKc := hK.sub (tys' := [(cI, .int), (cZ, .boolean)]) [0, 1] rfl
        refine vp_callSi (va_Run.run (va_runV (As := [.int (nI n), .int (nI 3)]) (rest := []) ⟨hx, hb, hml, hown, hts⟩ (qc_sum l dC dI cI cZ h0 k0 T dn me du fi ls0 e1 e2 e3 e4 e5 e6 e7 e8 e9 e10 e11 e12 w z M pl n 3 hn (by omega)) (cwV 2 hts gX6_isWord_X6_sum rfl rfl rfl (by decide +kernel) ⟨Nat.le_of_ble_eq_true rfl, Nat.le_of_ble_eq_true rfl⟩) ⟨fun a U g mk q => by obtain ⟨q0, qP, qK⟩ := q; exact ⟨q0, qP, va_K.moved (u := U) (U := U.calling g mk a) (Vm.Alike.refl U.vm) qK⟩, (va_recv (q0 := 0) (ci := 5) hK hP rfl rfl), fun U hU hW => ⟨rfl, by rw [hU]; exact hPc, va_K.moved hW.alike hKc⟩⟩ rfl rfl hl.1 rfl (lv_room (Nat.le_of_ble_eq_true rfl)) dX6_isWord_30 ⟨Nat.le_of_ble_eq_true rfl, Nat.le_of_ble_eq_true rfl⟩)) (fun r30 hr30 => ?_)
        have hr30 : r30 = sI (qw_S n w 3) := hr30
        subst hr30
        refine qr_ifneS (tgt := 40) hx hb dX6_isWord_33 rfl  (fun b33 => ?_) (fun b33 => ?_)
        · refine lv_iconst (v := zI false) hx hb dX6_isWord_40 (by decide) ?_
          subst hQ
          exact W.zret hx hb hr (qr_narZ _) (fun t ht hW => ⟨_, rfl, ⟨false, rfl, ⟨fun h => Bool.noConfusion h, fun h => absurd (h 3 (by omega)) b33⟩⟩, ht⟩) (fun _ h => absurd h List.not_mem_nil) dX6_isWord_41
        · refine lv_iconst (v := zI true) hx hb dX6_isWord_36 (by decide) ?_
          refine lv_goto (tgt := 41) hx hb dX6_isWord_37 rfl ?_
          subst hQ
          exact W.zret hx hb hr (qr_narZ _) (fun t ht hW => ⟨_, rfl, ⟨true, rfl, ⟨fun _ => qm_W4 b6 b15 b24 b33, fun _ => rfl⟩⟩, ht⟩) (fun _ h => absurd h List.not_mem_nil) dX6_isWord_41
set_option maxHeartbeats 4000000 in
set_option maxRecDepth 100000 in
/-- reference: swap -/
theorem qc_swap (l : Launch) (dC : Nat → ClassId) (dI : Nat → Nat → Nat) (cI cZ : ClassId) (h0 k0 T dn me du fi ls0 e1 e2 e3 e4 e5 e6 e7 e8 e9 e10 e11 e12 : Nat) (w : Nat → BitVec 8) (z : Nat → Bool) (M : Nat → Nat → BitVec 8) (pl : Nat → Nat) (x y : Nat) (sz : Nat) (hx0 : x < 4) (hy0 : y < 4) : Met l yX6_swap wsX6_swap ({ frames := 0, cells := 0, slots := 0, locals := 0 } : Room) (va_Pc [.ref h0, .int (nI x), .int (nI y)] (fun U => U.heap.size = sz ∧ va_P (dC, dI) vwCl [(h0, .inr (5, [.int (nI k0), .int (nI T), .ref e1, .ref e2, .ref e3, .int (nI dn), .ref e4, .ref e5, .ref e6, .ref e7, .ref e8, .int (nI me), .int (nI du), .int (nI fi), .int (nI ls0), .ref e9, .ref e10, .ref e11, .ref e12])), (e9, .inl (cI, 16, .inl (qS w))), (e10, .inl (cZ, 16, .inl (qZ z))), (e11, .inl (cI, 20, .inl (qS (qg_f M)))), (e12, .inl (cI, 4, .inl (qN pl)))] U.heap ∧ va_K (dC, dI) vwCl [(cI, .int), (cZ, .boolean)] U ∧ va_D (fun _ => True) [(h0, .inr (5, [.int (nI k0), .int (nI T), .ref e1, .ref e2, .ref e3, .int (nI dn), .ref e4, .ref e5, .ref e6, .ref e7, .ref e8, .int (nI me), .int (nI du), .int (nI fi), .int (nI ls0), .ref e9, .ref e10, .ref e11, .ref e12])), (e9, .inl (cI, 16, .inl (qS w))), (e10, .inl (cZ, 16, .inl (qZ z))), (e11, .inl (cI, 20, .inl (qS (qg_f M)))), (e12, .inl (cI, 4, .inl (qN pl)))])) (va_Qv (fun (_ : Unit) => True) (fun _ t => va_P (dC, dI) vwCl [(h0, .inr (5, [.int (nI k0), .int (nI T), .ref e1, .ref e2, .ref e3, .int (nI dn), .ref e4, .ref e5, .ref e6, .ref e7, .ref e8, .int (nI me), .int (nI du), .int (nI fi), .int (nI ls0), .ref e9, .ref e10, .ref e11, .ref e12])), (e9, .inl (cI, 16, .inl (qS w))), (e10, .inl (cZ, 16, .inl (qZ z))), (e11, .inl (cI, 20, .inl (qS (qg_f (qg_sw M x y 5))))), (e12, .inl (cI, 4, .inl (qN pl)))] t.heap ∧ va_K (dC, dI) vwCl [(cI, .int), (cZ, .boolean)] t ∧ va_D (va_A [(h0, .inr (5, [.int (nI k0), .int (nI T), .ref e1, .ref e2, .ref e3, .int (nI dn), .ref e4, .ref e5, .ref e6, .ref e7, .ref e8, .int (nI me), .int (nI du), .int (nI fi), .int (nI ls0), .ref e9, .ref e10, .ref e11, .ref e12])), (e9, .inl (cI, 16, .inl (qS w))), (e10, .inl (cZ, 16, .inl (qZ z))), (e11, .inl (cI, 20, .inl (qS (qg_f M)))), (e12, .inl (cI, 4, .inl (qN pl)))] sz) [(h0, .inr (5, [.int (nI k0), .int (nI T), .ref e1, .ref e2, .ref e3, .int (nI dn), .ref e4, .ref e5, .ref e6, .ref e7, .ref e8, .int (nI me), .int (nI du), .int (nI fi), .int (nI ls0), .ref e9, .ref e10, .ref e11, .ref e12])), (e9, .inl (cI, 16, .inl (qS w))), (e10, .inl (cZ, 16, .inl (qZ z))), (e11, .inl (cI, 20, .inl (qS (qg_f (qg_sw M x y 5))))), (e12, .inl (cI, 4, .inl (qN pl)))]) (va_A [(h0, .inr (5, [.int (nI k0), .int (nI T), .ref e1, .ref e2, .ref e3, .int (nI dn), .ref e4, .ref e5, .ref e6, .ref e7, .ref e8, .int (nI me), .int (nI du), .int (nI fi), .int (nI ls0), .ref e9, .ref e10, .ref e11, .ref e12])), (e9, .inl (cI, 16, .inl (qS w))), (e10, .inl (cZ, 16, .inl (qZ z))), (e11, .inl (cI, 20, .inl (qS (qg_f M)))), (e12, .inl (cI, 4, .inl (qN pl)))] sz)) 0 0 (va_A [(h0, .inr (5, [.int (nI k0), .int (nI T), .ref e1, .ref e2, .ref e3, .int (nI dn), .ref e4, .ref e5, .ref e6, .ref e7, .ref e8, .int (nI me), .int (nI du), .int (nI fi), .int (nI ls0), .ref e9, .ref e10, .ref e11, .ref e12])), (e9, .inl (cI, 16, .inl (qS w))), (e10, .inl (cZ, 16, .inl (qZ z))), (e11, .inl (cI, 20, .inl (qS (qg_f M)))), (e12, .inl (cI, 4, .inl (qN pl)))] sz) := by
  refine Met.ofW (cc := cX6_swap) (maxL := 5) (ret := none) (by decide) rfl ?_
  intro p e s m args below meth c s₁ B hml hv
  obtain ⟨rfl, hsz, hP, hK, hD0⟩ := hv
  have hx := B.exec
  have hb := B.bytes
  have hr := B.returns
  have hts := atoms_spec (ws := wsX6_swap) B.pre
  have hown : s.vm.findClass RX6 = some m.cls := findClass_of_methodNamed B.named
  have hlocks := B.notSynchronized
  subst hsz
  have hD := hD0.self (sz := s.heap.size)
  generalize hAe : va_A [(h0, .inr (5, [.int (nI k0), .int (nI T), .ref e1, .ref e2, .ref e3, .int (nI dn), .ref e4, .ref e5, .ref e6, .ref e7, .ref e8, .int (nI me), .int (nI du), .int (nI fi), .int (nI ls0), .ref e9, .ref e10, .ref e11, .ref e12])), (e9, .inl (cI, 16, .inl (qS w))), (e10, .inl (cZ, 16, .inl (qZ z))), (e11, .inl (cI, 20, .inl (qS (qg_f M)))), (e12, .inl (cI, 4, .inl (qN pl)))] s.heap.size = A at hD ⊢
  have hA : ∀ q : Nat, s.heap.size ≤ q → A q := fun q h => by rw [← hAe]; exact Or.inr h
  have hS : va_S A s.heap s.heap [] := va_S.rf
  have hP : va_P (dC, dI) vwCl [(h0, .inr (5, [.int (nI k0), .int (nI T), .ref e1, .ref e2, .ref e3, .int (nI dn), .ref e4, .ref e5, .ref e6, .ref e7, .ref e8, .int (nI me), .int (nI du), .int (nI fi), .int (nI ls0), .ref e9, .ref e10, .ref e11, .ref e12])), (e9, .inl (cI, 16, .inl (qS w))), (e10, .inl (cZ, 16, .inl (qZ z))), (e11, .inl (cI, 20, .inl (qS (qg_f M)))), (e12, .inl (cI, 4, .inl (qN pl)))] s.heap := hP
  have hl := lv_entry ([.ref h0, .int (nI x), .int (nI y)]) (n := 5) (Nat.le_of_ble_eq_true rfl)
  rw [lg_entry_eq]
  generalize (lg_sl ([.ref h0, .int (nI x), .int (nI y)]) ++ List.replicate (5 - (lg_sl ([.ref h0, .int (nI x), .int (nI y)])).length) Slot.unset).toArray = ls at hl ⊢
  have hl : lv_has ls 5 [(0, .ref h0), (1, .int (nI x)), (2, .int (nI y))] := hl
  have k_41 := hts (.fieldLink RX6 41 "DiscCoderModel" "rows" "[I") (by decide +kernel)
  have i_X6 : ∀ w ∈ u_ws RX6 TX6 19, w ∈ wsX6_swap := by decide +kernel
  refine qr_nm (fun Q hQ => ?_)
  refine lv_iconst (v := nI 0) hx hb dX6_swap_0 (by decide) ?_
  refine lv_istore_n (lv' := [(3, .int (nI 0)), (0, .ref h0), (1, .int (nI x)), (2, .int (nI y))]) hx hb dX6_swap_1 rfl hl (by decide) rfl (fun ls hl => ?_)
  have lp2 : ∀ (j i : Nat), i + j = 5 → ∀  (ls : Array Slot) (H : Heap) (locs : List Loc), lv_has ls 5 [(0, .ref h0), (1, .int (nI x)), (2, .int (nI y)), (3, .int (nI i))] → va_P (dC, dI) vwCl [(h0, .inr (5, [.int (nI k0), .int (nI T), .ref e1, .ref e2, .ref e3, .int (nI dn), .ref e4, .ref e5, .ref e6, .ref e7, .ref e8, .int (nI me), .int (nI du), .int (nI fi), .int (nI ls0), .ref e9, .ref e10, .ref e11, .ref e12])), (e9, .inl (cI, 16, .inl (qS w))), (e10, .inl (cZ, 16, .inl (qZ z))), (e11, .inl (cI, 20, .inl (qS (qg_f (qg_sw M x y i))))), (e12, .inl (cI, 4, .inl (qN pl)))] H → va_D A [(h0, .inr (5, [.int (nI k0), .int (nI T), .ref e1, .ref e2, .ref e3, .int (nI dn), .ref e4, .ref e5, .ref e6, .ref e7, .ref e8, .int (nI me), .int (nI du), .int (nI fi), .int (nI ls0), .ref e9, .ref e10, .ref e11, .ref e12])), (e9, .inl (cI, 16, .inl (qS w))), (e10, .inl (cZ, 16, .inl (qZ z))), (e11, .inl (cI, 20, .inl (qS (qg_f (qg_sw M x y i))))), (e12, .inl (cI, 4, .inl (qN pl)))] → va_S A s.heap H locs → W p l e (headSpec wsX6_swap ({ frames := 0, cells := 0, slots := 0, locals := 0 } : Room)).room s m ([.ref h0, .int (nI x), .int (nI y)] : List Value).toArray below meth c H locs 0 0 Q (F0 m 2 ls []) := by
    intro j
    induction j with
    | zero =>
      intro i hi  ls H locs hl hP hD hS
      have e9 : 5 = i := by omega
      subst e9
      refine lv_iload_n hx hb dX6_swap_2 rfl (lv_at hl 3 rfl) ?_
      refine lv_iconst (v := nI 5) hx hb dX6_swap_3 (by decide) ?_
      refine qr_ge (tgt := 57) hx hb dX6_swap_4 rfl (by omega) (by omega) (fun b4 => ?_) (fun h => absurd h (by omega))
      subst hQ
      exact W.vret hx hb hr (fun t ht hW => ⟨⟨(), rfl, trivial, by rw [ht]; exact hP, va_K.moved hW.alike hK, hD⟩, hS.F ht⟩) hS.2.2 dX6_swap_57
    | succ j ih =>
      intro i hi  ls H locs hl hP hD hS
      have li : i < 5 := by omega
      refine lv_iload_n hx hb dX6_swap_2 rfl (lv_at hl 3 rfl) ?_
      refine lv_iconst (v := nI 5) hx hb dX6_swap_3 (by decide) ?_
      refine qr_ge (tgt := 57) hx hb dX6_swap_4 rfl (by omega) (by omega) (fun h => absurd h (by omega)) (fun b4 => ?_)
      refine lv_aload_n hx hb dX6_swap_7 rfl (lv_at hl 0 rfl) ?_
      refine va_get (D := (dC, dI)) (ci := 5) (v := .ref e11) (C := RX6) (T := TX6) (N := 19) hx hb hts i_X6 hown hK hP 0 rfl rfl 17 (by decide) k_41 (fun _ h9 => h9) rfl dX6_swap_8 ?_
      refine lv_iconst (v := nI 5) hx hb dX6_swap_11 (by decide) ?_
      refine lv_iload_n hx hb dX6_swap_12 rfl (lv_at hl 1 rfl) ?_
      refine qr_imul (z := nI (5 * x)) hx hb dX6_swap_13 (pk_mul _ _) ?_
      refine lv_iload_n hx hb dX6_swap_14 rfl (lv_at hl 3 rfl) ?_
      refine qr_iadd (z := nI ((5 * x) + i)) hx hb dX6_swap_15 (nI_add _ _) ?_
      refine qr_ildG hx hb hK hP 3 0 rfl rfl (by omega) (by omega) dX6_swap_16 ?_
      refine lv_istore (lv' := [(4, .int (sI ((qg_sw M x y i) x i))), (0, .ref h0), (1, .int (nI x)), (2, .int (nI y)), (3, .int (nI i))]) hx hb dX6_swap_17 hl (by decide) rfl (fun ls hl => ?_)
      refine lv_aload_n hx hb dX6_swap_19 rfl (lv_at hl 1 rfl) ?_
      refine va_get (D := (dC, dI)) (ci := 5) (v := .ref e11) (C := RX6) (T := TX6) (N := 19) hx hb hts i_X6 hown hK hP 0 rfl rfl 17 (by decide) k_41 (fun _ h9 => h9) rfl dX6_swap_20 ?_
      refine lv_iconst (v := nI 5) hx hb dX6_swap_23 (by decide) ?_
      refine lv_iload_n hx hb dX6_swap_24 rfl (lv_at hl 2 rfl) ?_
      refine qr_imul (z := nI (5 * x)) hx hb dX6_swap_25 (pk_mul _ _) ?_
      refine lv_iload_n hx hb dX6_swap_26 rfl (lv_at hl 4 rfl) ?_
      refine qr_iadd (z := nI ((5 * x) + i)) hx hb dX6_swap_27 (nI_add _ _) ?_
      refine lv_aload_n hx hb dX6_swap_28 rfl (lv_at hl 1 rfl) ?_
      refine va_get (D := (dC, dI)) (ci := 5) (v := .ref e11) (C := RX6) (T := TX6) (N := 19) hx hb hts i_X6 hown hK hP 0 rfl rfl 17 (by decide) k_41 (fun _ h9 => h9) rfl dX6_swap_29 ?_
      refine lv_iconst (v := nI 5) hx hb dX6_swap_32 (by decide) ?_
      refine lv_iload_n hx hb dX6_swap_33 rfl (lv_at hl 3 rfl) ?_
      refine qr_imul (z := nI (5 * y)) hx hb dX6_swap_34 (pk_mul _ _) ?_
      refine lv_iload_n hx hb dX6_swap_35 rfl (lv_at hl 4 rfl) ?_
      refine qr_iadd (z := nI ((5 * y) + i)) hx hb dX6_swap_36 (nI_add _ _) ?_
      refine qr_ildG hx hb hK hP 3 0 rfl rfl (by omega) (by omega) dX6_swap_37 ?_
      refine qr_istG (x := (qg_sw M x y i) y i) hx hb hK hP hD hS 3 0 rfl rfl (by omega) (by omega) dX6_swap_38 (fun H locs hP hD hS => ?_)
      have hP : va_P (dC, dI) vwCl [(h0, .inr (5, [.int (nI k0), .int (nI T), .ref e1, .ref e2, .ref e3, .int (nI dn), .ref e4, .ref e5, .ref e6, .ref e7, .ref e8, .int (nI me), .int (nI du), .int (nI fi), .int (nI ls0), .ref e9, .ref e10, .ref e11, .ref e12])), (e9, .inl (cI, 16, .inl (qS w))), (e10, .inl (cZ, 16, .inl (qZ z))), (e11, .inl (cI, 20, .inl (qS (qg_f (qg_up (qg_sw M x y i) x i ((qg_sw M x y i) y i)))))), (e12, .inl (cI, 4, .inl (qN pl)))] H := hP
      have hD : va_D A [(h0, .inr (5, [.int (nI k0), .int (nI T), .ref e1, .ref e2, .ref e3, .int (nI dn), .ref e4, .ref e5, .ref e6, .ref e7, .ref e8, .int (nI me), .int (nI du), .int (nI fi), .int (nI ls0), .ref e9, .ref e10, .ref e11, .ref e12])), (e9, .inl (cI, 16, .inl (qS w))), (e10, .inl (cZ, 16, .inl (qZ z))), (e11, .inl (cI, 20, .inl (qS (qg_f (qg_up (qg_sw M x y i) x i ((qg_sw M x y i) y i)))))), (e12, .inl (cI, 4, .inl (qN pl)))] := hD
      refine lv_aload_n hx hb dX6_swap_39 rfl (lv_at hl 1 rfl) ?_
      refine va_get (D := (dC, dI)) (ci := 5) (v := .ref e11) (C := RX6) (T := TX6) (N := 19) hx hb hts i_X6 hown hK hP 0 rfl rfl 17 (by decide) k_41 (fun _ h9 => h9) rfl dX6_swap_40 ?_
      refine lv_iconst (v := nI 5) hx hb dX6_swap_43 (by decide) ?_
      refine lv_iload_n hx hb dX6_swap_44 rfl (lv_at hl 3 rfl) ?_
      refine qr_imul (z := nI (5 * y)) hx hb dX6_swap_45 (pk_mul _ _) ?_
      refine lv_iload_n hx hb dX6_swap_46 rfl (lv_at hl 4 rfl) ?_
      refine qr_iadd (z := nI ((5 * y) + i)) hx hb dX6_swap_47 (nI_add _ _) ?_
      refine lv_iload hx hb dX6_swap_48 (lv_at hl 0 rfl) ?_
      refine qr_istG (x := (qg_sw M x y i) x i) hx hb hK hP hD hS 3 0 rfl rfl (by omega) (by omega) dX6_swap_50 (fun H locs hP hD hS => ?_)
      have hP : va_P (dC, dI) vwCl [(h0, .inr (5, [.int (nI k0), .int (nI T), .ref e1, .ref e2, .ref e3, .int (nI dn), .ref e4, .ref e5, .ref e6, .ref e7, .ref e8, .int (nI me), .int (nI du), .int (nI fi), .int (nI ls0), .ref e9, .ref e10, .ref e11, .ref e12])), (e9, .inl (cI, 16, .inl (qS w))), (e10, .inl (cZ, 16, .inl (qZ z))), (e11, .inl (cI, 20, .inl (qS (qg_f (qg_up (qg_up (qg_sw M x y i) x i ((qg_sw M x y i) y i)) y i ((qg_sw M x y i) x i)))))), (e12, .inl (cI, 4, .inl (qN pl)))] H := hP
      have hD : va_D A [(h0, .inr (5, [.int (nI k0), .int (nI T), .ref e1, .ref e2, .ref e3, .int (nI dn), .ref e4, .ref e5, .ref e6, .ref e7, .ref e8, .int (nI me), .int (nI du), .int (nI fi), .int (nI ls0), .ref e9, .ref e10, .ref e11, .ref e12])), (e9, .inl (cI, 16, .inl (qS w))), (e10, .inl (cZ, 16, .inl (qZ z))), (e11, .inl (cI, 20, .inl (qS (qg_f (qg_up (qg_up (qg_sw M x y i) x i ((qg_sw M x y i) y i)) y i ((qg_sw M x y i) x i)))))), (e12, .inl (cI, 4, .inl (qN pl)))] := hD
      refine lv_iinc (k := 4) (v := nI (i + 1)) (lv' := [(3, .int (nI (i + 1))), (4, .int (sI ((qg_sw M x y i) x i))), (0, .ref h0), (1, .int (nI x)), (2, .int (nI y))]) hx hb dX6_swap_51 hl rfl (qr_inc _) (by decide) rfl (fun ls hl => ?_)
      refine lv_goto (tgt := 2) hx hb dX6_swap_54 rfl ?_
      have hl := lv_sub (l' := [(0, .ref h0), (1, .int (nI x)), (2, .int (nI y)), (3, .int (nI (i + 1)))]) hl [2, 3, 4, 0] rfl
      have e1 : qg_sw M x y (i + 1) = qg_up (qg_up (qg_sw M x y i) x i ((qg_sw M x y i) y i)) y i ((qg_sw M x y i) x i) := by first | rfl | (simp only [cond_true, cond_false])
      exact ih (i + 1) (by omega)  ls H _ (by exact hl) (by rw [e1]; exact hP) (by rw [e1]; exact hD) hS 
  have hl := lv_sub (l' := [(0, .ref h0), (1, .int (nI x)), (2, .int (nI y)), (3, .int (nI 0))]) hl [1, 2, 3, 0] rfl
  exact lp2 5 0 (by omega)  ls s.heap _ hl hP hD hS 
set_option maxHeartbeats 4000000 in
set_option maxRecDepth 100000 in
/-- reference: clear -/
theorem qc_clear (l : Launch) (dC : Nat → ClassId) (dI : Nat → Nat → Nat) (cI cZ : ClassId) (h0 k0 T dn me du fi ls0 e1 e2 e3 e4 e5 e6 e7 e8 e9 e10 e11 e12 : Nat) (w : Nat → BitVec 8) (z : Nat → Bool) (M : Nat → Nat → BitVec 8) (pl : Nat → Nat) (x : Nat) (sz : Nat) (hx0 : x < 4) : Met l yX6_clear wsX6_clear ({ frames := 2, cells := 0, slots := 0, locals := 46 } : Room) (va_Pc [.ref h0, .int (nI x)] (fun U => U.heap.size = sz ∧ va_P (dC, dI) vwCl [(h0, .inr (5, [.int (nI k0), .int (nI T), .ref e1, .ref e2, .ref e3, .int (nI dn), .ref e4, .ref e5, .ref e6, .ref e7, .ref e8, .int (nI me), .int (nI du), .int (nI fi), .int (nI ls0), .ref e9, .ref e10, .ref e11, .ref e12])), (e9, .inl (cI, 16, .inl (qS w))), (e10, .inl (cZ, 16, .inl (qZ z))), (e11, .inl (cI, 20, .inl (qS (qg_f M)))), (e12, .inl (cI, 4, .inl (qN pl)))] U.heap ∧ va_K (dC, dI) vwCl [(cI, .int), (cZ, .boolean)] U ∧ va_D (fun _ => True) [(h0, .inr (5, [.int (nI k0), .int (nI T), .ref e1, .ref e2, .ref e3, .int (nI dn), .ref e4, .ref e5, .ref e6, .ref e7, .ref e8, .int (nI me), .int (nI du), .int (nI fi), .int (nI ls0), .ref e9, .ref e10, .ref e11, .ref e12])), (e9, .inl (cI, 16, .inl (qS w))), (e10, .inl (cZ, 16, .inl (qZ z))), (e11, .inl (cI, 20, .inl (qS (qg_f M)))), (e12, .inl (cI, 4, .inl (qN pl)))])) (va_Qv (fun (_ : Unit) => True) (fun _ t => va_P (dC, dI) vwCl [(h0, .inr (5, [.int (nI k0), .int (nI T), .ref e1, .ref e2, .ref e3, .int (nI dn), .ref e4, .ref e5, .ref e6, .ref e7, .ref e8, .int (nI me), .int (nI du), .int (nI fi), .int (nI ls0), .ref e9, .ref e10, .ref e11, .ref e12])), (e9, .inl (cI, 16, .inl (qS w))), (e10, .inl (cZ, 16, .inl (qZ z))), (e11, .inl (cI, 20, .inl (qS (qg_f (qg_clear M x))))), (e12, .inl (cI, 4, .inl (qN pl)))] t.heap ∧ va_K (dC, dI) vwCl [(cI, .int), (cZ, .boolean)] t ∧ va_D (va_A [(h0, .inr (5, [.int (nI k0), .int (nI T), .ref e1, .ref e2, .ref e3, .int (nI dn), .ref e4, .ref e5, .ref e6, .ref e7, .ref e8, .int (nI me), .int (nI du), .int (nI fi), .int (nI ls0), .ref e9, .ref e10, .ref e11, .ref e12])), (e9, .inl (cI, 16, .inl (qS w))), (e10, .inl (cZ, 16, .inl (qZ z))), (e11, .inl (cI, 20, .inl (qS (qg_f M)))), (e12, .inl (cI, 4, .inl (qN pl)))] sz) [(h0, .inr (5, [.int (nI k0), .int (nI T), .ref e1, .ref e2, .ref e3, .int (nI dn), .ref e4, .ref e5, .ref e6, .ref e7, .ref e8, .int (nI me), .int (nI du), .int (nI fi), .int (nI ls0), .ref e9, .ref e10, .ref e11, .ref e12])), (e9, .inl (cI, 16, .inl (qS w))), (e10, .inl (cZ, 16, .inl (qZ z))), (e11, .inl (cI, 20, .inl (qS (qg_f (qg_clear M x))))), (e12, .inl (cI, 4, .inl (qN pl)))]) (va_A [(h0, .inr (5, [.int (nI k0), .int (nI T), .ref e1, .ref e2, .ref e3, .int (nI dn), .ref e4, .ref e5, .ref e6, .ref e7, .ref e8, .int (nI me), .int (nI du), .int (nI fi), .int (nI ls0), .ref e9, .ref e10, .ref e11, .ref e12])), (e9, .inl (cI, 16, .inl (qS w))), (e10, .inl (cZ, 16, .inl (qZ z))), (e11, .inl (cI, 20, .inl (qS (qg_f M)))), (e12, .inl (cI, 4, .inl (qN pl)))] sz)) 0 0 (va_A [(h0, .inr (5, [.int (nI k0), .int (nI T), .ref e1, .ref e2, .ref e3, .int (nI dn), .ref e4, .ref e5, .ref e6, .ref e7, .ref e8, .int (nI me), .int (nI du), .int (nI fi), .int (nI ls0), .ref e9, .ref e10, .ref e11, .ref e12])), (e9, .inl (cI, 16, .inl (qS w))), (e10, .inl (cZ, 16, .inl (qZ z))), (e11, .inl (cI, 20, .inl (qS (qg_f M)))), (e12, .inl (cI, 4, .inl (qN pl)))] sz) := by
  refine Met.ofW (cc := cX6_clear) (maxL := 7) (ret := none) (by decide) rfl ?_
  intro p e s m args below meth c s₁ B hml hv
  obtain ⟨rfl, hsz, hP, hK, hD0⟩ := hv
  have hx := B.exec
  have hb := B.bytes
  have hr := B.returns
  have hts := atoms_spec (ws := wsX6_clear) B.pre
  have hown : s.vm.findClass RX6 = some m.cls := findClass_of_methodNamed B.named
  have hlocks := B.notSynchronized
  subst hsz
  have hD := hD0.self (sz := s.heap.size)
  generalize hAe : va_A [(h0, .inr (5, [.int (nI k0), .int (nI T), .ref e1, .ref e2, .ref e3, .int (nI dn), .ref e4, .ref e5, .ref e6, .ref e7, .ref e8, .int (nI me), .int (nI du), .int (nI fi), .int (nI ls0), .ref e9, .ref e10, .ref e11, .ref e12])), (e9, .inl (cI, 16, .inl (qS w))), (e10, .inl (cZ, 16, .inl (qZ z))), (e11, .inl (cI, 20, .inl (qS (qg_f M)))), (e12, .inl (cI, 4, .inl (qN pl)))] s.heap.size = A at hD ⊢
  have hA : ∀ q : Nat, s.heap.size ≤ q → A q := fun q h => by rw [← hAe]; exact Or.inr h
  have hS : va_S A s.heap s.heap [] := va_S.rf
  have hP : va_P (dC, dI) vwCl [(h0, .inr (5, [.int (nI k0), .int (nI T), .ref e1, .ref e2, .ref e3, .int (nI dn), .ref e4, .ref e5, .ref e6, .ref e7, .ref e8, .int (nI me), .int (nI du), .int (nI fi), .int (nI ls0), .ref e9, .ref e10, .ref e11, .ref e12])), (e9, .inl (cI, 16, .inl (qS w))), (e10, .inl (cZ, 16, .inl (qZ z))), (e11, .inl (cI, 20, .inl (qS (qg_f M)))), (e12, .inl (cI, 4, .inl (qN pl)))] s.heap := hP
  have hl := lv_entry ([.ref h0, .int (nI x)]) (n := 7) (Nat.le_of_ble_eq_true rfl)
  rw [lg_entry_eq]
  generalize (lg_sl ([.ref h0, .int (nI x)]) ++ List.replicate (7 - (lg_sl ([.ref h0, .int (nI x)])).length) Slot.unset).toArray = ls at hl ⊢
  have hl : lv_has ls 7 [(0, .ref h0), (1, .int (nI x))] := hl
  have k_41 := hts (.fieldLink RX6 41 "DiscCoderModel" "rows" "[I") (by decide +kernel)
  have i_X6 : ∀ w ∈ u_ws RX6 TX6 19, w ∈ wsX6_clear := by decide +kernel
  obtain ⟨hp1, hp2, -⟩ := qg_pr_in M x (3 - x) x
  refine qr_nm (fun Q hQ => ?_)
  refine lv_iload_n hx hb dX6_clear_0 rfl (lv_at hl 1 rfl) ?_
  refine lv_istore_n (lv' := [(2, .int (nI x)), (0, .ref h0), (1, .int (nI x))]) hx hb dX6_clear_1 rfl hl (by decide) rfl (fun ls hl => ?_)
  have out26 : ∀ (ls : Array Slot) (H : Heap) (locs : List Loc), lv_has ls 7 [(0, .ref h0), (1, .int (nI x)), (2, .int (nI (qg_pr M x (3 - x) x)))] → va_P (dC, dI) vwCl [(h0, .inr (5, [.int (nI k0), .int (nI T), .ref e1, .ref e2, .ref e3, .int (nI dn), .ref e4, .ref e5, .ref e6, .ref e7, .ref e8, .int (nI me), .int (nI du), .int (nI fi), .int (nI ls0), .ref e9, .ref e10, .ref e11, .ref e12])), (e9, .inl (cI, 16, .inl (qS w))), (e10, .inl (cZ, 16, .inl (qZ z))), (e11, .inl (cI, 20, .inl (qS (qg_f M)))), (e12, .inl (cI, 4, .inl (qN pl)))] H → va_D A [(h0, .inr (5, [.int (nI k0), .int (nI T), .ref e1, .ref e2, .ref e3, .int (nI dn), .ref e4, .ref e5, .ref e6, .ref e7, .ref e8, .int (nI me), .int (nI du), .int (nI fi), .int (nI ls0), .ref e9, .ref e10, .ref e11, .ref e12])), (e9, .inl (cI, 16, .inl (qS w))), (e10, .inl (cZ, 16, .inl (qZ z))), (e11, .inl (cI, 20, .inl (qS (qg_f M)))), (e12, .inl (cI, 4, .inl (qN pl)))] → va_S A s.heap H locs → W p l e (headSpec wsX6_clear ({ frames := 2, cells := 0, slots := 0, locals := 46 } : Room)).room s m ([.ref h0, .int (nI x)] : List Value).toArray below meth c H locs 0 0 Q (F0 m 26 ls []) := by
    intro ls H locs hl hP hD hS
    refine lv_aload_n hx hb dX6_clear_26 rfl (lv_at hl 0 rfl) ?_
    refine lv_iload_n hx hb dX6_clear_27 rfl (lv_at hl 2 rfl) ?_
    refine lv_iload_n hx hb dX6_clear_28 rfl (lv_at hl 1 rfl) ?_
    have hPc := hP.sub (ws' := [(h0, .inr (5, [.int (nI k0), .int (nI T), .ref e1, .ref e2, .ref e3, .int (nI dn), .ref e4, .ref e5, .ref e6, .ref e7, .ref e8, .int (nI me), .int (nI du), .int (nI fi), .int (nI ls0), .ref e9, .ref e10, .ref e11, .ref e12])), (e9, .inl (cI, 16, .inl (qS w))), (e10, .inl (cZ, 16, .inl (qZ z))), (e11, .inl (cI, 20, .inl (qS (qg_f M)))), (e12, .inl (cI, 4, .inl (qN pl)))]) [0, 1, 2, 3, 4] rfl
    have hDc := hD.sub (ws' := [(h0, .inr (5, [.int (nI k0), .int (nI T), .ref e1, .ref e2, .ref e3, .int (nI dn), .ref e4, .ref e5, .ref e6, .ref e7, .ref e8, .int (nI me), .int (nI du), .int (nI fi), .int (nI ls0), .ref e9, .ref e10, .ref e11, .ref e12])), (e9, .inl (cI, 16, .inl (qS w))), (e10, .inl (cZ, 16, .inl (qZ z))), (e11, .inl (cI, 20, .inl (qS (qg_f M)))), (e12, .inl (cI, 4, .inl (qN pl)))]) [0, 1, 2, 3, 4] (by decide) rfl
    have hKc := hK.sub (tys' := [(cI, .int), (cZ, .boolean)]) [0, 1] rfl
    have hFc := va_free (wc := [(h0, .inr (5, [.int (nI k0), .int (nI T), .ref e1, .ref e2, .ref e3, .int (nI dn), .ref e4, .ref e5, .ref e6, .ref e7, .ref e8, .int (nI me), .int (nI du), .int (nI fi), .int (nI ls0), .ref e9, .ref e10, .ref e11, .ref e12])), (e9, .inl (cI, 16, .inl (qS w))), (e10, .inl (cZ, 16, .inl (qZ z))), (e11, .inl (cI, 20, .inl (qS (qg_f M)))), (e12, .inl (cI, 4, .inl (qN pl)))]) hD hS hA [0, 1, 2, 3, 4] rfl
    refine va_callv (va_runV (As := [.int (nI (qg_pr M x (3 - x) x)), .int (nI x)]) (rest := []) ⟨hx, hb, hml, hown, hts⟩ (qc_swap l dC dI cI cZ h0 k0 T dn me du fi ls0 e1 e2 e3 e4 e5 e6 e7 e8 e9 e10 e11 e12 w z M pl (qg_pr M x (3 - x) x) x H.size (by omega) hx0) (cwV 2 hts gX6_clear_X6_swap rfl rfl rfl (by decide +kernel) ⟨Nat.le_of_ble_eq_true rfl, Nat.le_of_ble_eq_true rfl⟩) ⟨fun a U g mk q => by obtain ⟨q0, q1, qP, qK, qD⟩ := q; exact ⟨q0, q1, qP, va_K.moved (u := U) (U := U.calling g mk a) (Vm.Alike.refl U.vm) qK, qD⟩, (va_recv (q0 := 0) (ci := 5) hK hP rfl rfl), fun U hU hW => ⟨rfl, by rw [hU], by rw [hU]; exact hPc, va_K.moved hW.alike hKc, hDc.weaken (fun _ _ _ _ => trivial)⟩⟩ rfl rfl hl.1 rfl (lv_room (Nat.le_of_ble_eq_true rfl)) dX6_clear_29 ⟨Nat.le_of_ble_eq_true rfl, Nat.le_of_ble_eq_true rfl⟩) hS (fun q _ h => hFc q h) hFc (fun u t H1 locs ht hvm hr29 hB hz1 hk1 hS => ?_)
    obtain ⟨hP1, hK1, hD1⟩ := hB
    rw [ht] at hP1
    have hP1 : va_P (dC, dI) vwCl [(h0, .inr (5, [.int (nI k0), .int (nI T), .ref e1, .ref e2, .ref e3, .int (nI dn), .ref e4, .ref e5, .ref e6, .ref e7, .ref e8, .int (nI me), .int (nI du), .int (nI fi), .int (nI ls0), .ref e9, .ref e10, .ref e11, .ref e12])), (e9, .inl (cI, 16, .inl (qS w))), (e10, .inl (cZ, 16, .inl (qZ z))), (e11, .inl (cI, 20, .inl (qS (qg_f (qg_sw M (qg_pr M x (3 - x) x) x 5))))), (e12, .inl (cI, 4, .inl (qN pl)))] H1 := hP1
    have hD1 : va_D _ [(h0, .inr (5, [.int (nI k0), .int (nI T), .ref e1, .ref e2, .ref e3, .int (nI dn), .ref e4, .ref e5, .ref e6, .ref e7, .ref e8, .int (nI me), .int (nI du), .int (nI fi), .int (nI ls0), .ref e9, .ref e10, .ref e11, .ref e12])), (e9, .inl (cI, 16, .inl (qS w))), (e10, .inl (cZ, 16, .inl (qZ z))), (e11, .inl (cI, 20, .inl (qS (qg_f (qg_sw M (qg_pr M x (3 - x) x) x 5))))), (e12, .inl (cI, 4, .inl (qN pl)))] := hD1
    obtain ⟨hP, hD⟩ := va_join (wr := []) (w1 := [(h0, .inr (5, [.int (nI k0), .int (nI T), .ref e1, .ref e2, .ref e3, .int (nI dn), .ref e4, .ref e5, .ref e6, .ref e7, .ref e8, .int (nI me), .int (nI du), .int (nI fi), .int (nI ls0), .ref e9, .ref e10, .ref e11, .ref e12])), (e9, .inl (cI, 16, .inl (qS w))), (e10, .inl (cZ, 16, .inl (qZ z))), (e11, .inl (cI, 20, .inl (qS (qg_f (qg_sw M (qg_pr M x (3 - x) x) x 5))))), (e12, .inl (cI, 4, .inl (qN pl)))]) hP hD [0, 1, 2, 3, 4] [] rfl rfl (by decide) (by decide) hk1 hFc hP1 hD1
    have hP := hP.sub (ws' := [(h0, .inr (5, [.int (nI k0), .int (nI T), .ref e1, .ref e2, .ref e3, .int (nI dn), .ref e4, .ref e5, .ref e6, .ref e7, .ref e8, .int (nI me), .int (nI du), .int (nI fi), .int (nI ls0), .ref e9, .ref e10, .ref e11, .ref e12])), (e9, .inl (cI, 16, .inl (qS w))), (e10, .inl (cZ, 16, .inl (qZ z))), (e11, .inl (cI, 20, .inl (qS (qg_f (qg_sw M (qg_pr M x (3 - x) x) x 5))))), (e12, .inl (cI, 4, .inl (qN pl)))]) [0, 1, 2, 3, 4] rfl
    have hD := hD.sub (ws' := [(h0, .inr (5, [.int (nI k0), .int (nI T), .ref e1, .ref e2, .ref e3, .int (nI dn), .ref e4, .ref e5, .ref e6, .ref e7, .ref e8, .int (nI me), .int (nI du), .int (nI fi), .int (nI ls0), .ref e9, .ref e10, .ref e11, .ref e12])), (e9, .inl (cI, 16, .inl (qS w))), (e10, .inl (cZ, 16, .inl (qZ z))), (e11, .inl (cI, 20, .inl (qS (qg_f (qg_sw M (qg_pr M x (3 - x) x) x 5))))), (e12, .inl (cI, 4, .inl (qN pl)))]) [0, 1, 2, 3, 4] (by decide) rfl
    generalize H1 = H at hP hS ⊢
    have hP : va_P (dC, dI) vwCl [(h0, .inr (5, [.int (nI k0), .int (nI T), .ref e1, .ref e2, .ref e3, .int (nI dn), .ref e4, .ref e5, .ref e6, .ref e7, .ref e8, .int (nI me), .int (nI du), .int (nI fi), .int (nI ls0), .ref e9, .ref e10, .ref e11, .ref e12])), (e9, .inl (cI, 16, .inl (qS w))), (e10, .inl (cZ, 16, .inl (qZ z))), (e11, .inl (cI, 20, .inl (qS (qg_f (qg_sw M (qg_pr M x (3 - x) x) x 5))))), (e12, .inl (cI, 4, .inl (qN pl)))] H := hP
    have hD : va_D A [(h0, .inr (5, [.int (nI k0), .int (nI T), .ref e1, .ref e2, .ref e3, .int (nI dn), .ref e4, .ref e5, .ref e6, .ref e7, .ref e8, .int (nI me), .int (nI du), .int (nI fi), .int (nI ls0), .ref e9, .ref e10, .ref e11, .ref e12])), (e9, .inl (cI, 16, .inl (qS w))), (e10, .inl (cZ, 16, .inl (qZ z))), (e11, .inl (cI, 20, .inl (qS (qg_f (qg_sw M (qg_pr M x (3 - x) x) x 5))))), (e12, .inl (cI, 4, .inl (qN pl)))] := hD
    refine lv_aload_n hx hb dX6_clear_32 rfl (lv_at hl 0 rfl) ?_
    refine va_get (D := (dC, dI)) (ci := 5) (v := .ref e11) (C := RX6) (T := TX6) (N := 19) hx hb hts i_X6 hown hK hP 0 rfl rfl 17 (by decide) k_41 (fun _ h9 => h9) rfl dX6_clear_33 ?_
    refine lv_iconst (v := nI 5) hx hb dX6_clear_36 (by decide) ?_
    refine lv_iload_n hx hb dX6_clear_37 rfl (lv_at hl 1 rfl) ?_
    refine qr_imul (z := nI (5 * x)) hx hb dX6_clear_38 (pk_mul _ _) ?_
    refine lv_iload_n hx hb dX6_clear_39 rfl (lv_at hl 1 rfl) ?_
    refine qr_iadd (z := nI ((5 * x) + x)) hx hb dX6_clear_40 (nI_add _ _) ?_
    refine qr_ildG hx hb hK hP 3 0 rfl rfl (by omega) (by omega) dX6_clear_41 ?_
    refine vp_callSi (va_Run.run (va_runS (As := [.int (sI ((qg_sw M (qg_pr M x (3 - x) x) x 5) x x))]) (rest := []) ⟨hx, hb, hml, hown, hts⟩ (qc_minverse l ((qg_sw M (qg_pr M x (3 - x) x) x 5) x x) ) (va_cwS 1 hts gX6_clear_X6_inverse rfl rfl rfl (by decide +kernel) ⟨Nat.le_of_ble_eq_true rfl, Nat.le_of_ble_eq_true rfl⟩) ⟨fun a U g mk q => q, fun U hU hW => ⟨rfl, trivial⟩⟩ rfl rfl hl.1 rfl (lv_room (Nat.le_of_ble_eq_true rfl)) dX6_clear_42 ⟨Nat.le_of_ble_eq_true rfl, Nat.le_of_ble_eq_true rfl⟩)) (fun r42 hr42 => ?_)
    have hr42 : r42 = sI (qf_i ((qg_sw M (qg_pr M x (3 - x) x) x 5) x x)) := hr42
    subst hr42
    refine lv_istore_n (lv' := [(3, .int (sI (qf_i ((qg_sw M (qg_pr M x (3 - x) x) x 5) x x)))), (0, .ref h0), (1, .int (nI x)), (2, .int (nI (qg_pr M x (3 - x) x)))]) hx hb dX6_clear_45 rfl hl (by decide) rfl (fun ls hl => ?_)
    refine lv_iconst (v := nI 0) hx hb dX6_clear_46 (by decide) ?_
    refine lv_istore (lv' := [(4, .int (nI 0)), (3, .int (sI (qf_i ((qg_sw M (qg_pr M x (3 - x) x) x 5) x x)))), (0, .ref h0), (1, .int (nI x)), (2, .int (nI (qg_pr M x (3 - x) x)))]) hx hb dX6_clear_47 hl (by decide) rfl (fun ls hl => ?_)
    have lp49 : ∀ (j i : Nat), i + j = 5 → ∀  (ls : Array Slot) (H : Heap) (locs : List Loc), lv_has ls 7 [(0, .ref h0), (1, .int (nI x)), (2, .int (nI (qg_pr M x (3 - x) x))), (3, .int (sI (qf_i ((qg_sw M (qg_pr M x (3 - x) x) x 5) x x)))), (4, .int (nI i))] → va_P (dC, dI) vwCl [(h0, .inr (5, [.int (nI k0), .int (nI T), .ref e1, .ref e2, .ref e3, .int (nI dn), .ref e4, .ref e5, .ref e6, .ref e7, .ref e8, .int (nI me), .int (nI du), .int (nI fi), .int (nI ls0), .ref e9, .ref e10, .ref e11, .ref e12])), (e9, .inl (cI, 16, .inl (qS w))), (e10, .inl (cZ, 16, .inl (qZ z))), (e11, .inl (cI, 20, .inl (qS (qg_f (qg_sc (qg_sw M (qg_pr M x (3 - x) x) x 5) x (qf_i ((qg_sw M (qg_pr M x (3 - x) x) x 5) x x)) i))))), (e12, .inl (cI, 4, .inl (qN pl)))] H → va_D A [(h0, .inr (5, [.int (nI k0), .int (nI T), .ref e1, .ref e2, .ref e3, .int (nI dn), .ref e4, .ref e5, .ref e6, .ref e7, .ref e8, .int (nI me), .int (nI du), .int (nI fi), .int (nI ls0), .ref e9, .ref e10, .ref e11, .ref e12])), (e9, .inl (cI, 16, .inl (qS w))), (e10, .inl (cZ, 16, .inl (qZ z))), (e11, .inl (cI, 20, .inl (qS (qg_f (qg_sc (qg_sw M (qg_pr M x (3 - x) x) x 5) x (qf_i ((qg_sw M (qg_pr M x (3 - x) x) x 5) x x)) i))))), (e12, .inl (cI, 4, .inl (qN pl)))] → va_S A s.heap H locs → W p l e (headSpec wsX6_clear ({ frames := 2, cells := 0, slots := 0, locals := 46 } : Room)).room s m ([.ref h0, .int (nI x)] : List Value).toArray below meth c H locs 0 0 Q (F0 m 49 ls []) := by
      intro j
      induction j with
      | zero =>
        intro i hi  ls H locs hl hP hD hS
        have e9 : 5 = i := by omega
        subst e9
        refine lv_iload hx hb dX6_clear_49 (lv_at hl 4 rfl) ?_
        refine lv_iconst (v := nI 5) hx hb dX6_clear_51 (by decide) ?_
        refine qr_ge (tgt := 87) hx hb dX6_clear_52 rfl (by omega) (by omega) (fun b52 => ?_) (fun h => absurd h (by omega))
        refine lv_iconst (v := nI 0) hx hb dX6_clear_87 (by decide) ?_
        refine lv_istore (lv' := [(4, .int (nI 0)), (0, .ref h0), (1, .int (nI x)), (2, .int (nI (qg_pr M x (3 - x) x))), (3, .int (sI (qf_i ((qg_sw M (qg_pr M x (3 - x) x) x 5) x x))))]) hx hb dX6_clear_88 hl (by decide) rfl (fun ls hl => ?_)
        have lp90 : ∀ (j q : Nat), q + j = 4 → ∀  (ls : Array Slot) (H : Heap) (locs : List Loc), lv_has ls 7 [(0, .ref h0), (1, .int (nI x)), (2, .int (nI (qg_pr M x (3 - x) x))), (3, .int (sI (qf_i ((qg_sw M (qg_pr M x (3 - x) x) x 5) x x)))), (4, .int (nI q))] → va_P (dC, dI) vwCl [(h0, .inr (5, [.int (nI k0), .int (nI T), .ref e1, .ref e2, .ref e3, .int (nI dn), .ref e4, .ref e5, .ref e6, .ref e7, .ref e8, .int (nI me), .int (nI du), .int (nI fi), .int (nI ls0), .ref e9, .ref e10, .ref e11, .ref e12])), (e9, .inl (cI, 16, .inl (qS w))), (e10, .inl (cZ, 16, .inl (qZ z))), (e11, .inl (cI, 20, .inl (qS (qg_f (qg_cl (qg_sc (qg_sw M (qg_pr M x (3 - x) x) x 5) x (qf_i ((qg_sw M (qg_pr M x (3 - x) x) x 5) x x)) 5) x q))))), (e12, .inl (cI, 4, .inl (qN pl)))] H → va_D A [(h0, .inr (5, [.int (nI k0), .int (nI T), .ref e1, .ref e2, .ref e3, .int (nI dn), .ref e4, .ref e5, .ref e6, .ref e7, .ref e8, .int (nI me), .int (nI du), .int (nI fi), .int (nI ls0), .ref e9, .ref e10, .ref e11, .ref e12])), (e9, .inl (cI, 16, .inl (qS w))), (e10, .inl (cZ, 16, .inl (qZ z))), (e11, .inl (cI, 20, .inl (qS (qg_f (qg_cl (qg_sc (qg_sw M (qg_pr M x (3 - x) x) x 5) x (qf_i ((qg_sw M (qg_pr M x (3 - x) x) x 5) x x)) 5) x q))))), (e12, .inl (cI, 4, .inl (qN pl)))] → va_S A s.heap H locs → W p l e (headSpec wsX6_clear ({ frames := 2, cells := 0, slots := 0, locals := 46 } : Room)).room s m ([.ref h0, .int (nI x)] : List Value).toArray below meth c H locs 0 0 Q (F0 m 90 ls []) := by
          intro j
          induction j with
          | zero =>
            intro q hq  ls H locs hl hP hD hS
            have e9 : 4 = q := by omega
            subst e9
            refine lv_iload hx hb dX6_clear_90 (lv_at hl 4 rfl) ?_
            refine lv_iconst (v := nI 4) hx hb dX6_clear_92 (by decide) ?_
            refine qr_ge (tgt := 167) hx hb dX6_clear_93 rfl (by omega) (by omega) (fun b93 => ?_) (fun h => absurd h (by omega))
            subst hQ
            exact W.vret hx hb hr (fun t ht hW => ⟨⟨(), rfl, trivial, by rw [ht]; exact hP, va_K.moved hW.alike hK, hD⟩, hS.F ht⟩) hS.2.2 dX6_clear_167
          | succ j ih =>
            intro q hq  ls H locs hl hP hD hS
            have lq : q < 4 := by omega
            refine lv_iload hx hb dX6_clear_90 (lv_at hl 4 rfl) ?_
            refine lv_iconst (v := nI 4) hx hb dX6_clear_92 (by decide) ?_
            refine qr_ge (tgt := 167) hx hb dX6_clear_93 rfl (by omega) (by omega) (fun h => absurd h (by omega)) (fun b93 => ?_)
            refine lv_aload_n hx hb dX6_clear_96 rfl (lv_at hl 0 rfl) ?_
            refine va_get (D := (dC, dI)) (ci := 5) (v := .ref e11) (C := RX6) (T := TX6) (N := 19) hx hb hts i_X6 hown hK hP 0 rfl rfl 17 (by decide) k_41 (fun _ h9 => h9) rfl dX6_clear_97 ?_
            refine lv_iconst (v := nI 5) hx hb dX6_clear_100 (by decide) ?_
            refine lv_iload hx hb dX6_clear_101 (lv_at hl 4 rfl) ?_
            refine qr_imul (z := nI (5 * q)) hx hb dX6_clear_103 (pk_mul _ _) ?_
            refine lv_iload_n hx hb dX6_clear_104 rfl (lv_at hl 1 rfl) ?_
            refine qr_iadd (z := nI ((5 * q) + x)) hx hb dX6_clear_105 (nI_add _ _) ?_
            refine qr_ildG hx hb hK hP 3 0 rfl rfl (by omega) (by omega) dX6_clear_106 ?_
            refine lv_istore (lv' := [(5, .int (sI ((qg_cl (qg_sc (qg_sw M (qg_pr M x (3 - x) x) x 5) x (qf_i ((qg_sw M (qg_pr M x (3 - x) x) x 5) x x)) 5) x q) q x))), (0, .ref h0), (1, .int (nI x)), (2, .int (nI (qg_pr M x (3 - x) x))), (3, .int (sI (qf_i ((qg_sw M (qg_pr M x (3 - x) x) x 5) x x)))), (4, .int (nI q))]) hx hb dX6_clear_107 hl (by decide) rfl (fun ls hl => ?_)
            refine lv_iconst (v := nI 0) hx hb dX6_clear_109 (by decide) ?_
            refine lv_istore (lv' := [(6, .int (nI 0)), (5, .int (sI ((qg_cl (qg_sc (qg_sw M (qg_pr M x (3 - x) x) x 5) x (qf_i ((qg_sw M (qg_pr M x (3 - x) x) x 5) x x)) 5) x q) q x))), (0, .ref h0), (1, .int (nI x)), (2, .int (nI (qg_pr M x (3 - x) x))), (3, .int (sI (qf_i ((qg_sw M (qg_pr M x (3 - x) x) x 5) x x)))), (4, .int (nI q))]) hx hb dX6_clear_110 hl (by decide) rfl (fun ls hl => ?_)
            by_cases hqc : q = x
            · refine lv_iload hx hb dX6_clear_112 (lv_at hl 0 rfl) ?_
              refine lv_iconst (v := nI 5) hx hb dX6_clear_114 (by decide) ?_
              refine qr_ge (tgt := 161) hx hb dX6_clear_115 rfl (by omega) (by omega) (fun h => absurd h (by omega)) (fun b115 => ?_)
              refine lv_iload hx hb dX6_clear_118 (lv_at hl 6 rfl) ?_
              refine lv_iload_n hx hb dX6_clear_120 rfl (lv_at hl 3 rfl) ?_
              refine qr_eqN (tgt := 161) hx hb dX6_clear_121 rfl (by omega) (by omega) (fun b121 => ?_) (fun h => absurd h (by omega))
              refine lv_iinc (k := 6) (v := nI (q + 1)) (lv' := [(4, .int (nI (q + 1))), (6, .int (nI 0)), (5, .int (sI ((qg_cl (qg_sc (qg_sw M (qg_pr M x (3 - x) x) x 5) x (qf_i ((qg_sw M (qg_pr M x (3 - x) x) x 5) x x)) 5) x q) q x))), (0, .ref h0), (1, .int (nI x)), (2, .int (nI (qg_pr M x (3 - x) x))), (3, .int (sI (qf_i ((qg_sw M (qg_pr M x (3 - x) x) x 5) x x))))]) hx hb dX6_clear_161 hl rfl (qr_inc _) (by decide) rfl (fun ls hl => ?_)
              refine lv_goto (tgt := 90) hx hb dX6_clear_164 rfl ?_
              have hl := lv_sub (l' := [(0, .ref h0), (1, .int (nI x)), (2, .int (nI (qg_pr M x (3 - x) x))), (3, .int (sI (qf_i ((qg_sw M (qg_pr M x (3 - x) x) x 5) x x)))), (4, .int (nI (q + 1)))]) hl [3, 4, 5, 6, 0] rfl
              have e1 : qg_cl (qg_sc (qg_sw M (qg_pr M x (3 - x) x) x 5) x (qf_i ((qg_sw M (qg_pr M x (3 - x) x) x 5) x x)) 5) x (q + 1) = qg_cl (qg_sc (qg_sw M (qg_pr M x (3 - x) x) x 5) x (qf_i ((qg_sw M (qg_pr M x (3 - x) x) x 5) x x)) 5) x q := by rw [qg_cl, if_pos hqc]
              exact ih (q + 1) (by omega)  ls H _ (by exact hl) (by rw [e1]; exact hP) (by rw [e1]; exact hD) hS 
            · have lp112 : ∀ (j2 i : Nat), i + j2 = 5 → ∀  (ls : Array Slot) (H : Heap) (locs : List Loc), lv_has ls 7 [(0, .ref h0), (1, .int (nI x)), (2, .int (nI (qg_pr M x (3 - x) x))), (3, .int (sI (qf_i ((qg_sw M (qg_pr M x (3 - x) x) x 5) x x)))), (4, .int (nI q)), (5, .int (sI ((qg_cl (qg_sc (qg_sw M (qg_pr M x (3 - x) x) x 5) x (qf_i ((qg_sw M (qg_pr M x (3 - x) x) x 5) x x)) 5) x q) q x))), (6, .int (nI i))] → va_P (dC, dI) vwCl [(h0, .inr (5, [.int (nI k0), .int (nI T), .ref e1, .ref e2, .ref e3, .int (nI dn), .ref e4, .ref e5, .ref e6, .ref e7, .ref e8, .int (nI me), .int (nI du), .int (nI fi), .int (nI ls0), .ref e9, .ref e10, .ref e11, .ref e12])), (e9, .inl (cI, 16, .inl (qS w))), (e10, .inl (cZ, 16, .inl (qZ z))), (e11, .inl (cI, 20, .inl (qS (qg_f (qg_el (qg_cl (qg_sc (qg_sw M (qg_pr M x (3 - x) x) x 5) x (qf_i ((qg_sw M (qg_pr M x (3 - x) x) x 5) x x)) 5) x q) x q (qg_cl (qg_sc (qg_sw M (qg_pr M x (3 - x) x) x 5) x (qf_i ((qg_sw M (qg_pr M x (3 - x) x) x 5) x x)) 5) x q q x) i))))), (e12, .inl (cI, 4, .inl (qN pl)))] H → va_D A [(h0, .inr (5, [.int (nI k0), .int (nI T), .ref e1, .ref e2, .ref e3, .int (nI dn), .ref e4, .ref e5, .ref e6, .ref e7, .ref e8, .int (nI me), .int (nI du), .int (nI fi), .int (nI ls0), .ref e9, .ref e10, .ref e11, .ref e12])), (e9, .inl (cI, 16, .inl (qS w))), (e10, .inl (cZ, 16, .inl (qZ z))), (e11, .inl (cI, 20, .inl (qS (qg_f (qg_el (qg_cl (qg_sc (qg_sw M (qg_pr M x (3 - x) x) x 5) x (qf_i ((qg_sw M (qg_pr M x (3 - x) x) x 5) x x)) 5) x q) x q (qg_cl (qg_sc (qg_sw M (qg_pr M x (3 - x) x) x 5) x (qf_i ((qg_sw M (qg_pr M x (3 - x) x) x 5) x x)) 5) x q q x) i))))), (e12, .inl (cI, 4, .inl (qN pl)))] → va_S A s.heap H locs → W p l e (headSpec wsX6_clear ({ frames := 2, cells := 0, slots := 0, locals := 46 } : Room)).room s m ([.ref h0, .int (nI x)] : List Value).toArray below meth c H locs 0 0 Q (F0 m 112 ls []) := by
                intro j2
                induction j2 with
                | zero =>
                  intro i hi  ls H locs hl hP hD hS
                  have e9 : 5 = i := by omega
                  subst e9
                  refine lv_iload hx hb dX6_clear_112 (lv_at hl 6 rfl) ?_
                  refine lv_iconst (v := nI 5) hx hb dX6_clear_114 (by decide) ?_
                  refine qr_ge (tgt := 161) hx hb dX6_clear_115 rfl (by omega) (by omega) (fun b115 => ?_) (fun h => absurd h (by omega))
                  refine lv_iinc (k := 4) (v := nI (q + 1)) (lv' := [(4, .int (nI (q + 1))), (0, .ref h0), (1, .int (nI x)), (2, .int (nI (qg_pr M x (3 - x) x))), (3, .int (sI (qf_i ((qg_sw M (qg_pr M x (3 - x) x) x 5) x x)))), (5, .int (sI ((qg_cl (qg_sc (qg_sw M (qg_pr M x (3 - x) x) x 5) x (qf_i ((qg_sw M (qg_pr M x (3 - x) x) x 5) x x)) 5) x q) q x))), (6, .int (nI 5))]) hx hb dX6_clear_161 hl rfl (qr_inc _) (by decide) rfl (fun ls hl => ?_)
                  refine lv_goto (tgt := 90) hx hb dX6_clear_164 rfl ?_
                  have hl := lv_sub (l' := [(0, .ref h0), (1, .int (nI x)), (2, .int (nI (qg_pr M x (3 - x) x))), (3, .int (sI (qf_i ((qg_sw M (qg_pr M x (3 - x) x) x 5) x x)))), (4, .int (nI (q + 1)))]) hl [1, 2, 3, 4, 0] rfl
                  have e2 : qg_cl (qg_sc (qg_sw M (qg_pr M x (3 - x) x) x 5) x (qf_i ((qg_sw M (qg_pr M x (3 - x) x) x 5) x x)) 5) x (q + 1) = qg_el (qg_cl (qg_sc (qg_sw M (qg_pr M x (3 - x) x) x 5) x (qf_i ((qg_sw M (qg_pr M x (3 - x) x) x 5) x x)) 5) x q) x q (qg_cl (qg_sc (qg_sw M (qg_pr M x (3 - x) x) x 5) x (qf_i ((qg_sw M (qg_pr M x (3 - x) x) x 5) x x)) 5) x q q x) 5 := by rw [qg_cl, if_neg hqc]
                  exact ih (q + 1) (by omega)  ls H _ (by exact hl) (by rw [e2]; exact hP) (by rw [e2]; exact hD) hS 
                | succ j2 ih =>
                  intro i hi  ls H locs hl hP hD hS
                  have li : i < 5 := by omega
                  refine lv_iload hx hb dX6_clear_112 (lv_at hl 6 rfl) ?_
                  refine lv_iconst (v := nI 5) hx hb dX6_clear_114 (by decide) ?_
                  refine qr_ge (tgt := 161) hx hb dX6_clear_115 rfl (by omega) (by omega) (fun h => absurd h (by omega)) (fun b115 => ?_)
                  refine lv_iload hx hb dX6_clear_118 (lv_at hl 4 rfl) ?_
                  refine lv_iload_n hx hb dX6_clear_120 rfl (lv_at hl 1 rfl) ?_
                  refine qr_eqN (tgt := 161) hx hb dX6_clear_121 rfl (by omega) (by omega) (fun h => absurd h (by omega)) (fun b121 => ?_)
                  refine lv_aload_n hx hb dX6_clear_124 rfl (lv_at hl 0 rfl) ?_
                  refine va_get (D := (dC, dI)) (ci := 5) (v := .ref e11) (C := RX6) (T := TX6) (N := 19) hx hb hts i_X6 hown hK hP 0 rfl rfl 17 (by decide) k_41 (fun _ h9 => h9) rfl dX6_clear_125 ?_
                  refine lv_iconst (v := nI 5) hx hb dX6_clear_128 (by decide) ?_
                  refine lv_iload hx hb dX6_clear_129 (lv_at hl 4 rfl) ?_
                  refine qr_imul (z := nI (5 * q)) hx hb dX6_clear_131 (pk_mul _ _) ?_
                  refine lv_iload hx hb dX6_clear_132 (lv_at hl 6 rfl) ?_
                  refine qr_iadd (z := nI ((5 * q) + i)) hx hb dX6_clear_134 (nI_add _ _) ?_
                  refine lv_dup2_11 hx hb dX6_clear_135 rfl rfl ?_
                  refine qr_ildG hx hb hK hP 3 0 rfl rfl (by omega) (by omega) dX6_clear_136 ?_
                  refine lv_iload hx hb dX6_clear_137 (lv_at hl 5 rfl) ?_
                  refine lv_aload_n hx hb dX6_clear_139 rfl (lv_at hl 0 rfl) ?_
                  refine va_get (D := (dC, dI)) (ci := 5) (v := .ref e11) (C := RX6) (T := TX6) (N := 19) hx hb hts i_X6 hown hK hP 0 rfl rfl 17 (by decide) k_41 (fun _ h9 => h9) rfl dX6_clear_140 ?_
                  refine lv_iconst (v := nI 5) hx hb dX6_clear_143 (by decide) ?_
                  refine lv_iload_n hx hb dX6_clear_144 rfl (lv_at hl 1 rfl) ?_
                  refine qr_imul (z := nI (5 * x)) hx hb dX6_clear_145 (pk_mul _ _) ?_
                  refine lv_iload hx hb dX6_clear_146 (lv_at hl 6 rfl) ?_
                  refine qr_iadd (z := nI ((5 * x) + i)) hx hb dX6_clear_148 (nI_add _ _) ?_
                  refine qr_ildG hx hb hK hP 3 0 rfl rfl (by omega) (by omega) dX6_clear_149 ?_
                  refine vp_callSi (va_Run.run (va_runS (As := [.int (sI ((qg_cl (qg_sc (qg_sw M (qg_pr M x (3 - x) x) x 5) x (qf_i ((qg_sw M (qg_pr M x (3 - x) x) x 5) x x)) 5) x q) q x)), .int (sI ((qg_el (qg_cl (qg_sc (qg_sw M (qg_pr M x (3 - x) x) x 5) x (qf_i ((qg_sw M (qg_pr M x (3 - x) x) x 5) x x)) 5) x q) x q (qg_cl (qg_sc (qg_sw M (qg_pr M x (3 - x) x) x 5) x (qf_i ((qg_sw M (qg_pr M x (3 - x) x) x 5) x x)) 5) x q q x) i) x i))]) (rest := [.int (sI ((qg_el (qg_cl (qg_sc (qg_sw M (qg_pr M x (3 - x) x) x 5) x (qf_i ((qg_sw M (qg_pr M x (3 - x) x) x 5) x x)) 5) x q) x q (qg_cl (qg_sc (qg_sw M (qg_pr M x (3 - x) x) x 5) x (qf_i ((qg_sw M (qg_pr M x (3 - x) x) x 5) x x)) 5) x q q x) i) q i)), .int (nI ((5 * q) + i)), .ref e11]) ⟨hx, hb, hml, hown, hts⟩ (qc_mtimes l ((qg_cl (qg_sc (qg_sw M (qg_pr M x (3 - x) x) x 5) x (qf_i ((qg_sw M (qg_pr M x (3 - x) x) x 5) x x)) 5) x q) q x) ((qg_el (qg_cl (qg_sc (qg_sw M (qg_pr M x (3 - x) x) x 5) x (qf_i ((qg_sw M (qg_pr M x (3 - x) x) x 5) x x)) 5) x q) x q (qg_cl (qg_sc (qg_sw M (qg_pr M x (3 - x) x) x 5) x (qf_i ((qg_sw M (qg_pr M x (3 - x) x) x 5) x x)) 5) x q q x) i) x i) ) (va_cwS 2 hts gX6_clear_X6_times rfl rfl rfl (by decide +kernel) ⟨Nat.le_of_ble_eq_true rfl, Nat.le_of_ble_eq_true rfl⟩) ⟨fun a U g mk q => q, fun U hU hW => ⟨rfl, trivial⟩⟩ rfl rfl hl.1 rfl (lv_room (Nat.le_of_ble_eq_true rfl)) dX6_clear_150 ⟨Nat.le_of_ble_eq_true rfl, Nat.le_of_ble_eq_true rfl⟩)) (fun r150 hr150 => ?_)
                  have hr150 : r150 = sI (qf_m ((qg_cl (qg_sc (qg_sw M (qg_pr M x (3 - x) x) x 5) x (qf_i ((qg_sw M (qg_pr M x (3 - x) x) x 5) x x)) 5) x q) q x) ((qg_el (qg_cl (qg_sc (qg_sw M (qg_pr M x (3 - x) x) x 5) x (qf_i ((qg_sw M (qg_pr M x (3 - x) x) x 5) x x)) 5) x q) x q (qg_cl (qg_sc (qg_sw M (qg_pr M x (3 - x) x) x 5) x (qf_i ((qg_sw M (qg_pr M x (3 - x) x) x 5) x x)) 5) x q q x) i) x i)) := hr150
                  subst hr150
                  refine qr_ixor (z := sI (((qg_el (qg_cl (qg_sc (qg_sw M (qg_pr M x (3 - x) x) x 5) x (qf_i ((qg_sw M (qg_pr M x (3 - x) x) x 5) x x)) 5) x q) x q (qg_cl (qg_sc (qg_sw M (qg_pr M x (3 - x) x) x 5) x (qf_i ((qg_sw M (qg_pr M x (3 - x) x) x 5) x x)) 5) x q q x) i) q i) ^^^ (qf_m ((qg_cl (qg_sc (qg_sw M (qg_pr M x (3 - x) x) x 5) x (qf_i ((qg_sw M (qg_pr M x (3 - x) x) x 5) x x)) 5) x q) q x) ((qg_el (qg_cl (qg_sc (qg_sw M (qg_pr M x (3 - x) x) x 5) x (qf_i ((qg_sw M (qg_pr M x (3 - x) x) x 5) x x)) 5) x q) x q (qg_cl (qg_sc (qg_sw M (qg_pr M x (3 - x) x) x 5) x (qf_i ((qg_sw M (qg_pr M x (3 - x) x) x 5) x x)) 5) x q q x) i) x i)))) hx hb dX6_clear_153 (sI_xor _ _) ?_
                  refine qr_istG (x := ((qg_el (qg_cl (qg_sc (qg_sw M (qg_pr M x (3 - x) x) x 5) x (qf_i ((qg_sw M (qg_pr M x (3 - x) x) x 5) x x)) 5) x q) x q (qg_cl (qg_sc (qg_sw M (qg_pr M x (3 - x) x) x 5) x (qf_i ((qg_sw M (qg_pr M x (3 - x) x) x 5) x x)) 5) x q q x) i) q i) ^^^ (qf_m ((qg_cl (qg_sc (qg_sw M (qg_pr M x (3 - x) x) x 5) x (qf_i ((qg_sw M (qg_pr M x (3 - x) x) x 5) x x)) 5) x q) q x) ((qg_el (qg_cl (qg_sc (qg_sw M (qg_pr M x (3 - x) x) x 5) x (qf_i ((qg_sw M (qg_pr M x (3 - x) x) x 5) x x)) 5) x q) x q (qg_cl (qg_sc (qg_sw M (qg_pr M x (3 - x) x) x 5) x (qf_i ((qg_sw M (qg_pr M x (3 - x) x) x 5) x x)) 5) x q q x) i) x i))) hx hb hK hP hD hS 3 0 rfl rfl (by omega) (by omega) dX6_clear_154 (fun H locs hP hD hS => ?_)
                  have hP : va_P (dC, dI) vwCl [(h0, .inr (5, [.int (nI k0), .int (nI T), .ref e1, .ref e2, .ref e3, .int (nI dn), .ref e4, .ref e5, .ref e6, .ref e7, .ref e8, .int (nI me), .int (nI du), .int (nI fi), .int (nI ls0), .ref e9, .ref e10, .ref e11, .ref e12])), (e9, .inl (cI, 16, .inl (qS w))), (e10, .inl (cZ, 16, .inl (qZ z))), (e11, .inl (cI, 20, .inl (qS (qg_f (qg_up (qg_el (qg_cl (qg_sc (qg_sw M (qg_pr M x (3 - x) x) x 5) x (qf_i ((qg_sw M (qg_pr M x (3 - x) x) x 5) x x)) 5) x q) x q (qg_cl (qg_sc (qg_sw M (qg_pr M x (3 - x) x) x 5) x (qf_i ((qg_sw M (qg_pr M x (3 - x) x) x 5) x x)) 5) x q q x) i) q i (((qg_el (qg_cl (qg_sc (qg_sw M (qg_pr M x (3 - x) x) x 5) x (qf_i ((qg_sw M (qg_pr M x (3 - x) x) x 5) x x)) 5) x q) x q (qg_cl (qg_sc (qg_sw M (qg_pr M x (3 - x) x) x 5) x (qf_i ((qg_sw M (qg_pr M x (3 - x) x) x 5) x x)) 5) x q q x) i) q i) ^^^ (qf_m ((qg_cl (qg_sc (qg_sw M (qg_pr M x (3 - x) x) x 5) x (qf_i ((qg_sw M (qg_pr M x (3 - x) x) x 5) x x)) 5) x q) q x) ((qg_el (qg_cl (qg_sc (qg_sw M (qg_pr M x (3 - x) x) x 5) x (qf_i ((qg_sw M (qg_pr M x (3 - x) x) x 5) x x)) 5) x q) x q (qg_cl (qg_sc (qg_sw M (qg_pr M x (3 - x) x) x 5) x (qf_i ((qg_sw M (qg_pr M x (3 - x) x) x 5) x x)) 5) x q q x) i) x i)))))))), (e12, .inl (cI, 4, .inl (qN pl)))] H := hP
                  have hD : va_D A [(h0, .inr (5, [.int (nI k0), .int (nI T), .ref e1, .ref e2, .ref e3, .int (nI dn), .ref e4, .ref e5, .ref e6, .ref e7, .ref e8, .int (nI me), .int (nI du), .int (nI fi), .int (nI ls0), .ref e9, .ref e10, .ref e11, .ref e12])), (e9, .inl (cI, 16, .inl (qS w))), (e10, .inl (cZ, 16, .inl (qZ z))), (e11, .inl (cI, 20, .inl (qS (qg_f (qg_up (qg_el (qg_cl (qg_sc (qg_sw M (qg_pr M x (3 - x) x) x 5) x (qf_i ((qg_sw M (qg_pr M x (3 - x) x) x 5) x x)) 5) x q) x q (qg_cl (qg_sc (qg_sw M (qg_pr M x (3 - x) x) x 5) x (qf_i ((qg_sw M (qg_pr M x (3 - x) x) x 5) x x)) 5) x q q x) i) q i (((qg_el (qg_cl (qg_sc (qg_sw M (qg_pr M x (3 - x) x) x 5) x (qf_i ((qg_sw M (qg_pr M x (3 - x) x) x 5) x x)) 5) x q) x q (qg_cl (qg_sc (qg_sw M (qg_pr M x (3 - x) x) x 5) x (qf_i ((qg_sw M (qg_pr M x (3 - x) x) x 5) x x)) 5) x q q x) i) q i) ^^^ (qf_m ((qg_cl (qg_sc (qg_sw M (qg_pr M x (3 - x) x) x 5) x (qf_i ((qg_sw M (qg_pr M x (3 - x) x) x 5) x x)) 5) x q) q x) ((qg_el (qg_cl (qg_sc (qg_sw M (qg_pr M x (3 - x) x) x 5) x (qf_i ((qg_sw M (qg_pr M x (3 - x) x) x 5) x x)) 5) x q) x q (qg_cl (qg_sc (qg_sw M (qg_pr M x (3 - x) x) x 5) x (qf_i ((qg_sw M (qg_pr M x (3 - x) x) x 5) x x)) 5) x q q x) i) x i)))))))), (e12, .inl (cI, 4, .inl (qN pl)))] := hD
                  refine lv_iinc (k := 6) (v := nI (i + 1)) (lv' := [(6, .int (nI (i + 1))), (0, .ref h0), (1, .int (nI x)), (2, .int (nI (qg_pr M x (3 - x) x))), (3, .int (sI (qf_i ((qg_sw M (qg_pr M x (3 - x) x) x 5) x x)))), (4, .int (nI q)), (5, .int (sI ((qg_cl (qg_sc (qg_sw M (qg_pr M x (3 - x) x) x 5) x (qf_i ((qg_sw M (qg_pr M x (3 - x) x) x 5) x x)) 5) x q) q x)))]) hx hb dX6_clear_155 hl rfl (qr_inc _) (by decide) rfl (fun ls hl => ?_)
                  refine lv_goto (tgt := 112) hx hb dX6_clear_158 rfl ?_
                  have hl := lv_sub (l' := [(0, .ref h0), (1, .int (nI x)), (2, .int (nI (qg_pr M x (3 - x) x))), (3, .int (sI (qf_i ((qg_sw M (qg_pr M x (3 - x) x) x 5) x x)))), (4, .int (nI q)), (5, .int (sI ((qg_cl (qg_sc (qg_sw M (qg_pr M x (3 - x) x) x 5) x (qf_i ((qg_sw M (qg_pr M x (3 - x) x) x 5) x x)) 5) x q) q x))), (6, .int (nI (i + 1)))]) hl [1, 2, 3, 4, 5, 6, 0] rfl
                  have e3 : qg_el (qg_cl (qg_sc (qg_sw M (qg_pr M x (3 - x) x) x 5) x (qf_i ((qg_sw M (qg_pr M x (3 - x) x) x 5) x x)) 5) x q) x q (qg_cl (qg_sc (qg_sw M (qg_pr M x (3 - x) x) x 5) x (qf_i ((qg_sw M (qg_pr M x (3 - x) x) x 5) x x)) 5) x q q x) (i + 1) = qg_up (qg_el (qg_cl (qg_sc (qg_sw M (qg_pr M x (3 - x) x) x 5) x (qf_i ((qg_sw M (qg_pr M x (3 - x) x) x 5) x x)) 5) x q) x q (qg_cl (qg_sc (qg_sw M (qg_pr M x (3 - x) x) x 5) x (qf_i ((qg_sw M (qg_pr M x (3 - x) x) x 5) x x)) 5) x q q x) i) q i (((qg_el (qg_cl (qg_sc (qg_sw M (qg_pr M x (3 - x) x) x 5) x (qf_i ((qg_sw M (qg_pr M x (3 - x) x) x 5) x x)) 5) x q) x q (qg_cl (qg_sc (qg_sw M (qg_pr M x (3 - x) x) x 5) x (qf_i ((qg_sw M (qg_pr M x (3 - x) x) x 5) x x)) 5) x q q x) i) q i) ^^^ (qf_m ((qg_cl (qg_sc (qg_sw M (qg_pr M x (3 - x) x) x 5) x (qf_i ((qg_sw M (qg_pr M x (3 - x) x) x 5) x x)) 5) x q) q x) ((qg_el (qg_cl (qg_sc (qg_sw M (qg_pr M x (3 - x) x) x 5) x (qf_i ((qg_sw M (qg_pr M x (3 - x) x) x 5) x x)) 5) x q) x q (qg_cl (qg_sc (qg_sw M (qg_pr M x (3 - x) x) x 5) x (qf_i ((qg_sw M (qg_pr M x (3 - x) x) x 5) x x)) 5) x q q x) i) x i))) := by first | rfl | (simp only [cond_true, cond_false])
                  exact ih (i + 1) (by omega)  ls H _ (by exact hl) (by rw [e3]; exact hP) (by rw [e3]; exact hD) hS 
              have hl := lv_sub (l' := [(0, .ref h0), (1, .int (nI x)), (2, .int (nI (qg_pr M x (3 - x) x))), (3, .int (sI (qf_i ((qg_sw M (qg_pr M x (3 - x) x) x 5) x x)))), (4, .int (nI q)), (5, .int (sI ((qg_cl (qg_sc (qg_sw M (qg_pr M x (3 - x) x) x 5) x (qf_i ((qg_sw M (qg_pr M x (3 - x) x) x 5) x x)) 5) x q) q x))), (6, .int (nI 0))]) hl [2, 3, 4, 5, 6, 1, 0] rfl
              exact lp112 5 0 (by omega)  ls H _ hl hP hD hS 
        have hl := lv_sub (l' := [(0, .ref h0), (1, .int (nI x)), (2, .int (nI (qg_pr M x (3 - x) x))), (3, .int (sI (qf_i ((qg_sw M (qg_pr M x (3 - x) x) x 5) x x)))), (4, .int (nI 0))]) hl [1, 2, 3, 4, 0] rfl
        exact lp90 4 0 (by omega)  ls H _ hl hP hD hS 
      | succ j ih =>
        intro i hi  ls H locs hl hP hD hS
        have li : i < 5 := by omega
        refine lv_iload hx hb dX6_clear_49 (lv_at hl 4 rfl) ?_
        refine lv_iconst (v := nI 5) hx hb dX6_clear_51 (by decide) ?_
        refine qr_ge (tgt := 87) hx hb dX6_clear_52 rfl (by omega) (by omega) (fun h => absurd h (by omega)) (fun b52 => ?_)
        refine lv_aload_n hx hb dX6_clear_55 rfl (lv_at hl 0 rfl) ?_
        refine va_get (D := (dC, dI)) (ci := 5) (v := .ref e11) (C := RX6) (T := TX6) (N := 19) hx hb hts i_X6 hown hK hP 0 rfl rfl 17 (by decide) k_41 (fun _ h9 => h9) rfl dX6_clear_56 ?_
        refine lv_iconst (v := nI 5) hx hb dX6_clear_59 (by decide) ?_
        refine lv_iload_n hx hb dX6_clear_60 rfl (lv_at hl 1 rfl) ?_
        refine qr_imul (z := nI (5 * x)) hx hb dX6_clear_61 (pk_mul _ _) ?_
        refine lv_iload hx hb dX6_clear_62 (lv_at hl 4 rfl) ?_
        refine qr_iadd (z := nI ((5 * x) + i)) hx hb dX6_clear_64 (nI_add _ _) ?_
        refine lv_aload_n hx hb dX6_clear_65 rfl (lv_at hl 0 rfl) ?_
        refine va_get (D := (dC, dI)) (ci := 5) (v := .ref e11) (C := RX6) (T := TX6) (N := 19) hx hb hts i_X6 hown hK hP 0 rfl rfl 17 (by decide) k_41 (fun _ h9 => h9) rfl dX6_clear_66 ?_
        refine lv_iconst (v := nI 5) hx hb dX6_clear_69 (by decide) ?_
        refine lv_iload_n hx hb dX6_clear_70 rfl (lv_at hl 1 rfl) ?_
        refine qr_imul (z := nI (5 * x)) hx hb dX6_clear_71 (pk_mul _ _) ?_
        refine lv_iload hx hb dX6_clear_72 (lv_at hl 4 rfl) ?_
        refine qr_iadd (z := nI ((5 * x) + i)) hx hb dX6_clear_74 (nI_add _ _) ?_
        refine qr_ildG hx hb hK hP 3 0 rfl rfl (by omega) (by omega) dX6_clear_75 ?_
        refine lv_iload_n hx hb dX6_clear_76 rfl (lv_at hl 3 rfl) ?_
        refine vp_callSi (va_Run.run (va_runS (As := [.int (sI ((qg_sc (qg_sw M (qg_pr M x (3 - x) x) x 5) x (qf_i ((qg_sw M (qg_pr M x (3 - x) x) x 5) x x)) i) x i)), .int (sI (qf_i ((qg_sw M (qg_pr M x (3 - x) x) x 5) x x)))]) (rest := [.int (nI ((5 * x) + i)), .ref e11]) ⟨hx, hb, hml, hown, hts⟩ (qc_mtimes l ((qg_sc (qg_sw M (qg_pr M x (3 - x) x) x 5) x (qf_i ((qg_sw M (qg_pr M x (3 - x) x) x 5) x x)) i) x i) (qf_i ((qg_sw M (qg_pr M x (3 - x) x) x 5) x x)) ) (va_cwS 2 hts gX6_clear_X6_times rfl rfl rfl (by decide +kernel) ⟨Nat.le_of_ble_eq_true rfl, Nat.le_of_ble_eq_true rfl⟩) ⟨fun a U g mk q => q, fun U hU hW => ⟨rfl, trivial⟩⟩ rfl rfl hl.1 rfl (lv_room (Nat.le_of_ble_eq_true rfl)) dX6_clear_77 ⟨Nat.le_of_ble_eq_true rfl, Nat.le_of_ble_eq_true rfl⟩)) (fun r77 hr77 => ?_)
        have hr77 : r77 = sI (qf_m ((qg_sc (qg_sw M (qg_pr M x (3 - x) x) x 5) x (qf_i ((qg_sw M (qg_pr M x (3 - x) x) x 5) x x)) i) x i) (qf_i ((qg_sw M (qg_pr M x (3 - x) x) x 5) x x))) := hr77
        subst hr77
        refine qr_istG (x := qf_m ((qg_sc (qg_sw M (qg_pr M x (3 - x) x) x 5) x (qf_i ((qg_sw M (qg_pr M x (3 - x) x) x 5) x x)) i) x i) (qf_i ((qg_sw M (qg_pr M x (3 - x) x) x 5) x x))) hx hb hK hP hD hS 3 0 rfl rfl (by omega) (by omega) dX6_clear_80 (fun H locs hP hD hS => ?_)
        have hP : va_P (dC, dI) vwCl [(h0, .inr (5, [.int (nI k0), .int (nI T), .ref e1, .ref e2, .ref e3, .int (nI dn), .ref e4, .ref e5, .ref e6, .ref e7, .ref e8, .int (nI me), .int (nI du), .int (nI fi), .int (nI ls0), .ref e9, .ref e10, .ref e11, .ref e12])), (e9, .inl (cI, 16, .inl (qS w))), (e10, .inl (cZ, 16, .inl (qZ z))), (e11, .inl (cI, 20, .inl (qS (qg_f (qg_up (qg_sc (qg_sw M (qg_pr M x (3 - x) x) x 5) x (qf_i ((qg_sw M (qg_pr M x (3 - x) x) x 5) x x)) i) x i (qf_m ((qg_sc (qg_sw M (qg_pr M x (3 - x) x) x 5) x (qf_i ((qg_sw M (qg_pr M x (3 - x) x) x 5) x x)) i) x i) (qf_i ((qg_sw M (qg_pr M x (3 - x) x) x 5) x x)))))))), (e12, .inl (cI, 4, .inl (qN pl)))] H := hP
        have hD : va_D A [(h0, .inr (5, [.int (nI k0), .int (nI T), .ref e1, .ref e2, .ref e3, .int (nI dn), .ref e4, .ref e5, .ref e6, .ref e7, .ref e8, .int (nI me), .int (nI du), .int (nI fi), .int (nI ls0), .ref e9, .ref e10, .ref e11, .ref e12])), (e9, .inl (cI, 16, .inl (qS w))), (e10, .inl (cZ, 16, .inl (qZ z))), (e11, .inl (cI, 20, .inl (qS (qg_f (qg_up (qg_sc (qg_sw M (qg_pr M x (3 - x) x) x 5) x (qf_i ((qg_sw M (qg_pr M x (3 - x) x) x 5) x x)) i) x i (qf_m ((qg_sc (qg_sw M (qg_pr M x (3 - x) x) x 5) x (qf_i ((qg_sw M (qg_pr M x (3 - x) x) x 5) x x)) i) x i) (qf_i ((qg_sw M (qg_pr M x (3 - x) x) x 5) x x)))))))), (e12, .inl (cI, 4, .inl (qN pl)))] := hD
        refine lv_iinc (k := 4) (v := nI (i + 1)) (lv' := [(4, .int (nI (i + 1))), (0, .ref h0), (1, .int (nI x)), (2, .int (nI (qg_pr M x (3 - x) x))), (3, .int (sI (qf_i ((qg_sw M (qg_pr M x (3 - x) x) x 5) x x))))]) hx hb dX6_clear_81 hl rfl (qr_inc _) (by decide) rfl (fun ls hl => ?_)
        refine lv_goto (tgt := 49) hx hb dX6_clear_84 rfl ?_
        have hl := lv_sub (l' := [(0, .ref h0), (1, .int (nI x)), (2, .int (nI (qg_pr M x (3 - x) x))), (3, .int (sI (qf_i ((qg_sw M (qg_pr M x (3 - x) x) x 5) x x)))), (4, .int (nI (i + 1)))]) hl [1, 2, 3, 4, 0] rfl
        have e4 : qg_sc (qg_sw M (qg_pr M x (3 - x) x) x 5) x (qf_i ((qg_sw M (qg_pr M x (3 - x) x) x 5) x x)) (i + 1) = qg_up (qg_sc (qg_sw M (qg_pr M x (3 - x) x) x 5) x (qf_i ((qg_sw M (qg_pr M x (3 - x) x) x 5) x x)) i) x i (qf_m ((qg_sc (qg_sw M (qg_pr M x (3 - x) x) x 5) x (qf_i ((qg_sw M (qg_pr M x (3 - x) x) x 5) x x)) i) x i) (qf_i ((qg_sw M (qg_pr M x (3 - x) x) x 5) x x))) := by first | rfl | (simp only [cond_true, cond_false])
        exact ih (i + 1) (by omega)  ls H _ (by exact hl) (by rw [e4]; exact hP) (by rw [e4]; exact hD) hS 
    have hl := lv_sub (l' := [(0, .ref h0), (1, .int (nI x)), (2, .int (nI (qg_pr M x (3 - x) x))), (3, .int (sI (qf_i ((qg_sw M (qg_pr M x (3 - x) x) x 5) x x)))), (4, .int (nI 0))]) hl [2, 3, 4, 1, 0] rfl
    exact lp49 5 0 (by omega)  ls H _ hl hP hD hS 
  have lp2 : ∀ (k r : Nat), r + k = 3 → ∀  (ls : Array Slot) (H : Heap) (locs : List Loc), lv_has ls 7 [(0, .ref h0), (1, .int (nI x)), (2, .int (nI r))] → va_P (dC, dI) vwCl [(h0, .inr (5, [.int (nI k0), .int (nI T), .ref e1, .ref e2, .ref e3, .int (nI dn), .ref e4, .ref e5, .ref e6, .ref e7, .ref e8, .int (nI me), .int (nI du), .int (nI fi), .int (nI ls0), .ref e9, .ref e10, .ref e11, .ref e12])), (e9, .inl (cI, 16, .inl (qS w))), (e10, .inl (cZ, 16, .inl (qZ z))), (e11, .inl (cI, 20, .inl (qS (qg_f M)))), (e12, .inl (cI, 4, .inl (qN pl)))] H → va_D A [(h0, .inr (5, [.int (nI k0), .int (nI T), .ref e1, .ref e2, .ref e3, .int (nI dn), .ref e4, .ref e5, .ref e6, .ref e7, .ref e8, .int (nI me), .int (nI du), .int (nI fi), .int (nI ls0), .ref e9, .ref e10, .ref e11, .ref e12])), (e9, .inl (cI, 16, .inl (qS w))), (e10, .inl (cZ, 16, .inl (qZ z))), (e11, .inl (cI, 20, .inl (qS (qg_f M)))), (e12, .inl (cI, 4, .inl (qN pl)))] → va_S A s.heap H locs → qg_pr M x (3 - r) r = qg_pr M x (3 - x) x → x ≤ r → W p l e (headSpec wsX6_clear ({ frames := 2, cells := 0, slots := 0, locals := 46 } : Room)).room s m ([.ref h0, .int (nI x)] : List Value).toArray below meth c H locs 0 0 Q (F0 m 2 ls []) := by
    intro k
    induction k with
    | zero =>
      intro r hr  ls H locs hl hP hD hS hr9 hr8
      have e9 : 3 = r := by omega
      subst e9
      refine lv_iload_n hx hb dX6_clear_2 rfl (lv_at hl 2 rfl) ?_
      refine lv_iconst (v := nI 3) hx hb dX6_clear_3 (by decide) ?_
      refine qr_ge (tgt := 26) hx hb dX6_clear_4 rfl (by omega) (by omega) (fun b4 => ?_) (fun h => absurd h (by omega))
      have e5 : qg_pr M x (3 - x) x = 3 := by rw [← hr9]; rfl
      exact out26 ls H _ (by rw [e5]; exact hl) hP hD hS
    | succ k ih =>
      intro r hr  ls H locs hl hP hD hS hr9 hr8
      have lr : r < 3 := by omega
      refine lv_iload_n hx hb dX6_clear_2 rfl (lv_at hl 2 rfl) ?_
      refine lv_iconst (v := nI 3) hx hb dX6_clear_3 (by decide) ?_
      refine qr_ge (tgt := 26) hx hb dX6_clear_4 rfl (by omega) (by omega) (fun h => absurd h (by omega)) (fun b4 => ?_)
      refine lv_aload_n hx hb dX6_clear_7 rfl (lv_at hl 0 rfl) ?_
      refine va_get (D := (dC, dI)) (ci := 5) (v := .ref e11) (C := RX6) (T := TX6) (N := 19) hx hb hts i_X6 hown hK hP 0 rfl rfl 17 (by decide) k_41 (fun _ h9 => h9) rfl dX6_clear_8 ?_
      refine lv_iconst (v := nI 5) hx hb dX6_clear_11 (by decide) ?_
      refine lv_iload_n hx hb dX6_clear_12 rfl (lv_at hl 2 rfl) ?_
      refine qr_imul (z := nI (5 * r)) hx hb dX6_clear_13 (pk_mul _ _) ?_
      refine lv_iload_n hx hb dX6_clear_14 rfl (lv_at hl 1 rfl) ?_
      refine qr_iadd (z := nI ((5 * r) + x)) hx hb dX6_clear_15 (nI_add _ _) ?_
      refine qr_ildG hx hb hK hP 3 0 rfl rfl (by omega) (by omega) dX6_clear_16 ?_
      refine qr_ifneS (tgt := 26) hx hb dX6_clear_17 rfl  (fun b17 => ?_) (fun b17 => ?_)
      · have e6 : qg_pr M x (3 - x) x = r := by rw [← hr9, show 3 - r = (3 - (r + 1)) + 1 by omega, qg_pr, if_neg b17]
        exact out26 ls H _ (by rw [e6]; exact hl) hP hD hS
      · refine lv_iinc (k := 2) (v := nI (r + 1)) (lv' := [(2, .int (nI (r + 1))), (0, .ref h0), (1, .int (nI x))]) hx hb dX6_clear_20 hl rfl (qr_inc _) (by decide) rfl (fun ls hl => ?_)
        refine lv_goto (tgt := 2) hx hb dX6_clear_23 rfl ?_
        have hl := lv_sub (l' := [(0, .ref h0), (1, .int (nI x)), (2, .int (nI (r + 1)))]) hl [1, 2, 0] rfl
        exact ih (r + 1) (by omega)  ls H _ (by exact hl) (by exact hP) (by exact hD) hS (by rw [← hr9, show 3 - r = (3 - (r + 1)) + 1 by omega, qg_pr, if_pos b17]) (by omega)
  have hl := lv_sub (l' := [(0, .ref h0), (1, .int (nI x)), (2, .int (nI x))]) hl [1, 2, 0] rfl
  exact lp2 (3 - x) x (by omega)  ls s.heap _ hl hP hD hS rfl (Nat.le_refl x)
set_option maxHeartbeats 4000000 in
set_option maxRecDepth 100000 in
/-- reference: fill -/
theorem qc_mfill (l : Launch) (dC : Nat → ClassId) (dI : Nat → Nat → Nat) (cI cZ : ClassId) (h0 k0 T dn me du fi ls0 e1 e2 e3 e4 e5 e6 e7 e8 e9 e10 e11 e12 : Nat) (w : Nat → BitVec 8) (z : Nat → Bool) (M : Nat → Nat → BitVec 8) (pl : Nat → Nat) (n : Nat) (sz : Nat) (hn : n ≤ 16) (hm : qd_c z n ≤ 4) : Met l yX6_fill wsX6_fill ({ frames := 3, cells := 0, slots := 0, locals := 72 } : Room) (va_Pc [.ref h0, .int (nI n)] (fun U => U.heap.size = sz ∧ va_P (dC, dI) vwCl [(h0, .inr (5, [.int (nI k0), .int (nI T), .ref e1, .ref e2, .ref e3, .int (nI dn), .ref e4, .ref e5, .ref e6, .ref e7, .ref e8, .int (nI me), .int (nI du), .int (nI fi), .int (nI ls0), .ref e9, .ref e10, .ref e11, .ref e12])), (e9, .inl (cI, 16, .inl (qS w))), (e10, .inl (cZ, 16, .inl (qZ z))), (e11, .inl (cI, 20, .inl (qS (qg_f M)))), (e12, .inl (cI, 4, .inl (qN pl)))] U.heap ∧ va_K (dC, dI) vwCl [(cI, .int), (cZ, .boolean)] U ∧ va_D (fun _ => True) [(h0, .inr (5, [.int (nI k0), .int (nI T), .ref e1, .ref e2, .ref e3, .int (nI dn), .ref e4, .ref e5, .ref e6, .ref e7, .ref e8, .int (nI me), .int (nI du), .int (nI fi), .int (nI ls0), .ref e9, .ref e10, .ref e11, .ref e12])), (e9, .inl (cI, 16, .inl (qS w))), (e10, .inl (cZ, 16, .inl (qZ z))), (e11, .inl (cI, 20, .inl (qS (qg_f M)))), (e12, .inl (cI, 4, .inl (qN pl)))])) (va_Qi (fun (r : Int32) (u : (Nat → BitVec 8) × (Nat → Nat → BitVec 8) × (Nat → Nat)) => ∃ b : Bool, r = zI b ∧ (b = true ↔ qk_can n z pl w) ∧ (b = true → u.1 = qk_p w (qd_d z pl n) (fun c => qk_N n z pl w c 4) (qd_c z n)) ∧ (b = false → u.1 = w)) (fun u t => va_P (dC, dI) vwCl [(h0, .inr (5, [.int (nI k0), .int (nI T), .ref e1, .ref e2, .ref e3, .int (nI dn), .ref e4, .ref e5, .ref e6, .ref e7, .ref e8, .int (nI me), .int (nI du), .int (nI fi), .int (nI ls0), .ref e9, .ref e10, .ref e11, .ref e12])), (e9, .inl (cI, 16, .inl (qS u.1))), (e10, .inl (cZ, 16, .inl (qZ z))), (e11, .inl (cI, 20, .inl (qS (qg_f u.2.1)))), (e12, .inl (cI, 4, .inl (qN u.2.2)))] t.heap ∧ va_K (dC, dI) vwCl [(cI, .int), (cZ, .boolean)] t ∧ va_D (va_A [(h0, .inr (5, [.int (nI k0), .int (nI T), .ref e1, .ref e2, .ref e3, .int (nI dn), .ref e4, .ref e5, .ref e6, .ref e7, .ref e8, .int (nI me), .int (nI du), .int (nI fi), .int (nI ls0), .ref e9, .ref e10, .ref e11, .ref e12])), (e9, .inl (cI, 16, .inl (qS w))), (e10, .inl (cZ, 16, .inl (qZ z))), (e11, .inl (cI, 20, .inl (qS (qg_f M)))), (e12, .inl (cI, 4, .inl (qN pl)))] sz) [(h0, .inr (5, [.int (nI k0), .int (nI T), .ref e1, .ref e2, .ref e3, .int (nI dn), .ref e4, .ref e5, .ref e6, .ref e7, .ref e8, .int (nI me), .int (nI du), .int (nI fi), .int (nI ls0), .ref e9, .ref e10, .ref e11, .ref e12])), (e9, .inl (cI, 16, .inl (qS u.1))), (e10, .inl (cZ, 16, .inl (qZ z))), (e11, .inl (cI, 20, .inl (qS (qg_f u.2.1)))), (e12, .inl (cI, 4, .inl (qN u.2.2)))]) (va_A [(h0, .inr (5, [.int (nI k0), .int (nI T), .ref e1, .ref e2, .ref e3, .int (nI dn), .ref e4, .ref e5, .ref e6, .ref e7, .ref e8, .int (nI me), .int (nI du), .int (nI fi), .int (nI ls0), .ref e9, .ref e10, .ref e11, .ref e12])), (e9, .inl (cI, 16, .inl (qS w))), (e10, .inl (cZ, 16, .inl (qZ z))), (e11, .inl (cI, 20, .inl (qS (qg_f M)))), (e12, .inl (cI, 4, .inl (qN pl)))] sz)) 0 0 (va_A [(h0, .inr (5, [.int (nI k0), .int (nI T), .ref e1, .ref e2, .ref e3, .int (nI dn), .ref e4, .ref e5, .ref e6, .ref e7, .ref e8, .int (nI me), .int (nI du), .int (nI fi), .int (nI ls0), .ref e9, .ref e10, .ref e11, .ref e12])), (e9, .inl (cI, 16, .inl (qS w))), (e10, .inl (cZ, 16, .inl (qZ z))), (e11, .inl (cI, 20, .inl (qS (qg_f M)))), (e12, .inl (cI, 4, .inl (qN pl)))] sz) := by
  refine Met.ofW (cc := cX6_fill) (maxL := 6) (ret := (some .boolean)) (by decide) rfl ?_
  intro p e s m args below meth c s₁ B hml hv
  obtain ⟨rfl, hsz, hP, hK, hD0⟩ := hv
  have hx := B.exec
  have hb := B.bytes
  have hr := B.returns
  have hts := atoms_spec (ws := wsX6_fill) B.pre
  have hown : s.vm.findClass RX6 = some m.cls := findClass_of_methodNamed B.named
  have hlocks := B.notSynchronized
  subst hsz
  have hD := hD0.self (sz := s.heap.size)
  generalize hAe : va_A [(h0, .inr (5, [.int (nI k0), .int (nI T), .ref e1, .ref e2, .ref e3, .int (nI dn), .ref e4, .ref e5, .ref e6, .ref e7, .ref e8, .int (nI me), .int (nI du), .int (nI fi), .int (nI ls0), .ref e9, .ref e10, .ref e11, .ref e12])), (e9, .inl (cI, 16, .inl (qS w))), (e10, .inl (cZ, 16, .inl (qZ z))), (e11, .inl (cI, 20, .inl (qS (qg_f M)))), (e12, .inl (cI, 4, .inl (qN pl)))] s.heap.size = A at hD ⊢
  have hA : ∀ q : Nat, s.heap.size ≤ q → A q := fun q h => by rw [← hAe]; exact Or.inr h
  have hS : va_S A s.heap s.heap [] := va_S.rf
  have hP : va_P (dC, dI) vwCl [(h0, .inr (5, [.int (nI k0), .int (nI T), .ref e1, .ref e2, .ref e3, .int (nI dn), .ref e4, .ref e5, .ref e6, .ref e7, .ref e8, .int (nI me), .int (nI du), .int (nI fi), .int (nI ls0), .ref e9, .ref e10, .ref e11, .ref e12])), (e9, .inl (cI, 16, .inl (qS w))), (e10, .inl (cZ, 16, .inl (qZ z))), (e11, .inl (cI, 20, .inl (qS (qg_f M)))), (e12, .inl (cI, 4, .inl (qN pl)))] s.heap := hP
  have hl := lv_entry ([.ref h0, .int (nI n)]) (n := 6) (Nat.le_of_ble_eq_true rfl)
  rw [lg_entry_eq]
  generalize (lg_sl ([.ref h0, .int (nI n)]) ++ List.replicate (6 - (lg_sl ([.ref h0, .int (nI n)])).length) Slot.unset).toArray = ls at hl ⊢
  have hl : lv_has ls 6 [(0, .ref h0), (1, .int (nI n))] := hl
  have k_38 := hts (.fieldLink RX6 38 "DiscCoderModel" "missing" "[Z") (by decide +kernel)
  have k_44 := hts (.fieldLink RX6 44 "DiscCoderModel" "places" "[I") (by decide +kernel)
  have k_35 := hts (.fieldLink RX6 35 "DiscCoderModel" "word" "[I") (by decide +kernel)
  have k_41 := hts (.fieldLink RX6 41 "DiscCoderModel" "rows" "[I") (by decide +kernel)
  have i_X6 : ∀ w ∈ u_ws RX6 TX6 19, w ∈ wsX6_fill := by decide +kernel
  refine qr_nm (fun Q hQ => ?_)
  refine lv_iconst (v := nI 0) hx hb dX6_fill_0 (by decide) ?_
  refine lv_istore_n (lv' := [(2, .int (nI 0)), (0, .ref h0), (1, .int (nI n))]) hx hb dX6_fill_1 rfl hl (by decide) rfl (fun ls hl => ?_)
  refine lv_iconst (v := nI 0) hx hb dX6_fill_2 (by decide) ?_
  refine lv_istore_n (lv' := [(3, .int (nI 0)), (2, .int (nI 0)), (0, .ref h0), (1, .int (nI n))]) hx hb dX6_fill_3 rfl hl (by decide) rfl (fun ls hl => ?_)
  have lp4 : ∀ (j i : Nat), i + j = n → ∀  (ls : Array Slot) (H : Heap) (locs : List Loc), lv_has ls 6 [(0, .ref h0), (1, .int (nI n)), (2, .int (nI (qd_c z i))), (3, .int (nI i))] → va_P (dC, dI) vwCl [(h0, .inr (5, [.int (nI k0), .int (nI T), .ref e1, .ref e2, .ref e3, .int (nI dn), .ref e4, .ref e5, .ref e6, .ref e7, .ref e8, .int (nI me), .int (nI du), .int (nI fi), .int (nI ls0), .ref e9, .ref e10, .ref e11, .ref e12])), (e9, .inl (cI, 16, .inl (qS w))), (e10, .inl (cZ, 16, .inl (qZ z))), (e11, .inl (cI, 20, .inl (qS (qg_f M)))), (e12, .inl (cI, 4, .inl (qN (qd_d z pl i))))] H → va_D A [(h0, .inr (5, [.int (nI k0), .int (nI T), .ref e1, .ref e2, .ref e3, .int (nI dn), .ref e4, .ref e5, .ref e6, .ref e7, .ref e8, .int (nI me), .int (nI du), .int (nI fi), .int (nI ls0), .ref e9, .ref e10, .ref e11, .ref e12])), (e9, .inl (cI, 16, .inl (qS w))), (e10, .inl (cZ, 16, .inl (qZ z))), (e11, .inl (cI, 20, .inl (qS (qg_f M)))), (e12, .inl (cI, 4, .inl (qN (qd_d z pl i))))] → va_S A s.heap H locs → W p l e (headSpec wsX6_fill ({ frames := 3, cells := 0, slots := 0, locals := 72 } : Room)).room s m ([.ref h0, .int (nI n)] : List Value).toArray below meth c H locs 0 0 Q (F0 m 4 ls []) := by
    intro j
    induction j with
    | zero =>
      intro i hi  ls H locs hl hP hD hS
      have e9 : n = i := by omega
      subst e9
      have hq9 := qd_c_le z n
      refine lv_iload_n hx hb dX6_fill_4 rfl (lv_at hl 3 rfl) ?_
      refine lv_iload_n hx hb dX6_fill_5 rfl (lv_at hl 1 rfl) ?_
      refine qr_ge (tgt := 34) hx hb dX6_fill_6 rfl (by omega) (by omega) (fun b6 => ?_) (fun h => absurd h (by omega))
      refine lv_iconst (v := nI 0) hx hb dX6_fill_34 (by decide) ?_
      refine lv_istore_n (lv' := [(3, .int (nI 0)), (0, .ref h0), (1, .int (nI n)), (2, .int (nI (qd_c z n)))]) hx hb dX6_fill_35 rfl hl (by decide) rfl (fun ls hl => ?_)
      have lp36 : ∀ (j k : Nat), k + j = 4 → ∀  (ls : Array Slot) (H : Heap) (locs : List Loc), lv_has ls 6 [(0, .ref h0), (1, .int (nI n)), (2, .int (nI (qd_c z n))), (3, .int (nI k))] → va_P (dC, dI) vwCl [(h0, .inr (5, [.int (nI k0), .int (nI T), .ref e1, .ref e2, .ref e3, .int (nI dn), .ref e4, .ref e5, .ref e6, .ref e7, .ref e8, .int (nI me), .int (nI du), .int (nI fi), .int (nI ls0), .ref e9, .ref e10, .ref e11, .ref e12])), (e9, .inl (cI, 16, .inl (qS w))), (e10, .inl (cZ, 16, .inl (qZ z))), (e11, .inl (cI, 20, .inl (qS (qg_f (qm_ro M (qm_F0 n (qd_c z n) (qd_d z pl n)) (qk_R n z w) k))))), (e12, .inl (cI, 4, .inl (qN (qd_d z pl n))))] H → va_D A [(h0, .inr (5, [.int (nI k0), .int (nI T), .ref e1, .ref e2, .ref e3, .int (nI dn), .ref e4, .ref e5, .ref e6, .ref e7, .ref e8, .int (nI me), .int (nI du), .int (nI fi), .int (nI ls0), .ref e9, .ref e10, .ref e11, .ref e12])), (e9, .inl (cI, 16, .inl (qS w))), (e10, .inl (cZ, 16, .inl (qZ z))), (e11, .inl (cI, 20, .inl (qS (qg_f (qm_ro M (qm_F0 n (qd_c z n) (qd_d z pl n)) (qk_R n z w) k))))), (e12, .inl (cI, 4, .inl (qN (qd_d z pl n))))] → va_S A s.heap H locs → W p l e (headSpec wsX6_fill ({ frames := 3, cells := 0, slots := 0, locals := 72 } : Room)).room s m ([.ref h0, .int (nI n)] : List Value).toArray below meth c H locs 0 0 Q (F0 m 36 ls []) := by
        intro j
        induction j with
        | zero =>
          intro k hk  ls H locs hl hP hD hS
          have e9 : 4 = k := by omega
          subst e9
          refine lv_iload_n hx hb dX6_fill_36 rfl (lv_at hl 3 rfl) ?_
          refine lv_iconst (v := nI 4) hx hb dX6_fill_37 (by decide) ?_
          refine qr_ge (tgt := 161) hx hb dX6_fill_38 rfl (by omega) (by omega) (fun b38 => ?_) (fun h => absurd h (by omega))
          refine lv_iconst (v := nI 0) hx hb dX6_fill_161 (by decide) ?_
          refine lv_istore_n (lv' := [(3, .int (nI 0)), (0, .ref h0), (1, .int (nI n)), (2, .int (nI (qd_c z n)))]) hx hb dX6_fill_162 rfl hl (by decide) rfl (fun ls hl => ?_)
          obtain ⟨hP, hD⟩ := qr_same hP hD 3 rfl (qm_ro_M0 M n (qd_c z n) (qd_d z pl n) (qk_R n z w))
          have hP : va_P (dC, dI) vwCl [(h0, .inr (5, [.int (nI k0), .int (nI T), .ref e1, .ref e2, .ref e3, .int (nI dn), .ref e4, .ref e5, .ref e6, .ref e7, .ref e8, .int (nI me), .int (nI du), .int (nI fi), .int (nI ls0), .ref e9, .ref e10, .ref e11, .ref e12])), (e9, .inl (cI, 16, .inl (qS w))), (e10, .inl (cZ, 16, .inl (qZ z))), (e11, .inl (cI, 20, .inl (qS (qg_f (qg_M0 (fun c => qw_X n (qd_d z pl n c)) (qk_R n z w) (qd_c z n)))))), (e12, .inl (cI, 4, .inl (qN (qd_d z pl n))))] H := hP
          have hD : va_D A [(h0, .inr (5, [.int (nI k0), .int (nI T), .ref e1, .ref e2, .ref e3, .int (nI dn), .ref e4, .ref e5, .ref e6, .ref e7, .ref e8, .int (nI me), .int (nI du), .int (nI fi), .int (nI ls0), .ref e9, .ref e10, .ref e11, .ref e12])), (e9, .inl (cI, 16, .inl (qS w))), (e10, .inl (cZ, 16, .inl (qZ z))), (e11, .inl (cI, 20, .inl (qS (qg_f (qg_M0 (fun c => qw_X n (qd_d z pl n c)) (qk_R n z w) (qd_c z n)))))), (e12, .inl (cI, 4, .inl (qN (qd_d z pl n))))] := hD
          have lp163 : ∀ (j v : Nat), v + j = qd_c z n → ∀  (ls : Array Slot) (H : Heap) (locs : List Loc), lv_has ls 6 [(0, .ref h0), (1, .int (nI n)), (2, .int (nI (qd_c z n))), (3, .int (nI v))] → va_P (dC, dI) vwCl [(h0, .inr (5, [.int (nI k0), .int (nI T), .ref e1, .ref e2, .ref e3, .int (nI dn), .ref e4, .ref e5, .ref e6, .ref e7, .ref e8, .int (nI me), .int (nI du), .int (nI fi), .int (nI ls0), .ref e9, .ref e10, .ref e11, .ref e12])), (e9, .inl (cI, 16, .inl (qS w))), (e10, .inl (cZ, 16, .inl (qZ z))), (e11, .inl (cI, 20, .inl (qS (qg_f (qg_J (qg_M0 (fun c => qw_X n (qd_d z pl n c)) (qk_R n z w) (qd_c z n)) v))))), (e12, .inl (cI, 4, .inl (qN (qd_d z pl n))))] H → va_D A [(h0, .inr (5, [.int (nI k0), .int (nI T), .ref e1, .ref e2, .ref e3, .int (nI dn), .ref e4, .ref e5, .ref e6, .ref e7, .ref e8, .int (nI me), .int (nI du), .int (nI fi), .int (nI ls0), .ref e9, .ref e10, .ref e11, .ref e12])), (e9, .inl (cI, 16, .inl (qS w))), (e10, .inl (cZ, 16, .inl (qZ z))), (e11, .inl (cI, 20, .inl (qS (qg_f (qg_J (qg_M0 (fun c => qw_X n (qd_d z pl n c)) (qk_R n z w) (qd_c z n)) v))))), (e12, .inl (cI, 4, .inl (qN (qd_d z pl n))))] → va_S A s.heap H locs → W p l e (headSpec wsX6_fill ({ frames := 3, cells := 0, slots := 0, locals := 72 } : Room)).room s m ([.ref h0, .int (nI n)] : List Value).toArray below meth c H locs 0 0 Q (F0 m 163 ls []) := by
            intro j
            induction j with
            | zero =>
              intro v hv  ls H locs hl hP hD hS
              have e9 : qd_c z n = v := by omega
              subst e9
              refine lv_iload_n hx hb dX6_fill_163 rfl (lv_at hl 3 rfl) ?_
              refine lv_iload_n hx hb dX6_fill_164 rfl (lv_at hl 2 rfl) ?_
              refine qr_ge (tgt := 179) hx hb dX6_fill_165 rfl (by omega) (by omega) (fun b165 => ?_) (fun h => absurd h (by omega))
              refine lv_iconst (v := zI true) hx hb dX6_fill_179 (by decide) ?_
              refine lv_istore_n (lv' := [(3, .int (zI true)), (0, .ref h0), (1, .int (nI n)), (2, .int (nI (qd_c z n)))]) hx hb dX6_fill_180 rfl hl (by decide) rfl (fun ls hl => ?_)
              refine lv_iload_n hx hb dX6_fill_181 rfl (lv_at hl 3 rfl) ?_
              refine lv_istore (lv' := [(4, .int (nI (qd_c z n))), (3, .int (zI true)), (0, .ref h0), (1, .int (nI n)), (2, .int (nI (qd_c z n)))]) hx hb dX6_fill_182 hl (by decide) rfl (fun ls hl => ?_)
              have lp184 : ∀ (j k : Nat), k + j = 4 → ∀ (b : Bool) (ls : Array Slot) (H : Heap) (locs : List Loc), lv_has ls 6 [(0, .ref h0), (1, .int (nI n)), (2, .int (nI (qd_c z n))), (3, .int (zI b)), (4, .int (nI k))] → va_P (dC, dI) vwCl [(h0, .inr (5, [.int (nI k0), .int (nI T), .ref e1, .ref e2, .ref e3, .int (nI dn), .ref e4, .ref e5, .ref e6, .ref e7, .ref e8, .int (nI me), .int (nI du), .int (nI fi), .int (nI ls0), .ref e9, .ref e10, .ref e11, .ref e12])), (e9, .inl (cI, 16, .inl (qS w))), (e10, .inl (cZ, 16, .inl (qZ z))), (e11, .inl (cI, 20, .inl (qS (qg_f (qg_J (qg_M0 (fun c => qw_X n (qd_d z pl n c)) (qk_R n z w) (qd_c z n)) (qd_c z n)))))), (e12, .inl (cI, 4, .inl (qN (qd_d z pl n))))] H → va_D A [(h0, .inr (5, [.int (nI k0), .int (nI T), .ref e1, .ref e2, .ref e3, .int (nI dn), .ref e4, .ref e5, .ref e6, .ref e7, .ref e8, .int (nI me), .int (nI du), .int (nI fi), .int (nI ls0), .ref e9, .ref e10, .ref e11, .ref e12])), (e9, .inl (cI, 16, .inl (qS w))), (e10, .inl (cZ, 16, .inl (qZ z))), (e11, .inl (cI, 20, .inl (qS (qg_f (qg_J (qg_M0 (fun c => qw_X n (qd_d z pl n c)) (qk_R n z w) (qd_c z n)) (qd_c z n)))))), (e12, .inl (cI, 4, .inl (qN (qd_d z pl n))))] → va_S A s.heap H locs → (b = true ↔ ∀ k9, qd_c z n ≤ k9 → k9 < k → (qg_J (qg_M0 (fun c => qw_X n (qd_d z pl n c)) (qk_R n z w) (qd_c z n)) (qd_c z n)) k9 4 = 0#8) → qd_c z n ≤ k → W p l e (headSpec wsX6_fill ({ frames := 3, cells := 0, slots := 0, locals := 72 } : Room)).room s m ([.ref h0, .int (nI n)] : List Value).toArray below meth c H locs 0 0 Q (F0 m 184 ls []) := by
                intro j
                induction j with
                | zero =>
                  intro k hk b ls H locs hl hP hD hS hb9 hk9
                  have e9 : 4 = k := by omega
                  subst e9
                  have hb8 : b = true ↔ qk_can n z pl w := hb9
                  refine lv_iload hx hb dX6_fill_184 (lv_at hl 4 rfl) ?_
                  refine lv_iconst (v := nI 4) hx hb dX6_fill_186 (by decide) ?_
                  refine qr_ge (tgt := 220) hx hb dX6_fill_187 rfl (by omega) (by omega) (fun b187 => ?_) (fun h => absurd h (by omega))
                  refine lv_iconst (v := nI 0) hx hb dX6_fill_220 (by decide) ?_
                  refine lv_istore (lv' := [(4, .int (nI 0)), (0, .ref h0), (1, .int (nI n)), (2, .int (nI (qd_c z n))), (3, .int (zI b))]) hx hb dX6_fill_221 hl (by decide) rfl (fun ls hl => ?_)
                  by_cases hcan : b = true
                  · have lp223 : ∀ (j v : Nat), v + j = qd_c z n → ∀  (ls : Array Slot) (H : Heap) (locs : List Loc), lv_has ls 6 [(0, .ref h0), (1, .int (nI n)), (2, .int (nI (qd_c z n))), (3, .int (zI b)), (4, .int (nI v))] → va_P (dC, dI) vwCl [(h0, .inr (5, [.int (nI k0), .int (nI T), .ref e1, .ref e2, .ref e3, .int (nI dn), .ref e4, .ref e5, .ref e6, .ref e7, .ref e8, .int (nI me), .int (nI du), .int (nI fi), .int (nI ls0), .ref e9, .ref e10, .ref e11, .ref e12])), (e9, .inl (cI, 16, .inl (qS (qk_p w (qd_d z pl n) (fun c => (qg_J (qg_M0 (fun c => qw_X n (qd_d z pl n c)) (qk_R n z w) (qd_c z n)) (qd_c z n)) c 4) v)))), (e10, .inl (cZ, 16, .inl (qZ z))), (e11, .inl (cI, 20, .inl (qS (qg_f (qg_J (qg_M0 (fun c => qw_X n (qd_d z pl n c)) (qk_R n z w) (qd_c z n)) (qd_c z n)))))), (e12, .inl (cI, 4, .inl (qN (qd_d z pl n))))] H → va_D A [(h0, .inr (5, [.int (nI k0), .int (nI T), .ref e1, .ref e2, .ref e3, .int (nI dn), .ref e4, .ref e5, .ref e6, .ref e7, .ref e8, .int (nI me), .int (nI du), .int (nI fi), .int (nI ls0), .ref e9, .ref e10, .ref e11, .ref e12])), (e9, .inl (cI, 16, .inl (qS (qk_p w (qd_d z pl n) (fun c => (qg_J (qg_M0 (fun c => qw_X n (qd_d z pl n c)) (qk_R n z w) (qd_c z n)) (qd_c z n)) c 4) v)))), (e10, .inl (cZ, 16, .inl (qZ z))), (e11, .inl (cI, 20, .inl (qS (qg_f (qg_J (qg_M0 (fun c => qw_X n (qd_d z pl n c)) (qk_R n z w) (qd_c z n)) (qd_c z n)))))), (e12, .inl (cI, 4, .inl (qN (qd_d z pl n))))] → va_S A s.heap H locs → W p l e (headSpec wsX6_fill ({ frames := 3, cells := 0, slots := 0, locals := 72 } : Room)).room s m ([.ref h0, .int (nI n)] : List Value).toArray below meth c H locs 0 0 Q (F0 m 223 ls []) := by
                      intro j
                      induction j with
                      | zero =>
                        intro v hv  ls H locs hl hP hD hS
                        have e9 : qd_c z n = v := by omega
                        subst e9
                        refine lv_iload hx hb dX6_fill_223 (lv_at hl 4 rfl) ?_
                        refine lv_iload_n hx hb dX6_fill_225 rfl (lv_at hl 2 rfl) ?_
                        refine qr_ge (tgt := 262) hx hb dX6_fill_226 rfl (by omega) (by omega) (fun b226 => ?_) (fun h => absurd h (by omega))
                        refine lv_iload_n hx hb dX6_fill_262 rfl (lv_at hl 3 rfl) ?_
                        subst hQ
                        exact W.zret hx hb hr (qr_narZ _) (fun t ht hW => ⟨⟨_, (qk_p w (qd_d z pl n) (fun c => (qg_J (qg_M0 (fun c => qw_X n (qd_d z pl n c)) (qk_R n z w) (qd_c z n)) (qd_c z n)) c 4) (qd_c z n), qg_J (qg_M0 (fun c => qw_X n (qd_d z pl n c)) (qk_R n z w) (qd_c z n)) (qd_c z n), qd_d z pl n), rfl, ⟨b, rfl, hb8, fun _ => rfl, fun h => absurd (h.symm.trans hcan) (by decide)⟩, by rw [ht]; exact hP, va_K.moved hW.alike hK, hD⟩, hS.F ht⟩) hS.2.2 dX6_fill_263
                      | succ j ih =>
                        intro v hv  ls H locs hl hP hD hS
                        have lv : v < qd_c z n := by omega
                        refine lv_iload hx hb dX6_fill_223 (lv_at hl 4 rfl) ?_
                        refine lv_iload_n hx hb dX6_fill_225 rfl (lv_at hl 2 rfl) ?_
                        refine qr_ge (tgt := 262) hx hb dX6_fill_226 rfl (by omega) (by omega) (fun h => absurd h (by omega)) (fun b226 => ?_)
                        refine lv_iload_n hx hb dX6_fill_229 rfl (lv_at hl 3 rfl) ?_
                        refine qr_ifeqZ (tgt := 262) hx hb dX6_fill_230 rfl  (fun h => absurd (h.symm.trans hcan) (by decide)) (fun b230 => ?_)
                        refine lv_aload_n hx hb dX6_fill_233 rfl (lv_at hl 0 rfl) ?_
                        refine va_get (D := (dC, dI)) (ci := 5) (v := .ref e9) (C := RX6) (T := TX6) (N := 19) hx hb hts i_X6 hown hK hP 0 rfl rfl 15 (by decide) k_35 (fun _ h9 => h9) rfl dX6_fill_234 ?_
                        refine lv_aload_n hx hb dX6_fill_237 rfl (lv_at hl 0 rfl) ?_
                        refine va_get (D := (dC, dI)) (ci := 5) (v := .ref e12) (C := RX6) (T := TX6) (N := 19) hx hb hts i_X6 hown hK hP 0 rfl rfl 18 (by decide) k_44 (fun _ h9 => h9) rfl dX6_fill_238 ?_
                        refine lv_iload hx hb dX6_fill_241 (lv_at hl 4 rfl) ?_
                        refine qr_ildN hx hb hK hP 4 0 rfl rfl (by omega) (by omega) dX6_fill_243 ?_
                        refine lv_aload_n hx hb dX6_fill_244 rfl (lv_at hl 0 rfl) ?_
                        refine va_get (D := (dC, dI)) (ci := 5) (v := .ref e11) (C := RX6) (T := TX6) (N := 19) hx hb hts i_X6 hown hK hP 0 rfl rfl 17 (by decide) k_41 (fun _ h9 => h9) rfl dX6_fill_245 ?_
                        refine lv_iconst (v := nI 5) hx hb dX6_fill_248 (by decide) ?_
                        refine lv_iload hx hb dX6_fill_249 (lv_at hl 4 rfl) ?_
                        refine qr_imul (z := nI (5 * v)) hx hb dX6_fill_251 (pk_mul _ _) ?_
                        refine lv_iconst (v := nI 4) hx hb dX6_fill_252 (by decide) ?_
                        refine qr_iadd (z := nI ((5 * v) + 4)) hx hb dX6_fill_253 (nI_add _ _) ?_
                        refine qr_ildG hx hb hK hP 3 0 rfl rfl (by omega) (by omega) dX6_fill_254 ?_
                        refine qr_istS (x := (qg_J (qg_M0 (fun c => qw_X n (qd_d z pl n c)) (qk_R n z w) (qd_c z n)) (qd_c z n)) v 4) hx hb hK hP hD hS 1 0 rfl rfl (by have := (qd_d_in z pl n v (by omega)).1; omega) (by omega) dX6_fill_255 (fun H locs hP hD hS => ?_)
                        have hP : va_P (dC, dI) vwCl [(h0, .inr (5, [.int (nI k0), .int (nI T), .ref e1, .ref e2, .ref e3, .int (nI dn), .ref e4, .ref e5, .ref e6, .ref e7, .ref e8, .int (nI me), .int (nI du), .int (nI fi), .int (nI ls0), .ref e9, .ref e10, .ref e11, .ref e12])), (e9, .inl (cI, 16, .inl (qS (va_up (qk_p w (qd_d z pl n) (fun c => (qg_J (qg_M0 (fun c => qw_X n (qd_d z pl n c)) (qk_R n z w) (qd_c z n)) (qd_c z n)) c 4) v) ((qd_d z pl n) v) ((qg_J (qg_M0 (fun c => qw_X n (qd_d z pl n c)) (qk_R n z w) (qd_c z n)) (qd_c z n)) v 4))))), (e10, .inl (cZ, 16, .inl (qZ z))), (e11, .inl (cI, 20, .inl (qS (qg_f (qg_J (qg_M0 (fun c => qw_X n (qd_d z pl n c)) (qk_R n z w) (qd_c z n)) (qd_c z n)))))), (e12, .inl (cI, 4, .inl (qN (qd_d z pl n))))] H := hP
                        have hD : va_D A [(h0, .inr (5, [.int (nI k0), .int (nI T), .ref e1, .ref e2, .ref e3, .int (nI dn), .ref e4, .ref e5, .ref e6, .ref e7, .ref e8, .int (nI me), .int (nI du), .int (nI fi), .int (nI ls0), .ref e9, .ref e10, .ref e11, .ref e12])), (e9, .inl (cI, 16, .inl (qS (va_up (qk_p w (qd_d z pl n) (fun c => (qg_J (qg_M0 (fun c => qw_X n (qd_d z pl n c)) (qk_R n z w) (qd_c z n)) (qd_c z n)) c 4) v) ((qd_d z pl n) v) ((qg_J (qg_M0 (fun c => qw_X n (qd_d z pl n c)) (qk_R n z w) (qd_c z n)) (qd_c z n)) v 4))))), (e10, .inl (cZ, 16, .inl (qZ z))), (e11, .inl (cI, 20, .inl (qS (qg_f (qg_J (qg_M0 (fun c => qw_X n (qd_d z pl n c)) (qk_R n z w) (qd_c z n)) (qd_c z n)))))), (e12, .inl (cI, 4, .inl (qN (qd_d z pl n))))] := hD
                        refine lv_iinc (k := 4) (v := nI (v + 1)) (lv' := [(4, .int (nI (v + 1))), (0, .ref h0), (1, .int (nI n)), (2, .int (nI (qd_c z n))), (3, .int (zI b))]) hx hb dX6_fill_256 hl rfl (qr_inc _) (by decide) rfl (fun ls hl => ?_)
                        refine lv_goto (tgt := 223) hx hb dX6_fill_259 rfl ?_
                        have hl := lv_sub (l' := [(0, .ref h0), (1, .int (nI n)), (2, .int (nI (qd_c z n))), (3, .int (zI b)), (4, .int (nI (v + 1)))]) hl [1, 2, 3, 4, 0] rfl
                        have e1 : qk_p w (qd_d z pl n) (fun c => (qg_J (qg_M0 (fun c => qw_X n (qd_d z pl n c)) (qk_R n z w) (qd_c z n)) (qd_c z n)) c 4) (v + 1) = va_up (qk_p w (qd_d z pl n) (fun c => (qg_J (qg_M0 (fun c => qw_X n (qd_d z pl n c)) (qk_R n z w) (qd_c z n)) (qd_c z n)) c 4) v) ((qd_d z pl n) v) ((qg_J (qg_M0 (fun c => qw_X n (qd_d z pl n c)) (qk_R n z w) (qd_c z n)) (qd_c z n)) v 4) := by first | rfl | (simp only [cond_true, cond_false])
                        exact ih (v + 1) (by omega)  ls H _ (by exact hl) (by rw [e1]; exact hP) (by rw [e1]; exact hD) hS 
                    have hl := lv_sub (l' := [(0, .ref h0), (1, .int (nI n)), (2, .int (nI (qd_c z n))), (3, .int (zI b)), (4, .int (nI 0))]) hl [1, 2, 3, 4, 0] rfl
                    exact lp223 (qd_c z n) 0 (by omega)  ls H _ hl hP hD hS 
                  · refine lv_iload hx hb dX6_fill_223 (lv_at hl 0 rfl) ?_
                    refine lv_iload_n hx hb dX6_fill_225 rfl (lv_at hl 3 rfl) ?_
                    refine qr_ge (tgt := 262) hx hb dX6_fill_226 rfl (by omega) (by omega) (fun b226 => ?_) (fun b226 => ?_)
                    · refine lv_iload_n hx hb dX6_fill_262 rfl (lv_at hl 4 rfl) ?_
                      subst hQ
                      exact W.zret hx hb hr (qr_narZ _) (fun t ht hW => ⟨⟨_, (w, qg_J (qg_M0 (fun c => qw_X n (qd_d z pl n c)) (qk_R n z w) (qd_c z n)) (qd_c z n), qd_d z pl n), rfl, ⟨b, rfl, hb8, fun h => absurd h hcan, fun _ => rfl⟩, by rw [ht]; exact hP, va_K.moved hW.alike hK, hD⟩, hS.F ht⟩) hS.2.2 dX6_fill_263
                    · refine lv_iload_n hx hb dX6_fill_229 rfl (lv_at hl 4 rfl) ?_
                      refine qr_ifeqZ (tgt := 262) hx hb dX6_fill_230 rfl  (fun b230 => ?_) (fun h => absurd h hcan)
                      refine lv_iload_n hx hb dX6_fill_262 rfl (lv_at hl 4 rfl) ?_
                      subst hQ
                      exact W.zret hx hb hr (qr_narZ _) (fun t ht hW => ⟨⟨_, (w, qg_J (qg_M0 (fun c => qw_X n (qd_d z pl n c)) (qk_R n z w) (qd_c z n)) (qd_c z n), qd_d z pl n), rfl, ⟨b, rfl, hb8, fun h => absurd h hcan, fun _ => rfl⟩, by rw [ht]; exact hP, va_K.moved hW.alike hK, hD⟩, hS.F ht⟩) hS.2.2 dX6_fill_263
                | succ j ih =>
                  intro k hk b ls H locs hl hP hD hS hb9 hk9
                  have lk : k < 4 := by omega
                  refine lv_iload hx hb dX6_fill_184 (lv_at hl 4 rfl) ?_
                  refine lv_iconst (v := nI 4) hx hb dX6_fill_186 (by decide) ?_
                  refine qr_ge (tgt := 220) hx hb dX6_fill_187 rfl (by omega) (by omega) (fun h => absurd h (by omega)) (fun b187 => ?_)
                  refine lv_iload_n hx hb dX6_fill_190 rfl (lv_at hl 3 rfl) ?_
                  refine qr_ifeqZ (tgt := 212) hx hb dX6_fill_191 rfl  (fun b191 => ?_) (fun b191 => ?_)
                  · refine lv_iconst (v := zI false) hx hb dX6_fill_212 (by decide) ?_
                    refine lv_istore_n (lv' := [(3, .int (zI false)), (0, .ref h0), (1, .int (nI n)), (2, .int (nI (qd_c z n))), (4, .int (nI k))]) hx hb dX6_fill_213 rfl hl (by decide) rfl (fun ls hl => ?_)
                    refine lv_iinc (k := 4) (v := nI (k + 1)) (lv' := [(4, .int (nI (k + 1))), (3, .int (zI false)), (0, .ref h0), (1, .int (nI n)), (2, .int (nI (qd_c z n)))]) hx hb dX6_fill_214 hl rfl (qr_inc _) (by decide) rfl (fun ls hl => ?_)
                    refine lv_goto (tgt := 184) hx hb dX6_fill_217 rfl ?_
                    have hl := lv_sub (l' := [(0, .ref h0), (1, .int (nI n)), (2, .int (nI (qd_c z n))), (3, .int (zI false)), (4, .int (nI (k + 1)))]) hl [2, 3, 4, 1, 0] rfl
                    exact ih (k + 1) (by omega) false ls H _ (by exact hl) (by exact hP) (by exact hD) hS ⟨fun h => Bool.noConfusion h, fun h => by have h8 := hb9.mpr (fun k9 h1 h2 => h k9 h1 (by omega)); rw [b191] at h8; exact h8⟩ (by omega)
                  · refine lv_aload_n hx hb dX6_fill_194 rfl (lv_at hl 0 rfl) ?_
                    refine va_get (D := (dC, dI)) (ci := 5) (v := .ref e11) (C := RX6) (T := TX6) (N := 19) hx hb hts i_X6 hown hK hP 0 rfl rfl 17 (by decide) k_41 (fun _ h9 => h9) rfl dX6_fill_195 ?_
                    refine lv_iconst (v := nI 5) hx hb dX6_fill_198 (by decide) ?_
                    refine lv_iload hx hb dX6_fill_199 (lv_at hl 4 rfl) ?_
                    refine qr_imul (z := nI (5 * k)) hx hb dX6_fill_201 (pk_mul _ _) ?_
                    refine lv_iconst (v := nI 4) hx hb dX6_fill_202 (by decide) ?_
                    refine qr_iadd (z := nI ((5 * k) + 4)) hx hb dX6_fill_203 (nI_add _ _) ?_
                    refine qr_ildG hx hb hK hP 3 0 rfl rfl (by omega) (by omega) dX6_fill_204 ?_
                    refine qr_ifneS (tgt := 212) hx hb dX6_fill_205 rfl  (fun b205 => ?_) (fun b205 => ?_)
                    · refine lv_iconst (v := zI false) hx hb dX6_fill_212 (by decide) ?_
                      refine lv_istore_n (lv' := [(3, .int (zI false)), (0, .ref h0), (1, .int (nI n)), (2, .int (nI (qd_c z n))), (4, .int (nI k))]) hx hb dX6_fill_213 rfl hl (by decide) rfl (fun ls hl => ?_)
                      refine lv_iinc (k := 4) (v := nI (k + 1)) (lv' := [(4, .int (nI (k + 1))), (3, .int (zI false)), (0, .ref h0), (1, .int (nI n)), (2, .int (nI (qd_c z n)))]) hx hb dX6_fill_214 hl rfl (qr_inc _) (by decide) rfl (fun ls hl => ?_)
                      refine lv_goto (tgt := 184) hx hb dX6_fill_217 rfl ?_
                      have hl := lv_sub (l' := [(0, .ref h0), (1, .int (nI n)), (2, .int (nI (qd_c z n))), (3, .int (zI false)), (4, .int (nI (k + 1)))]) hl [2, 3, 4, 1, 0] rfl
                      exact ih (k + 1) (by omega) false ls H _ (by exact hl) (by exact hP) (by exact hD) hS ⟨fun h => Bool.noConfusion h, fun h => absurd (h k (by omega) (by omega)) b205⟩ (by omega)
                    · refine lv_iconst (v := zI true) hx hb dX6_fill_208 (by decide) ?_
                      refine lv_goto (tgt := 213) hx hb dX6_fill_209 rfl ?_
                      refine lv_istore_n (lv' := [(3, .int (zI true)), (0, .ref h0), (1, .int (nI n)), (2, .int (nI (qd_c z n))), (4, .int (nI k))]) hx hb dX6_fill_213 rfl hl (by decide) rfl (fun ls hl => ?_)
                      refine lv_iinc (k := 4) (v := nI (k + 1)) (lv' := [(4, .int (nI (k + 1))), (3, .int (zI true)), (0, .ref h0), (1, .int (nI n)), (2, .int (nI (qd_c z n)))]) hx hb dX6_fill_214 hl rfl (qr_inc _) (by decide) rfl (fun ls hl => ?_)
                      refine lv_goto (tgt := 184) hx hb dX6_fill_217 rfl ?_
                      have hl := lv_sub (l' := [(0, .ref h0), (1, .int (nI n)), (2, .int (nI (qd_c z n))), (3, .int (zI true)), (4, .int (nI (k + 1)))]) hl [2, 3, 4, 1, 0] rfl
                      exact ih (k + 1) (by omega) true ls H _ (by exact hl) (by exact hP) (by exact hD) hS ⟨fun _ k9 h1 h2 => if e9 : k9 = k then (by rw [e9]; exact b205) else (hb9.mp b191) k9 h1 (by omega), fun _ => rfl⟩ (by omega)
              have hl := lv_sub (l' := [(0, .ref h0), (1, .int (nI n)), (2, .int (nI (qd_c z n))), (3, .int (zI true)), (4, .int (nI (qd_c z n)))]) hl [2, 3, 4, 1, 0] rfl
              exact lp184 (4 - (qd_c z n)) (qd_c z n) (by omega) true ls H _ hl hP hD hS ⟨fun _ k9 h1 h2 => absurd h2 (by omega), fun _ => rfl⟩ (Nat.le_refl _)
            | succ j ih =>
              intro v hv  ls H locs hl hP hD hS
              have lv : v < qd_c z n := by omega
              refine lv_iload_n hx hb dX6_fill_163 rfl (lv_at hl 3 rfl) ?_
              refine lv_iload_n hx hb dX6_fill_164 rfl (lv_at hl 2 rfl) ?_
              refine qr_ge (tgt := 179) hx hb dX6_fill_165 rfl (by omega) (by omega) (fun h => absurd h (by omega)) (fun b165 => ?_)
              refine lv_aload_n hx hb dX6_fill_168 rfl (lv_at hl 0 rfl) ?_
              refine lv_iload_n hx hb dX6_fill_169 rfl (lv_at hl 3 rfl) ?_
              have hPc := hP.sub (ws' := [(h0, .inr (5, [.int (nI k0), .int (nI T), .ref e1, .ref e2, .ref e3, .int (nI dn), .ref e4, .ref e5, .ref e6, .ref e7, .ref e8, .int (nI me), .int (nI du), .int (nI fi), .int (nI ls0), .ref e9, .ref e10, .ref e11, .ref e12])), (e9, .inl (cI, 16, .inl (qS w))), (e10, .inl (cZ, 16, .inl (qZ z))), (e11, .inl (cI, 20, .inl (qS (qg_f (qg_J (qg_M0 (fun c => qw_X n (qd_d z pl n c)) (qk_R n z w) (qd_c z n)) v))))), (e12, .inl (cI, 4, .inl (qN (qd_d z pl n))))]) [0, 1, 2, 3, 4] rfl
              have hDc := hD.sub (ws' := [(h0, .inr (5, [.int (nI k0), .int (nI T), .ref e1, .ref e2, .ref e3, .int (nI dn), .ref e4, .ref e5, .ref e6, .ref e7, .ref e8, .int (nI me), .int (nI du), .int (nI fi), .int (nI ls0), .ref e9, .ref e10, .ref e11, .ref e12])), (e9, .inl (cI, 16, .inl (qS w))), (e10, .inl (cZ, 16, .inl (qZ z))), (e11, .inl (cI, 20, .inl (qS (qg_f (qg_J (qg_M0 (fun c => qw_X n (qd_d z pl n c)) (qk_R n z w) (qd_c z n)) v))))), (e12, .inl (cI, 4, .inl (qN (qd_d z pl n))))]) [0, 1, 2, 3, 4] (by decide) rfl
              have hKc := hK.sub (tys' := [(cI, .int), (cZ, .boolean)]) [0, 1] rfl
              have hFc := va_free (wc := [(h0, .inr (5, [.int (nI k0), .int (nI T), .ref e1, .ref e2, .ref e3, .int (nI dn), .ref e4, .ref e5, .ref e6, .ref e7, .ref e8, .int (nI me), .int (nI du), .int (nI fi), .int (nI ls0), .ref e9, .ref e10, .ref e11, .ref e12])), (e9, .inl (cI, 16, .inl (qS w))), (e10, .inl (cZ, 16, .inl (qZ z))), (e11, .inl (cI, 20, .inl (qS (qg_f (qg_J (qg_M0 (fun c => qw_X n (qd_d z pl n c)) (qk_R n z w) (qd_c z n)) v))))), (e12, .inl (cI, 4, .inl (qN (qd_d z pl n))))]) hD hS hA [0, 1, 2, 3, 4] rfl
              refine va_callv (va_runV (As := [.int (nI v)]) (rest := []) ⟨hx, hb, hml, hown, hts⟩ (qc_clear l dC dI cI cZ h0 k0 T dn me du fi ls0 e1 e2 e3 e4 e5 e6 e7 e8 e9 e10 e11 e12 w z (qg_J (qg_M0 (fun c => qw_X n (qd_d z pl n c)) (qk_R n z w) (qd_c z n)) v) (qd_d z pl n) v H.size (by omega)) (cwV 1 hts gX6_fill_X6_clear rfl rfl rfl (by decide +kernel) ⟨Nat.le_of_ble_eq_true rfl, Nat.le_of_ble_eq_true rfl⟩) ⟨fun a U g mk q => by obtain ⟨q0, q1, qP, qK, qD⟩ := q; exact ⟨q0, q1, qP, va_K.moved (u := U) (U := U.calling g mk a) (Vm.Alike.refl U.vm) qK, qD⟩, (va_recv (q0 := 0) (ci := 5) hK hP rfl rfl), fun U hU hW => ⟨rfl, by rw [hU], by rw [hU]; exact hPc, va_K.moved hW.alike hKc, hDc.weaken (fun _ _ _ _ => trivial)⟩⟩ rfl rfl hl.1 rfl (lv_room (Nat.le_of_ble_eq_true rfl)) dX6_fill_170 ⟨Nat.le_of_ble_eq_true rfl, Nat.le_of_ble_eq_true rfl⟩) hS (fun q _ h => hFc q h) hFc (fun u t H1 locs ht hvm hr170 hB hz1 hk1 hS => ?_)
              obtain ⟨hP1, hK1, hD1⟩ := hB
              rw [ht] at hP1
              have hP1 : va_P (dC, dI) vwCl [(h0, .inr (5, [.int (nI k0), .int (nI T), .ref e1, .ref e2, .ref e3, .int (nI dn), .ref e4, .ref e5, .ref e6, .ref e7, .ref e8, .int (nI me), .int (nI du), .int (nI fi), .int (nI ls0), .ref e9, .ref e10, .ref e11, .ref e12])), (e9, .inl (cI, 16, .inl (qS w))), (e10, .inl (cZ, 16, .inl (qZ z))), (e11, .inl (cI, 20, .inl (qS (qg_f (qg_clear (qg_J (qg_M0 (fun c => qw_X n (qd_d z pl n c)) (qk_R n z w) (qd_c z n)) v) v))))), (e12, .inl (cI, 4, .inl (qN (qd_d z pl n))))] H1 := hP1
              have hD1 : va_D _ [(h0, .inr (5, [.int (nI k0), .int (nI T), .ref e1, .ref e2, .ref e3, .int (nI dn), .ref e4, .ref e5, .ref e6, .ref e7, .ref e8, .int (nI me), .int (nI du), .int (nI fi), .int (nI ls0), .ref e9, .ref e10, .ref e11, .ref e12])), (e9, .inl (cI, 16, .inl (qS w))), (e10, .inl (cZ, 16, .inl (qZ z))), (e11, .inl (cI, 20, .inl (qS (qg_f (qg_clear (qg_J (qg_M0 (fun c => qw_X n (qd_d z pl n c)) (qk_R n z w) (qd_c z n)) v) v))))), (e12, .inl (cI, 4, .inl (qN (qd_d z pl n))))] := hD1
              obtain ⟨hP, hD⟩ := va_join (wr := []) (w1 := [(h0, .inr (5, [.int (nI k0), .int (nI T), .ref e1, .ref e2, .ref e3, .int (nI dn), .ref e4, .ref e5, .ref e6, .ref e7, .ref e8, .int (nI me), .int (nI du), .int (nI fi), .int (nI ls0), .ref e9, .ref e10, .ref e11, .ref e12])), (e9, .inl (cI, 16, .inl (qS w))), (e10, .inl (cZ, 16, .inl (qZ z))), (e11, .inl (cI, 20, .inl (qS (qg_f (qg_clear (qg_J (qg_M0 (fun c => qw_X n (qd_d z pl n c)) (qk_R n z w) (qd_c z n)) v) v))))), (e12, .inl (cI, 4, .inl (qN (qd_d z pl n))))]) hP hD [0, 1, 2, 3, 4] [] rfl rfl (by decide) (by decide) hk1 hFc hP1 hD1
              have hP := hP.sub (ws' := [(h0, .inr (5, [.int (nI k0), .int (nI T), .ref e1, .ref e2, .ref e3, .int (nI dn), .ref e4, .ref e5, .ref e6, .ref e7, .ref e8, .int (nI me), .int (nI du), .int (nI fi), .int (nI ls0), .ref e9, .ref e10, .ref e11, .ref e12])), (e9, .inl (cI, 16, .inl (qS w))), (e10, .inl (cZ, 16, .inl (qZ z))), (e11, .inl (cI, 20, .inl (qS (qg_f (qg_clear (qg_J (qg_M0 (fun c => qw_X n (qd_d z pl n c)) (qk_R n z w) (qd_c z n)) v) v))))), (e12, .inl (cI, 4, .inl (qN (qd_d z pl n))))]) [0, 1, 2, 3, 4] rfl
              have hD := hD.sub (ws' := [(h0, .inr (5, [.int (nI k0), .int (nI T), .ref e1, .ref e2, .ref e3, .int (nI dn), .ref e4, .ref e5, .ref e6, .ref e7, .ref e8, .int (nI me), .int (nI du), .int (nI fi), .int (nI ls0), .ref e9, .ref e10, .ref e11, .ref e12])), (e9, .inl (cI, 16, .inl (qS w))), (e10, .inl (cZ, 16, .inl (qZ z))), (e11, .inl (cI, 20, .inl (qS (qg_f (qg_clear (qg_J (qg_M0 (fun c => qw_X n (qd_d z pl n c)) (qk_R n z w) (qd_c z n)) v) v))))), (e12, .inl (cI, 4, .inl (qN (qd_d z pl n))))]) [0, 1, 2, 3, 4] (by decide) rfl
              generalize H1 = H at hP hS ⊢
              have hP : va_P (dC, dI) vwCl [(h0, .inr (5, [.int (nI k0), .int (nI T), .ref e1, .ref e2, .ref e3, .int (nI dn), .ref e4, .ref e5, .ref e6, .ref e7, .ref e8, .int (nI me), .int (nI du), .int (nI fi), .int (nI ls0), .ref e9, .ref e10, .ref e11, .ref e12])), (e9, .inl (cI, 16, .inl (qS w))), (e10, .inl (cZ, 16, .inl (qZ z))), (e11, .inl (cI, 20, .inl (qS (qg_f (qg_clear (qg_J (qg_M0 (fun c => qw_X n (qd_d z pl n c)) (qk_R n z w) (qd_c z n)) v) v))))), (e12, .inl (cI, 4, .inl (qN (qd_d z pl n))))] H := hP
              have hD : va_D A [(h0, .inr (5, [.int (nI k0), .int (nI T), .ref e1, .ref e2, .ref e3, .int (nI dn), .ref e4, .ref e5, .ref e6, .ref e7, .ref e8, .int (nI me), .int (nI du), .int (nI fi), .int (nI ls0), .ref e9, .ref e10, .ref e11, .ref e12])), (e9, .inl (cI, 16, .inl (qS w))), (e10, .inl (cZ, 16, .inl (qZ z))), (e11, .inl (cI, 20, .inl (qS (qg_f (qg_clear (qg_J (qg_M0 (fun c => qw_X n (qd_d z pl n c)) (qk_R n z w) (qd_c z n)) v) v))))), (e12, .inl (cI, 4, .inl (qN (qd_d z pl n))))] := hD
              refine lv_iinc (k := 3) (v := nI (v + 1)) (lv' := [(3, .int (nI (v + 1))), (0, .ref h0), (1, .int (nI n)), (2, .int (nI (qd_c z n)))]) hx hb dX6_fill_173 hl rfl (qr_inc _) (by decide) rfl (fun ls hl => ?_)
              refine lv_goto (tgt := 163) hx hb dX6_fill_176 rfl ?_
              have hl := lv_sub (l' := [(0, .ref h0), (1, .int (nI n)), (2, .int (nI (qd_c z n))), (3, .int (nI (v + 1)))]) hl [1, 2, 3, 0] rfl
              have e2 : qg_J (qg_M0 (fun c => qw_X n (qd_d z pl n c)) (qk_R n z w) (qd_c z n)) (v + 1) = qg_clear (qg_J (qg_M0 (fun c => qw_X n (qd_d z pl n c)) (qk_R n z w) (qd_c z n)) v) v := by first | rfl | (simp only [cond_true, cond_false])
              have e3 : qd_d z pl n = (qd_d z pl n) := by first | rfl | (simp only [cond_true, cond_false])
              exact ih (v + 1) (by omega)  ls H _ (by exact hl) (by rw [e2, e3]; exact hP) (by rw [e2, e3]; exact hD) hS 
          have hl := lv_sub (l' := [(0, .ref h0), (1, .int (nI n)), (2, .int (nI (qd_c z n))), (3, .int (nI 0))]) hl [1, 2, 3, 0] rfl
          exact lp163 (qd_c z n) 0 (by omega)  ls H _ hl hP hD hS 
        | succ j ih =>
          intro k hk  ls H locs hl hP hD hS
          have lk : k < 4 := by omega
          refine lv_iload_n hx hb dX6_fill_36 rfl (lv_at hl 3 rfl) ?_
          refine lv_iconst (v := nI 4) hx hb dX6_fill_37 (by decide) ?_
          refine qr_ge (tgt := 161) hx hb dX6_fill_38 rfl (by omega) (by omega) (fun h => absurd h (by omega)) (fun b38 => ?_)
          refine lv_iconst (v := sI 0#8) hx hb dX6_fill_41 (by decide) ?_
          refine lv_istore (lv' := [(4, .int (sI 0#8)), (0, .ref h0), (1, .int (nI n)), (2, .int (nI (qd_c z n))), (3, .int (nI k))]) hx hb dX6_fill_42 hl (by decide) rfl (fun ls hl => ?_)
          refine lv_iconst (v := nI 0) hx hb dX6_fill_44 (by decide) ?_
          refine lv_istore (lv' := [(5, .int (nI 0)), (4, .int (sI 0#8)), (0, .ref h0), (1, .int (nI n)), (2, .int (nI (qd_c z n))), (3, .int (nI k))]) hx hb dX6_fill_45 hl (by decide) rfl (fun ls hl => ?_)
          have lp47 : ∀ (j2 i : Nat), i + j2 = n → ∀  (ls : Array Slot) (H : Heap) (locs : List Loc), lv_has ls 6 [(0, .ref h0), (1, .int (nI n)), (2, .int (nI (qd_c z n))), (3, .int (nI k)), (4, .int (sI (qw_h (qf_E k) (fun i => bif z i then 0#8 else w i) i))), (5, .int (nI i))] → va_P (dC, dI) vwCl [(h0, .inr (5, [.int (nI k0), .int (nI T), .ref e1, .ref e2, .ref e3, .int (nI dn), .ref e4, .ref e5, .ref e6, .ref e7, .ref e8, .int (nI me), .int (nI du), .int (nI fi), .int (nI ls0), .ref e9, .ref e10, .ref e11, .ref e12])), (e9, .inl (cI, 16, .inl (qS w))), (e10, .inl (cZ, 16, .inl (qZ z))), (e11, .inl (cI, 20, .inl (qS (qg_f (qm_ro M (qm_F0 n (qd_c z n) (qd_d z pl n)) (qk_R n z w) k))))), (e12, .inl (cI, 4, .inl (qN (qd_d z pl n))))] H → va_D A [(h0, .inr (5, [.int (nI k0), .int (nI T), .ref e1, .ref e2, .ref e3, .int (nI dn), .ref e4, .ref e5, .ref e6, .ref e7, .ref e8, .int (nI me), .int (nI du), .int (nI fi), .int (nI ls0), .ref e9, .ref e10, .ref e11, .ref e12])), (e9, .inl (cI, 16, .inl (qS w))), (e10, .inl (cZ, 16, .inl (qZ z))), (e11, .inl (cI, 20, .inl (qS (qg_f (qm_ro M (qm_F0 n (qd_c z n) (qd_d z pl n)) (qk_R n z w) k))))), (e12, .inl (cI, 4, .inl (qN (qd_d z pl n))))] → va_S A s.heap H locs → W p l e (headSpec wsX6_fill ({ frames := 3, cells := 0, slots := 0, locals := 72 } : Room)).room s m ([.ref h0, .int (nI n)] : List Value).toArray below meth c H locs 0 0 Q (F0 m 47 ls []) := by
            intro j2
            induction j2 with
            | zero =>
              intro i hi  ls H locs hl hP hD hS
              have e9 : n = i := by omega
              subst e9
              refine lv_iload hx hb dX6_fill_47 (lv_at hl 5 rfl) ?_
              refine lv_iload_n hx hb dX6_fill_49 rfl (lv_at hl 1 rfl) ?_
              refine qr_ge (tgt := 91) hx hb dX6_fill_50 rfl (by omega) (by omega) (fun b50 => ?_) (fun h => absurd h (by omega))
              refine lv_iconst (v := nI 0) hx hb dX6_fill_91 (by decide) ?_
              refine lv_istore (lv' := [(5, .int (nI 0)), (0, .ref h0), (1, .int (nI n)), (2, .int (nI (qd_c z n))), (3, .int (nI k)), (4, .int (sI (qw_h (qf_E k) (fun i => bif z i then 0#8 else w i) n)))]) hx hb dX6_fill_92 hl (by decide) rfl (fun ls hl => ?_)
              have lp94 : ∀ (j2 v : Nat), v + j2 = 4 → ∀  (ls : Array Slot) (H : Heap) (locs : List Loc), lv_has ls 6 [(0, .ref h0), (1, .int (nI n)), (2, .int (nI (qd_c z n))), (3, .int (nI k)), (4, .int (sI (qw_h (qf_E k) (fun i => bif z i then 0#8 else w i) n))), (5, .int (nI v))] → va_P (dC, dI) vwCl [(h0, .inr (5, [.int (nI k0), .int (nI T), .ref e1, .ref e2, .ref e3, .int (nI dn), .ref e4, .ref e5, .ref e6, .ref e7, .ref e8, .int (nI me), .int (nI du), .int (nI fi), .int (nI ls0), .ref e9, .ref e10, .ref e11, .ref e12])), (e9, .inl (cI, 16, .inl (qS w))), (e10, .inl (cZ, 16, .inl (qZ z))), (e11, .inl (cI, 20, .inl (qS (qg_f (qm_rc (qm_ro M (qm_F0 n (qd_c z n) (qd_d z pl n)) (qk_R n z w) k) k ((qm_F0 n (qd_c z n) (qd_d z pl n)) k) v))))), (e12, .inl (cI, 4, .inl (qN (qd_d z pl n))))] H → va_D A [(h0, .inr (5, [.int (nI k0), .int (nI T), .ref e1, .ref e2, .ref e3, .int (nI dn), .ref e4, .ref e5, .ref e6, .ref e7, .ref e8, .int (nI me), .int (nI du), .int (nI fi), .int (nI ls0), .ref e9, .ref e10, .ref e11, .ref e12])), (e9, .inl (cI, 16, .inl (qS w))), (e10, .inl (cZ, 16, .inl (qZ z))), (e11, .inl (cI, 20, .inl (qS (qg_f (qm_rc (qm_ro M (qm_F0 n (qd_c z n) (qd_d z pl n)) (qk_R n z w) k) k ((qm_F0 n (qd_c z n) (qd_d z pl n)) k) v))))), (e12, .inl (cI, 4, .inl (qN (qd_d z pl n))))] → va_S A s.heap H locs → W p l e (headSpec wsX6_fill ({ frames := 3, cells := 0, slots := 0, locals := 72 } : Room)).room s m ([.ref h0, .int (nI n)] : List Value).toArray below meth c H locs 0 0 Q (F0 m 94 ls []) := by
                intro j2
                induction j2 with
                | zero =>
                  intro v hv  ls H locs hl hP hD hS
                  have e9 : 4 = v := by omega
                  subst e9
                  refine lv_iload hx hb dX6_fill_94 (lv_at hl 5 rfl) ?_
                  refine lv_iconst (v := nI 4) hx hb dX6_fill_96 (by decide) ?_
                  refine qr_ge (tgt := 143) hx hb dX6_fill_97 rfl (by omega) (by omega) (fun b97 => ?_) (fun h => absurd h (by omega))
                  refine lv_aload_n hx hb dX6_fill_143 rfl (lv_at hl 0 rfl) ?_
                  refine va_get (D := (dC, dI)) (ci := 5) (v := .ref e11) (C := RX6) (T := TX6) (N := 19) hx hb hts i_X6 hown hK hP 0 rfl rfl 17 (by decide) k_41 (fun _ h9 => h9) rfl dX6_fill_144 ?_
                  refine lv_iconst (v := nI 5) hx hb dX6_fill_147 (by decide) ?_
                  refine lv_iload_n hx hb dX6_fill_148 rfl (lv_at hl 3 rfl) ?_
                  refine qr_imul (z := nI (5 * k)) hx hb dX6_fill_149 (pk_mul _ _) ?_
                  refine lv_iconst (v := nI 4) hx hb dX6_fill_150 (by decide) ?_
                  refine qr_iadd (z := nI ((5 * k) + 4)) hx hb dX6_fill_151 (nI_add _ _) ?_
                  refine lv_iload hx hb dX6_fill_152 (lv_at hl 4 rfl) ?_
                  refine qr_istG (x := qw_h (qf_E k) (fun i => bif z i then 0#8 else w i) n) hx hb hK hP hD hS 3 0 rfl rfl (by omega) (by omega) dX6_fill_154 (fun H locs hP hD hS => ?_)
                  have hP : va_P (dC, dI) vwCl [(h0, .inr (5, [.int (nI k0), .int (nI T), .ref e1, .ref e2, .ref e3, .int (nI dn), .ref e4, .ref e5, .ref e6, .ref e7, .ref e8, .int (nI me), .int (nI du), .int (nI fi), .int (nI ls0), .ref e9, .ref e10, .ref e11, .ref e12])), (e9, .inl (cI, 16, .inl (qS w))), (e10, .inl (cZ, 16, .inl (qZ z))), (e11, .inl (cI, 20, .inl (qS (qg_f (qg_up (qm_rc (qm_ro M (qm_F0 n (qd_c z n) (qd_d z pl n)) (qk_R n z w) k) k ((qm_F0 n (qd_c z n) (qd_d z pl n)) k) 4) k 4 (qw_h (qf_E k) (fun i => bif z i then 0#8 else w i) n)))))), (e12, .inl (cI, 4, .inl (qN (qd_d z pl n))))] H := hP
                  have hD : va_D A [(h0, .inr (5, [.int (nI k0), .int (nI T), .ref e1, .ref e2, .ref e3, .int (nI dn), .ref e4, .ref e5, .ref e6, .ref e7, .ref e8, .int (nI me), .int (nI du), .int (nI fi), .int (nI ls0), .ref e9, .ref e10, .ref e11, .ref e12])), (e9, .inl (cI, 16, .inl (qS w))), (e10, .inl (cZ, 16, .inl (qZ z))), (e11, .inl (cI, 20, .inl (qS (qg_f (qg_up (qm_rc (qm_ro M (qm_F0 n (qd_c z n) (qd_d z pl n)) (qk_R n z w) k) k ((qm_F0 n (qd_c z n) (qd_d z pl n)) k) 4) k 4 (qw_h (qf_E k) (fun i => bif z i then 0#8 else w i) n)))))), (e12, .inl (cI, 4, .inl (qN (qd_d z pl n))))] := hD
                  refine lv_iinc (k := 3) (v := nI (k + 1)) (lv' := [(3, .int (nI (k + 1))), (0, .ref h0), (1, .int (nI n)), (2, .int (nI (qd_c z n))), (4, .int (sI (qw_h (qf_E k) (fun i => bif z i then 0#8 else w i) n))), (5, .int (nI 4))]) hx hb dX6_fill_155 hl rfl (qr_inc _) (by decide) rfl (fun ls hl => ?_)
                  refine lv_goto (tgt := 36) hx hb dX6_fill_158 rfl ?_
                  have hl := lv_sub (l' := [(0, .ref h0), (1, .int (nI n)), (2, .int (nI (qd_c z n))), (3, .int (nI (k + 1)))]) hl [1, 2, 3, 0] rfl
                  have e4 : qm_ro M (qm_F0 n (qd_c z n) (qd_d z pl n)) (qk_R n z w) (k + 1) = qg_up (qm_rc (qm_ro M (qm_F0 n (qd_c z n) (qd_d z pl n)) (qk_R n z w) k) k ((qm_F0 n (qd_c z n) (qd_d z pl n)) k) 4) k 4 (qw_h (qf_E k) (fun i => bif z i then 0#8 else w i) n) := by first | rfl | (simp only [cond_true, cond_false])
                  exact ih (k + 1) (by omega)  ls H _ (by exact hl) (by rw [e4]; exact hP) (by rw [e4]; exact hD) hS 
                | succ j2 ih =>
                  intro v hv  ls H locs hl hP hD hS
                  have lv : v < 4 := by omega
                  refine lv_iload hx hb dX6_fill_94 (lv_at hl 5 rfl) ?_
                  refine lv_iconst (v := nI 4) hx hb dX6_fill_96 (by decide) ?_
                  refine qr_ge (tgt := 143) hx hb dX6_fill_97 rfl (by omega) (by omega) (fun h => absurd h (by omega)) (fun b97 => ?_)
                  refine lv_aload_n hx hb dX6_fill_100 rfl (lv_at hl 0 rfl) ?_
                  refine va_get (D := (dC, dI)) (ci := 5) (v := .ref e11) (C := RX6) (T := TX6) (N := 19) hx hb hts i_X6 hown hK hP 0 rfl rfl 17 (by decide) k_41 (fun _ h9 => h9) rfl dX6_fill_101 ?_
                  refine lv_iconst (v := nI 5) hx hb dX6_fill_104 (by decide) ?_
                  refine lv_iload_n hx hb dX6_fill_105 rfl (lv_at hl 3 rfl) ?_
                  refine qr_imul (z := nI (5 * k)) hx hb dX6_fill_106 (pk_mul _ _) ?_
                  refine lv_iload hx hb dX6_fill_107 (lv_at hl 5 rfl) ?_
                  refine qr_iadd (z := nI ((5 * k) + v)) hx hb dX6_fill_109 (nI_add _ _) ?_
                  refine lv_iload hx hb dX6_fill_110 (lv_at hl 5 rfl) ?_
                  refine lv_iload_n hx hb dX6_fill_112 rfl (lv_at hl 2 rfl) ?_
                  refine qr_ge (tgt := 135) hx hb dX6_fill_113 rfl (by omega) (by omega) (fun b113 => ?_) (fun b113 => ?_)
                  · refine lv_iconst (v := sI 0#8) hx hb dX6_fill_135 (by decide) ?_
                    refine qr_istG (x := 0#8) hx hb hK hP hD hS 3 0 rfl rfl (by omega) (by omega) dX6_fill_136 (fun H locs hP hD hS => ?_)
                    have hP : va_P (dC, dI) vwCl [(h0, .inr (5, [.int (nI k0), .int (nI T), .ref e1, .ref e2, .ref e3, .int (nI dn), .ref e4, .ref e5, .ref e6, .ref e7, .ref e8, .int (nI me), .int (nI du), .int (nI fi), .int (nI ls0), .ref e9, .ref e10, .ref e11, .ref e12])), (e9, .inl (cI, 16, .inl (qS w))), (e10, .inl (cZ, 16, .inl (qZ z))), (e11, .inl (cI, 20, .inl (qS (qg_f (qg_up (qm_rc (qm_ro M (qm_F0 n (qd_c z n) (qd_d z pl n)) (qk_R n z w) k) k ((qm_F0 n (qd_c z n) (qd_d z pl n)) k) v) k v 0#8))))), (e12, .inl (cI, 4, .inl (qN (qd_d z pl n))))] H := hP
                    have hD : va_D A [(h0, .inr (5, [.int (nI k0), .int (nI T), .ref e1, .ref e2, .ref e3, .int (nI dn), .ref e4, .ref e5, .ref e6, .ref e7, .ref e8, .int (nI me), .int (nI du), .int (nI fi), .int (nI ls0), .ref e9, .ref e10, .ref e11, .ref e12])), (e9, .inl (cI, 16, .inl (qS w))), (e10, .inl (cZ, 16, .inl (qZ z))), (e11, .inl (cI, 20, .inl (qS (qg_f (qg_up (qm_rc (qm_ro M (qm_F0 n (qd_c z n) (qd_d z pl n)) (qk_R n z w) k) k ((qm_F0 n (qd_c z n) (qd_d z pl n)) k) v) k v 0#8))))), (e12, .inl (cI, 4, .inl (qN (qd_d z pl n))))] := hD
                    refine lv_iinc (k := 5) (v := nI (v + 1)) (lv' := [(5, .int (nI (v + 1))), (0, .ref h0), (1, .int (nI n)), (2, .int (nI (qd_c z n))), (3, .int (nI k)), (4, .int (sI (qw_h (qf_E k) (fun i => bif z i then 0#8 else w i) n)))]) hx hb dX6_fill_137 hl rfl (qr_inc _) (by decide) rfl (fun ls hl => ?_)
                    refine lv_goto (tgt := 94) hx hb dX6_fill_140 rfl ?_
                    have hl := lv_sub (l' := [(0, .ref h0), (1, .int (nI n)), (2, .int (nI (qd_c z n))), (3, .int (nI k)), (4, .int (sI (qw_h (qf_E k) (fun i => bif z i then 0#8 else w i) n))), (5, .int (nI (v + 1)))]) hl [1, 2, 3, 4, 5, 0] rfl
                    have e5 : qm_rc (qm_ro M (qm_F0 n (qd_c z n) (qd_d z pl n)) (qk_R n z w) k) k ((qm_F0 n (qd_c z n) (qd_d z pl n)) k) (v + 1) = qg_up (qm_rc (qm_ro M (qm_F0 n (qd_c z n) (qd_d z pl n)) (qk_R n z w) k) k ((qm_F0 n (qd_c z n) (qd_d z pl n)) k) v) k v 0#8 := by rw [qm_rc, show qm_F0 n (qd_c z n) (qd_d z pl n) k v = 0#8 from if_neg (by omega)]
                    exact ih (v + 1) (by omega)  ls H _ (by exact hl) (by rw [e5]; exact hP) (by rw [e5]; exact hD) hS 
                  · refine lv_iload_n hx hb dX6_fill_116 rfl (lv_at hl 3 rfl) ?_
                    refine lv_iload_n hx hb dX6_fill_117 rfl (lv_at hl 1 rfl) ?_
                    refine lv_iconst (v := nI 1) hx hb dX6_fill_118 (by decide) ?_
                    refine qr_isub (z := nI (n - 1)) hx hb dX6_fill_119 (pk_sub (by have := (qd_d_in z pl n v (by omega)).1; omega)) ?_
                    refine lv_aload_n hx hb dX6_fill_120 rfl (lv_at hl 0 rfl) ?_
                    refine va_get (D := (dC, dI)) (ci := 5) (v := .ref e12) (C := RX6) (T := TX6) (N := 19) hx hb hts i_X6 hown hK hP 0 rfl rfl 18 (by decide) k_44 (fun _ h9 => h9) rfl dX6_fill_121 ?_
                    refine lv_iload hx hb dX6_fill_124 (lv_at hl 5 rfl) ?_
                    refine qr_ildN hx hb hK hP 4 0 rfl rfl (by omega) (by omega) dX6_fill_126 ?_
                    refine qr_isub (z := nI (n - 1 - qd_d z pl n v)) hx hb dX6_fill_127 (pk_sub (by have := (qd_d_in z pl n v (by omega)).1; omega)) ?_
                    refine qr_imul (z := nI (k * (n - 1 - qd_d z pl n v))) hx hb dX6_fill_128 (pk_mul _ _) ?_
                    refine vp_callSi (va_Run.run (va_runS (As := [.int (nI (k * (n - 1 - qd_d z pl n v)))]) (rest := [.int (nI ((5 * k) + v)), .ref e11]) ⟨hx, hb, hml, hown, hts⟩ (qc_power l (k * (n - 1 - qd_d z pl n v)) (by have := Nat.mul_le_mul (show k ≤ 3 by omega) (show n - 1 - qd_d z pl n v ≤ 15 by omega); omega)) (va_cwS 1 hts gX6_fill_X6_power rfl rfl rfl (by decide +kernel) ⟨Nat.le_of_ble_eq_true rfl, Nat.le_of_ble_eq_true rfl⟩) ⟨fun a U g mk q => q, fun U hU hW => ⟨rfl, trivial⟩⟩ rfl rfl hl.1 rfl (lv_room (Nat.le_of_ble_eq_true rfl)) dX6_fill_129 ⟨Nat.le_of_ble_eq_true rfl, Nat.le_of_ble_eq_true rfl⟩)) (fun r129 hr129 => ?_)
                    have hr129 : r129 = sI (qf_E (k * (n - 1 - qd_d z pl n v))) := hr129
                    subst hr129
                    refine lv_goto (tgt := 136) hx hb dX6_fill_132 rfl ?_
                    refine qr_istG (x := qf_E (k * (n - 1 - qd_d z pl n v))) hx hb hK hP hD hS 3 0 rfl rfl (by omega) (by omega) dX6_fill_136 (fun H locs hP hD hS => ?_)
                    have hP : va_P (dC, dI) vwCl [(h0, .inr (5, [.int (nI k0), .int (nI T), .ref e1, .ref e2, .ref e3, .int (nI dn), .ref e4, .ref e5, .ref e6, .ref e7, .ref e8, .int (nI me), .int (nI du), .int (nI fi), .int (nI ls0), .ref e9, .ref e10, .ref e11, .ref e12])), (e9, .inl (cI, 16, .inl (qS w))), (e10, .inl (cZ, 16, .inl (qZ z))), (e11, .inl (cI, 20, .inl (qS (qg_f (qg_up (qm_rc (qm_ro M (qm_F0 n (qd_c z n) (qd_d z pl n)) (qk_R n z w) k) k ((qm_F0 n (qd_c z n) (qd_d z pl n)) k) v) k v (qf_E (k * (n - 1 - qd_d z pl n v)))))))), (e12, .inl (cI, 4, .inl (qN (qd_d z pl n))))] H := hP
                    have hD : va_D A [(h0, .inr (5, [.int (nI k0), .int (nI T), .ref e1, .ref e2, .ref e3, .int (nI dn), .ref e4, .ref e5, .ref e6, .ref e7, .ref e8, .int (nI me), .int (nI du), .int (nI fi), .int (nI ls0), .ref e9, .ref e10, .ref e11, .ref e12])), (e9, .inl (cI, 16, .inl (qS w))), (e10, .inl (cZ, 16, .inl (qZ z))), (e11, .inl (cI, 20, .inl (qS (qg_f (qg_up (qm_rc (qm_ro M (qm_F0 n (qd_c z n) (qd_d z pl n)) (qk_R n z w) k) k ((qm_F0 n (qd_c z n) (qd_d z pl n)) k) v) k v (qf_E (k * (n - 1 - qd_d z pl n v)))))))), (e12, .inl (cI, 4, .inl (qN (qd_d z pl n))))] := hD
                    refine lv_iinc (k := 5) (v := nI (v + 1)) (lv' := [(5, .int (nI (v + 1))), (0, .ref h0), (1, .int (nI n)), (2, .int (nI (qd_c z n))), (3, .int (nI k)), (4, .int (sI (qw_h (qf_E k) (fun i => bif z i then 0#8 else w i) n)))]) hx hb dX6_fill_137 hl rfl (qr_inc _) (by decide) rfl (fun ls hl => ?_)
                    refine lv_goto (tgt := 94) hx hb dX6_fill_140 rfl ?_
                    have hl := lv_sub (l' := [(0, .ref h0), (1, .int (nI n)), (2, .int (nI (qd_c z n))), (3, .int (nI k)), (4, .int (sI (qw_h (qf_E k) (fun i => bif z i then 0#8 else w i) n))), (5, .int (nI (v + 1)))]) hl [1, 2, 3, 4, 5, 0] rfl
                    have e6 : qm_rc (qm_ro M (qm_F0 n (qd_c z n) (qd_d z pl n)) (qk_R n z w) k) k ((qm_F0 n (qd_c z n) (qd_d z pl n)) k) (v + 1) = qg_up (qm_rc (qm_ro M (qm_F0 n (qd_c z n) (qd_d z pl n)) (qk_R n z w) k) k ((qm_F0 n (qd_c z n) (qd_d z pl n)) k) v) k v (qf_E (k * (n - 1 - qd_d z pl n v))) := by rw [qm_rc, show qm_F0 n (qd_c z n) (qd_d z pl n) k v = qf_E (k * (n - 1 - qd_d z pl n v)) from if_pos b113]
                    exact ih (v + 1) (by omega)  ls H _ (by exact hl) (by rw [e6]; exact hP) (by rw [e6]; exact hD) hS 
              have hl := lv_sub (l' := [(0, .ref h0), (1, .int (nI n)), (2, .int (nI (qd_c z n))), (3, .int (nI k)), (4, .int (sI (qw_h (qf_E k) (fun i => bif z i then 0#8 else w i) n))), (5, .int (nI 0))]) hl [1, 2, 3, 4, 5, 0] rfl
              exact lp94 4 0 (by omega)  ls H _ hl hP hD hS 
            | succ j2 ih =>
              intro i hi  ls H locs hl hP hD hS
              have li : i < n := by omega
              refine lv_iload hx hb dX6_fill_47 (lv_at hl 5 rfl) ?_
              refine lv_iload_n hx hb dX6_fill_49 rfl (lv_at hl 1 rfl) ?_
              refine qr_ge (tgt := 91) hx hb dX6_fill_50 rfl (by omega) (by omega) (fun h => absurd h (by omega)) (fun b50 => ?_)
              refine lv_iload hx hb dX6_fill_53 (lv_at hl 4 rfl) ?_
              refine lv_iconst (v := nI 1) hx hb dX6_fill_55 (by decide) ?_
              refine lv_iload_n hx hb dX6_fill_56 rfl (lv_at hl 3 rfl) ?_
              refine qr_ishl (z := sI (qf_E k)) hx hb dX6_fill_57 (qr_shE (by omega)) ?_
              refine vp_callSi (va_Run.run (va_runS (As := [.int (sI (qw_h (qf_E k) (fun i => bif z i then 0#8 else w i) i)), .int (sI (qf_E k))]) (rest := []) ⟨hx, hb, hml, hown, hts⟩ (qc_mtimes l (qw_h (qf_E k) (fun i => bif z i then 0#8 else w i) i) (qf_E k) ) (va_cwS 2 hts gX6_fill_X6_times rfl rfl rfl (by decide +kernel) ⟨Nat.le_of_ble_eq_true rfl, Nat.le_of_ble_eq_true rfl⟩) ⟨fun a U g mk q => q, fun U hU hW => ⟨rfl, trivial⟩⟩ rfl rfl hl.1 rfl (lv_room (Nat.le_of_ble_eq_true rfl)) dX6_fill_58 ⟨Nat.le_of_ble_eq_true rfl, Nat.le_of_ble_eq_true rfl⟩)) (fun r58 hr58 => ?_)
              have hr58 : r58 = sI (qf_m (qw_h (qf_E k) (fun i => bif z i then 0#8 else w i) i) (qf_E k)) := hr58
              subst hr58
              refine lv_aload_n hx hb dX6_fill_61 rfl (lv_at hl 0 rfl) ?_
              refine va_get (D := (dC, dI)) (ci := 5) (v := .ref e10) (C := RX6) (T := TX6) (N := 19) hx hb hts i_X6 hown hK hP 0 rfl rfl 16 (by decide) k_38 (fun _ h9 => h9) rfl dX6_fill_62 ?_
              refine lv_iload hx hb dX6_fill_65 (lv_at hl 5 rfl) ?_
              refine qr_zld hx hb hK hP 2 1 rfl rfl (by omega) (by omega) dX6_fill_67 ?_
              refine qr_ifeqZ (tgt := 75) hx hb dX6_fill_68 rfl  (fun b68 => ?_) (fun b68 => ?_)
              · refine lv_aload_n hx hb dX6_fill_75 rfl (lv_at hl 0 rfl) ?_
                refine va_get (D := (dC, dI)) (ci := 5) (v := .ref e9) (C := RX6) (T := TX6) (N := 19) hx hb hts i_X6 hown hK hP 0 rfl rfl 15 (by decide) k_35 (fun _ h9 => h9) rfl dX6_fill_76 ?_
                refine lv_iload hx hb dX6_fill_79 (lv_at hl 5 rfl) ?_
                refine qr_ildS hx hb hK hP 1 0 rfl rfl (by omega) (by omega) dX6_fill_81 ?_
                refine qr_ixor (z := sI ((qf_m (qw_h (qf_E k) (fun i => bif z i then 0#8 else w i) i) (qf_E k)) ^^^ (w i))) hx hb dX6_fill_82 (sI_xor _ _) ?_
                refine lv_istore (lv' := [(4, .int (sI ((qf_m (qw_h (qf_E k) (fun i => bif z i then 0#8 else w i) i) (qf_E k)) ^^^ (w i)))), (0, .ref h0), (1, .int (nI n)), (2, .int (nI (qd_c z n))), (3, .int (nI k)), (5, .int (nI i))]) hx hb dX6_fill_83 hl (by decide) rfl (fun ls hl => ?_)
                refine lv_iinc (k := 5) (v := nI (i + 1)) (lv' := [(5, .int (nI (i + 1))), (4, .int (sI ((qf_m (qw_h (qf_E k) (fun i => bif z i then 0#8 else w i) i) (qf_E k)) ^^^ (w i)))), (0, .ref h0), (1, .int (nI n)), (2, .int (nI (qd_c z n))), (3, .int (nI k))]) hx hb dX6_fill_85 hl rfl (qr_inc _) (by decide) rfl (fun ls hl => ?_)
                refine lv_goto (tgt := 47) hx hb dX6_fill_88 rfl ?_
                have hl := lv_sub (l' := [(0, .ref h0), (1, .int (nI n)), (2, .int (nI (qd_c z n))), (3, .int (nI k)), (4, .int (sI ((qf_m (qw_h (qf_E k) (fun i => bif z i then 0#8 else w i) i) (qf_E k)) ^^^ (w i)))), (5, .int (nI (i + 1)))]) hl [2, 3, 4, 5, 1, 0] rfl
                have e7 : qw_h (qf_E k) (fun i => bif z i then 0#8 else w i) (i + 1) = (qf_m (qw_h (qf_E k) (fun i => bif z i then 0#8 else w i) i) (qf_E k)) ^^^ (w i) := by simp only [qw_h, b68, cond_true, cond_false]
                exact ih (i + 1) (by omega)  ls H _ (by rw [e7]; exact hl) (by exact hP) (by exact hD) hS 
              · refine lv_iconst (v := sI 0#8) hx hb dX6_fill_71 (by decide) ?_
                refine lv_goto (tgt := 82) hx hb dX6_fill_72 rfl ?_
                refine qr_ixor (z := sI ((qf_m (qw_h (qf_E k) (fun i => bif z i then 0#8 else w i) i) (qf_E k)) ^^^ 0#8)) hx hb dX6_fill_82 (sI_xor _ _) ?_
                refine lv_istore (lv' := [(4, .int (sI ((qf_m (qw_h (qf_E k) (fun i => bif z i then 0#8 else w i) i) (qf_E k)) ^^^ 0#8))), (0, .ref h0), (1, .int (nI n)), (2, .int (nI (qd_c z n))), (3, .int (nI k)), (5, .int (nI i))]) hx hb dX6_fill_83 hl (by decide) rfl (fun ls hl => ?_)
                refine lv_iinc (k := 5) (v := nI (i + 1)) (lv' := [(5, .int (nI (i + 1))), (4, .int (sI ((qf_m (qw_h (qf_E k) (fun i => bif z i then 0#8 else w i) i) (qf_E k)) ^^^ 0#8))), (0, .ref h0), (1, .int (nI n)), (2, .int (nI (qd_c z n))), (3, .int (nI k))]) hx hb dX6_fill_85 hl rfl (qr_inc _) (by decide) rfl (fun ls hl => ?_)
                refine lv_goto (tgt := 47) hx hb dX6_fill_88 rfl ?_
                have hl := lv_sub (l' := [(0, .ref h0), (1, .int (nI n)), (2, .int (nI (qd_c z n))), (3, .int (nI k)), (4, .int (sI ((qf_m (qw_h (qf_E k) (fun i => bif z i then 0#8 else w i) i) (qf_E k)) ^^^ 0#8))), (5, .int (nI (i + 1)))]) hl [2, 3, 4, 5, 1, 0] rfl
                have e8 : qw_h (qf_E k) (fun i => bif z i then 0#8 else w i) (i + 1) = (qf_m (qw_h (qf_E k) (fun i => bif z i then 0#8 else w i) i) (qf_E k)) ^^^ 0#8 := by simp only [qw_h, b68, cond_true, cond_false]
                exact ih (i + 1) (by omega)  ls H _ (by rw [e8]; exact hl) (by exact hP) (by exact hD) hS 
          have hl := lv_sub (l' := [(0, .ref h0), (1, .int (nI n)), (2, .int (nI (qd_c z n))), (3, .int (nI k)), (4, .int (sI 0#8)), (5, .int (nI 0))]) hl [2, 3, 4, 5, 1, 0] rfl
          exact lp47 n 0 (by omega)  ls H _ hl hP hD hS 
      have hl := lv_sub (l' := [(0, .ref h0), (1, .int (nI n)), (2, .int (nI (qd_c z n))), (3, .int (nI 0))]) hl [1, 2, 3, 0] rfl
      exact lp36 4 0 (by omega)  ls H _ hl hP hD hS 
    | succ j ih =>
      intro i hi  ls H locs hl hP hD hS
      have li : i < n := by omega
      have hq9 := qd_c_le z i
      refine lv_iload_n hx hb dX6_fill_4 rfl (lv_at hl 3 rfl) ?_
      refine lv_iload_n hx hb dX6_fill_5 rfl (lv_at hl 1 rfl) ?_
      refine qr_ge (tgt := 34) hx hb dX6_fill_6 rfl (by omega) (by omega) (fun h => absurd h (by omega)) (fun b6 => ?_)
      refine lv_aload_n hx hb dX6_fill_9 rfl (lv_at hl 0 rfl) ?_
      refine va_get (D := (dC, dI)) (ci := 5) (v := .ref e10) (C := RX6) (T := TX6) (N := 19) hx hb hts i_X6 hown hK hP 0 rfl rfl 16 (by decide) k_38 (fun _ h9 => h9) rfl dX6_fill_10 ?_
      refine lv_iload_n hx hb dX6_fill_13 rfl (lv_at hl 3 rfl) ?_
      refine qr_zld hx hb hK hP 2 1 rfl rfl (by omega) (by omega) dX6_fill_14 ?_
      refine qr_ifeqZ (tgt := 28) hx hb dX6_fill_15 rfl  (fun b15 => ?_) (fun b15 => ?_)
      · refine lv_iinc (k := 3) (v := nI (i + 1)) (lv' := [(3, .int (nI (i + 1))), (0, .ref h0), (1, .int (nI n)), (2, .int (nI (qd_c z i)))]) hx hb dX6_fill_28 hl rfl (qr_inc _) (by decide) rfl (fun ls hl => ?_)
        refine lv_goto (tgt := 4) hx hb dX6_fill_31 rfl ?_
        have hl := lv_sub (l' := [(0, .ref h0), (1, .int (nI n)), (2, .int (nI (qd_c z i))), (3, .int (nI (i + 1)))]) hl [1, 2, 3, 0] rfl
        have e9 : qd_c z (i + 1) = qd_c z i := by simp only [qd_c, b15, cond_true, cond_false]
        have e10 : qd_d z pl (i + 1) = qd_d z pl i := by simp only [qd_d, b15, cond_true, cond_false]
        exact ih (i + 1) (by omega)  ls H _ (by rw [e9]; exact hl) (by rw [e10]; exact hP) (by rw [e10]; exact hD) hS 
      · refine lv_aload_n hx hb dX6_fill_18 rfl (lv_at hl 0 rfl) ?_
        refine va_get (D := (dC, dI)) (ci := 5) (v := .ref e12) (C := RX6) (T := TX6) (N := 19) hx hb hts i_X6 hown hK hP 0 rfl rfl 18 (by decide) k_44 (fun _ h9 => h9) rfl dX6_fill_19 ?_
        refine lv_iload_n hx hb dX6_fill_22 rfl (lv_at hl 2 rfl) ?_
        refine lv_iload_n hx hb dX6_fill_23 rfl (lv_at hl 3 rfl) ?_
        refine qr_istN (x := i) hx hb hK hP hD hS 4 0 rfl rfl (by have := qd_c_lt z li b15; omega) (by omega) dX6_fill_24 (fun H locs hP hD hS => ?_)
        have hP : va_P (dC, dI) vwCl [(h0, .inr (5, [.int (nI k0), .int (nI T), .ref e1, .ref e2, .ref e3, .int (nI dn), .ref e4, .ref e5, .ref e6, .ref e7, .ref e8, .int (nI me), .int (nI du), .int (nI fi), .int (nI ls0), .ref e9, .ref e10, .ref e11, .ref e12])), (e9, .inl (cI, 16, .inl (qS w))), (e10, .inl (cZ, 16, .inl (qZ z))), (e11, .inl (cI, 20, .inl (qS (qg_f M)))), (e12, .inl (cI, 4, .inl (qN (va_up (qd_d z pl i) (qd_c z i) i))))] H := hP
        have hD : va_D A [(h0, .inr (5, [.int (nI k0), .int (nI T), .ref e1, .ref e2, .ref e3, .int (nI dn), .ref e4, .ref e5, .ref e6, .ref e7, .ref e8, .int (nI me), .int (nI du), .int (nI fi), .int (nI ls0), .ref e9, .ref e10, .ref e11, .ref e12])), (e9, .inl (cI, 16, .inl (qS w))), (e10, .inl (cZ, 16, .inl (qZ z))), (e11, .inl (cI, 20, .inl (qS (qg_f M)))), (e12, .inl (cI, 4, .inl (qN (va_up (qd_d z pl i) (qd_c z i) i))))] := hD
        refine lv_iinc (k := 2) (v := nI ((qd_c z i) + 1)) (lv' := [(2, .int (nI ((qd_c z i) + 1))), (0, .ref h0), (1, .int (nI n)), (3, .int (nI i))]) hx hb dX6_fill_25 hl rfl (qr_inc _) (by decide) rfl (fun ls hl => ?_)
        refine lv_iinc (k := 3) (v := nI (i + 1)) (lv' := [(3, .int (nI (i + 1))), (2, .int (nI ((qd_c z i) + 1))), (0, .ref h0), (1, .int (nI n))]) hx hb dX6_fill_28 hl rfl (qr_inc _) (by decide) rfl (fun ls hl => ?_)
        refine lv_goto (tgt := 4) hx hb dX6_fill_31 rfl ?_
        have hl := lv_sub (l' := [(0, .ref h0), (1, .int (nI n)), (2, .int (nI ((qd_c z i) + 1))), (3, .int (nI (i + 1)))]) hl [2, 3, 1, 0] rfl
        have e11 : qd_c z (i + 1) = (qd_c z i) + 1 := by simp only [qd_c, b15, cond_true, cond_false]
        have e12 : qd_d z pl (i + 1) = va_up (qd_d z pl i) (qd_c z i) i := by simp only [qd_d, b15, cond_true, cond_false]
        exact ih (i + 1) (by omega)  ls H _ (by rw [e11]; exact hl) (by rw [e12]; exact hP) (by rw [e12]; exact hD) hS 
  have hl := lv_sub (l' := [(0, .ref h0), (1, .int (nI n)), (2, .int (nI 0)), (3, .int (nI 0))]) hl [2, 3, 1, 0] rfl
  exact lp4 n 0 (by omega)  ls s.heap _ hl hP hD hS 
