set_option maxHeartbeats 4000000 in
set_option maxRecDepth 100000 in
/-- DiscCoder.rows -/
theorem qc_rows (l : Launch) (dC : Nat → ClassId) (dI : Nat → Nat → Nat) (cI cZ cG : ClassId) (x0 i0 i1 i2 i3 i4 i5 i6 i7 o0 o1 o2 o3 o4 o5 o6 o7 d0 d1 w0 w1 w2 r0 r1 r2 r3 r4 tw tr me du fi le : Nat) (ra rb : Nat → Nat) (yi : Nat → BitVec 8) (zi : Nat → Bool) (lin si : Nat → BitVec 8) (ai : Nat → Nat) (ci vi : Nat → BitVec 8) (yo : Nat → BitVec 8) (zo : Nat → Bool) (lou so : Nat → BitVec 8) (ao : Nat → Nat) (co vo : Nat → BitVec 8) (dd ob : Nat → BitVec 8) (od : Nat → Bool) (ou : Nat → BitVec 8) (lt : Nat → Bool) (IW OW : Nat → Nat → BitVec 8)  : Met l yX5_rows wsX5_rows ({ frames := 0, cells := 0, slots := 0, locals := 0 } : Room) (va_Pc [.ref x0] (fun U => va_P (dC, dI) vwCl (qW2 [(x0, .inr (4, [.ref i0, .ref d0, .ref w0, .ref r0])), (i0, .inr (2, [.int (nI 12), .ref i1, .ref i2, .ref i3, .ref i4, .ref i5, .ref i6, .ref i7])), (i1, .inl (cI, 12, .inl (qS yi))), (i2, .inl (cZ, 12, .inl (qZ zi))), (i3, .inl (cI, 12, .inl (qS lin))), (i4, .inl (cI, 4, .inl (qS si))), (i5, .inl (cI, 4, .inl (qN ai))), (i6, .inl (cI, 4, .inl (qS ci))), (i7, .inl (cI, 4, .inl (qS vi))), (o0, .inr (2, [.int (nI 16), .ref o1, .ref o2, .ref o3, .ref o4, .ref o5, .ref o6, .ref o7])), (o1, .inl (cI, 16, .inl (qS yo))), (o2, .inl (cZ, 16, .inl (qZ zo))), (o3, .inl (cI, 16, .inl (qS lou))), (o4, .inl (cI, 4, .inl (qS so))), (o5, .inl (cI, 4, .inl (qN ao))), (o6, .inl (cI, 4, .inl (qS co))), (o7, .inl (cI, 4, .inl (qS vo))), (d0, .inr (0, [.ref d1, .int (nI tw), .int (nI tr)])), (d1, .inl (cI, 768, .inl (qS dd))), (w0, .inr (3, [.ref d0, .ref i0, .ref o0, .ref w1, .ref w2])), (w1, .inl (cG, 48, .inr (.inr (.inr (.inr (fun i => some (ra i))))))), (w2, .inl (cI, 16, .inl (qS ob))), (r0, .inr (1, [.ref d0, .ref i0, .ref o0, .ref r1, .ref r2, .ref r3, .ref r4, .int (nI me), .int (nI du), .int (nI fi), .int (nI le)])), (r1, .inl (cG, 48, .inr (.inr (.inr (.inr (fun i => some (rb i))))))), (r2, .inl (cZ, 48, .inl (qZ od))), (r3, .inl (cI, 384, .inl (qS ou))), (r4, .inl (cZ, 48, .inl (qZ lt)))] (qP cI ra IW) (qP cI rb OW)) U.heap ∧ va_K (dC, dI) vwCl [(cI, .int), (cZ, .boolean), (cG, .array .int)] U ∧ qn_N U)) (vp_Si (fun r => r = nI tw)) 0 0 (fun _ => False) := by
  refine Met.ofW (cc := cX5_rows) (maxL := 1) (ret := (some .int)) (by decide) rfl ?_
  intro p e s m args below meth c s₁ B hml hv
  obtain ⟨rfl, hP, hK, hN⟩ := hv
  have hx := B.exec
  have hb := B.bytes
  have hr := B.returns
  have hts := atoms_spec (ws := wsX5_rows) B.pre
  have hown : s.vm.findClass RX5 = some m.cls := findClass_of_methodNamed B.named
  have hlocks := B.notSynchronized
  have hP : va_P (dC, dI) vwCl (qW2 [(x0, .inr (4, [.ref i0, .ref d0, .ref w0, .ref r0])), (i0, .inr (2, [.int (nI 12), .ref i1, .ref i2, .ref i3, .ref i4, .ref i5, .ref i6, .ref i7])), (i1, .inl (cI, 12, .inl (qS yi))), (i2, .inl (cZ, 12, .inl (qZ zi))), (i3, .inl (cI, 12, .inl (qS lin))), (i4, .inl (cI, 4, .inl (qS si))), (i5, .inl (cI, 4, .inl (qN ai))), (i6, .inl (cI, 4, .inl (qS ci))), (i7, .inl (cI, 4, .inl (qS vi))), (o0, .inr (2, [.int (nI 16), .ref o1, .ref o2, .ref o3, .ref o4, .ref o5, .ref o6, .ref o7])), (o1, .inl (cI, 16, .inl (qS yo))), (o2, .inl (cZ, 16, .inl (qZ zo))), (o3, .inl (cI, 16, .inl (qS lou))), (o4, .inl (cI, 4, .inl (qS so))), (o5, .inl (cI, 4, .inl (qN ao))), (o6, .inl (cI, 4, .inl (qS co))), (o7, .inl (cI, 4, .inl (qS vo))), (d0, .inr (0, [.ref d1, .int (nI tw), .int (nI tr)])), (d1, .inl (cI, 768, .inl (qS dd))), (w0, .inr (3, [.ref d0, .ref i0, .ref o0, .ref w1, .ref w2])), (w1, .inl (cG, 48, .inr (.inr (.inr (.inr (fun i => some (ra i))))))), (w2, .inl (cI, 16, .inl (qS ob))), (r0, .inr (1, [.ref d0, .ref i0, .ref o0, .ref r1, .ref r2, .ref r3, .ref r4, .int (nI me), .int (nI du), .int (nI fi), .int (nI le)])), (r1, .inl (cG, 48, .inr (.inr (.inr (.inr (fun i => some (rb i))))))), (r2, .inl (cZ, 48, .inl (qZ od))), (r3, .inl (cI, 384, .inl (qS ou))), (r4, .inl (cZ, 48, .inl (qZ lt)))] (qP cI ra IW) (qP cI rb OW)) s.heap := hP
  have hl := lv_entry ([.ref x0]) (n := 1) (Nat.le_of_ble_eq_true rfl)
  rw [lg_entry_eq]
  generalize (lg_sl ([.ref x0]) ++ List.replicate (1 - (lg_sl ([.ref x0])).length) Slot.unset).toArray = ls at hl ⊢
  have hl : lv_has ls 1 [(0, .ref x0)] := hl
  have k_21 := hts (.fieldLink RX5 21 "DiscCoder" "disc" "LDiscCoder$Disc;") (by decide +kernel)
  have i_X5 : ∀ w ∈ u_ws RX5 TX5 4, w ∈ wsX5_rows := by decide +kernel
  have i_X0 : ∀ w ∈ u_ws RX0 TX0 3, w ∈ wsX5_rows := by decide +kernel
  refine qr_nm (fun Q hQ => ?_)
  refine lv_aload_n hx hb dX5_rows_0 rfl (lv_at hl 0 rfl) ?_
  refine va_get (D := (dC, dI)) (ci := 4) (v := .ref d0) (C := RX5) (T := TX5) (N := 4) hx hb hts i_X5 hown hK hP 0 rfl rfl 1 (by decide) k_21 (fun _ h9 => h9) rfl dX5_rows_1 ?_
  refine va_getN (D := (dC, dI)) (ci := 0) (v := .int (nI tw)) (C := RX0) (T := TX0) (N := 3) hx hb hts i_X0 hown hK hP 17 rfl rfl 1 (by decide) (va_Nw.use rfl (hN (.fieldLinkNest "DiscCoder" 41 "DiscCoder$Disc" "rowsWritten" "I" "DiscCoder") (by decide +kernel))) (fun _ h9 => h9) rfl dX5_rows_4 ?_
  subst hQ
  exact W.iret hx hb hr (fun t ht hW => ⟨_, rfl, rfl, ht⟩) (fun _ h => absurd h List.not_mem_nil) dX5_rows_7
