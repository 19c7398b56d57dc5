set_option maxHeartbeats 4000000 in
set_option maxRecDepth 100000 in
/-- DiscCoder.feed throws -/
theorem qx_feed (l : Launch) (hl9 : l.stackTraces = false) (dC : Nat → ClassId) (dI : Nat → Nat → Nat) (cI cZ cG : ClassId) (x0 i0 i1 i2 i3 i4 i5 i6 i7 o0 o1 o2 o3 o4 o5 o6 o7 d0 d1 w0 w1 w2 r0 r1 r2 r3 r4 tw tr me du fi le : Nat) (ra rb : Nat → Nat) (yi : Nat → BitVec 8) (zi : Nat → Bool) (lin si : Nat → BitVec 8) (ai : Nat → Nat) (ci vi : Nat → BitVec 8) (yo : Nat → BitVec 8) (zo : Nat → Bool) (lou so : Nat → BitVec 8) (ao : Nat → Nat) (co vo : Nat → BitVec 8) (dd ob : Nat → BitVec 8) (od : Nat → Bool) (ou : Nat → BitVec 8) (lt : Nat → Bool) (IW OW : Nat → Nat → BitVec 8) (v : Int64) (sz : Nat) (htw : tw = 48) : vx_Met l yX5_feed wsX5_feed ({ frames := 6, cells := 1, slots := 6, locals := 90 } : Room) (va_Pc [.ref x0, .long v] (fun U => U.heap.size = sz ∧ va_P (dC, dI) vwCl (qW2 [(x0, .inr (4, [.ref i0, .ref d0, .ref w0, .ref r0])), (i0, .inr (2, [.int (nI 12), .ref i1, .ref i2, .ref i3, .ref i4, .ref i5, .ref i6, .ref i7])), (i1, .inl (cI, 12, .inl (qS yi))), (i2, .inl (cZ, 12, .inl (qZ zi))), (i3, .inl (cI, 12, .inl (qS lin))), (i4, .inl (cI, 4, .inl (qS si))), (i5, .inl (cI, 4, .inl (qN ai))), (i6, .inl (cI, 4, .inl (qS ci))), (i7, .inl (cI, 4, .inl (qS vi))), (o0, .inr (2, [.int (nI 16), .ref o1, .ref o2, .ref o3, .ref o4, .ref o5, .ref o6, .ref o7])), (o1, .inl (cI, 16, .inl (qS yo))), (o2, .inl (cZ, 16, .inl (qZ zo))), (o3, .inl (cI, 16, .inl (qS lou))), (o4, .inl (cI, 4, .inl (qS so))), (o5, .inl (cI, 4, .inl (qN ao))), (o6, .inl (cI, 4, .inl (qS co))), (o7, .inl (cI, 4, .inl (qS vo))), (d0, .inr (0, [.ref d1, .int (nI tw), .int (nI tr)])), (d1, .inl (cI, 768, .inl (qS dd))), (w0, .inr (3, [.ref d0, .ref i0, .ref o0, .ref w1, .ref w2])), (w1, .inl (cG, 48, .inr (.inr (.inr (.inr (fun i => some (ra i))))))), (w2, .inl (cI, 16, .inl (qS ob))), (r0, .inr (1, [.ref d0, .ref i0, .ref o0, .ref r1, .ref r2, .ref r3, .ref r4, .int (nI me), .int (nI du), .int (nI fi), .int (nI le)])), (r1, .inl (cG, 48, .inr (.inr (.inr (.inr (fun i => some (rb i))))))), (r2, .inl (cZ, 48, .inl (qZ od))), (r3, .inl (cI, 384, .inl (qS ou))), (r4, .inl (cZ, 48, .inl (qZ lt)))] (qP cI ra IW) (qP cI rb OW)) U.heap ∧ va_K (dC, dI) vwCl [(cI, .int), (cZ, .boolean), (cG, .array .int)] U ∧ qn_N U ∧ qx_P U)) (va_Qi (fun (_ : Int32) (_ : Unit) => False) (fun _ _ => True) (fun q => sz ≤ q)) (qx_X "java/lang/IllegalStateException" sz) 1 6 (fun q => sz ≤ q) := by
  refine vx_ofW (cc := cX5_feed) (maxL := 3) (ret := (some .int)) (by decide) rfl ?_
  intro p e s m args below meth c s₁ B hml hEx hv
  obtain ⟨rfl, hsz, hP, hK, hN, hX⟩ := hv
  have hx := B.exec
  have hb := B.bytes
  have hr := B.returns
  have hts := atoms_spec (ws := wsX5_feed) B.pre
  have hown : s.vm.findClass RX5 = some m.cls := findClass_of_methodNamed B.named
  have hlocks := B.notSynchronized
  subst hsz
  have hP : va_P (dC, dI) vwCl (qW2 [(x0, .inr (4, [.ref i0, .ref d0, .ref w0, .ref r0])), (i0, .inr (2, [.int (nI 12), .ref i1, .ref i2, .ref i3, .ref i4, .ref i5, .ref i6, .ref i7])), (i1, .inl (cI, 12, .inl (qS yi))), (i2, .inl (cZ, 12, .inl (qZ zi))), (i3, .inl (cI, 12, .inl (qS lin))), (i4, .inl (cI, 4, .inl (qS si))), (i5, .inl (cI, 4, .inl (qN ai))), (i6, .inl (cI, 4, .inl (qS ci))), (i7, .inl (cI, 4, .inl (qS vi))), (o0, .inr (2, [.int (nI 16), .ref o1, .ref o2, .ref o3, .ref o4, .ref o5, .ref o6, .ref o7])), (o1, .inl (cI, 16, .inl (qS yo))), (o2, .inl (cZ, 16, .inl (qZ zo))), (o3, .inl (cI, 16, .inl (qS lou))), (o4, .inl (cI, 4, .inl (qS so))), (o5, .inl (cI, 4, .inl (qN ao))), (o6, .inl (cI, 4, .inl (qS co))), (o7, .inl (cI, 4, .inl (qS vo))), (d0, .inr (0, [.ref d1, .int (nI tw), .int (nI tr)])), (d1, .inl (cI, 768, .inl (qS dd))), (w0, .inr (3, [.ref d0, .ref i0, .ref o0, .ref w1, .ref w2])), (w1, .inl (cG, 48, .inr (.inr (.inr (.inr (fun i => some (ra i))))))), (w2, .inl (cI, 16, .inl (qS ob))), (r0, .inr (1, [.ref d0, .ref i0, .ref o0, .ref r1, .ref r2, .ref r3, .ref r4, .int (nI me), .int (nI du), .int (nI fi), .int (nI le)])), (r1, .inl (cG, 48, .inr (.inr (.inr (.inr (fun i => some (rb i))))))), (r2, .inl (cZ, 48, .inl (qZ od))), (r3, .inl (cI, 384, .inl (qS ou))), (r4, .inl (cZ, 48, .inl (qZ lt)))] (qP cI ra IW) (qP cI rb OW)) s.heap := hP
  have hl := lv_entry ([.ref x0, .long v]) (n := 3) (Nat.le_of_ble_eq_true rfl)
  rw [lg_entry_eq]
  generalize (lg_sl ([.ref x0, .long v]) ++ List.replicate (3 - (lg_sl ([.ref x0, .long v])).length) Slot.unset).toArray = ls at hl ⊢
  have hl : lv_has ls 3 [(0, .ref x0), (1, .long v)] := hl
  have k_21 := hts (.fieldLink RX5 21 "DiscCoder" "disc" "LDiscCoder$Disc;") (by decide +kernel)
  have k_30 := hts (.fieldLink RX5 30 "DiscCoder" "writer" "LDiscCoder$Writer;") (by decide +kernel)
  have i_X5 : ∀ w ∈ u_ws RX5 TX5 4, w ∈ wsX5_feed := by decide +kernel
  have i_X0 : ∀ w ∈ u_ws RX0 TX0 3, w ∈ wsX5_feed := by decide +kernel
  refine qr_nm (fun Q hQ => ?_)
  refine lv_aload_n hx hb dX5_feed_0 rfl (lv_at hl 0 rfl) ?_
  refine va_get (D := (dC, dI)) (ci := 4) (v := .ref d0) (C := RX5) (T := TX5) (N := 4) hx hb hts i_X5 hown hK hP 0 rfl rfl 1 (by decide) k_21 (fun _ h9 => h9) rfl dX5_feed_1 ?_
  refine va_getN (D := (dC, dI)) (ci := 0) (v := .int (nI tw)) (C := RX0) (T := TX0) (N := 3) hx hb hts i_X0 hown hK hP 17 rfl rfl 1 (by decide) (va_Nw.use rfl (hN (.fieldLinkNest "DiscCoder" 41 "DiscCoder$Disc" "rowsWritten" "I" "DiscCoder") (by decide +kernel))) (fun _ h9 => h9) rfl dX5_feed_4 ?_
  refine lv_bipush (v := nI 48) hx hb dX5_feed_7 (by decide) ?_
  refine qr_lt (tgt := 22) hx hb dX5_feed_9 rfl (by omega) (by omega) (fun h => absurd h (by omega)) (fun b9 => ?_)
  subst hQ
  exact qx_throw (E := "java/lang/IllegalStateException") (ik := 45) (is := 47) (ic := 49) (text := "the disc is full") hx hb hl9 hown hX (by decide +kernel) (by decide +kernel) (hl.1.trans hml.symm) dX5_feed_12 dX5_feed_15 dX5_feed_16 dX5_feed_18 dX5_feed_21 hEx (Nat.le_of_ble_eq_true rfl) (Nat.le_of_ble_eq_true rfl) (Nat.le_of_ble_eq_true rfl) (Nat.le_of_ble_eq_true rfl) hlocks
set_option maxHeartbeats 4000000 in
set_option maxRecDepth 100000 in
/-- DiscCoder.symbol throws -/
theorem qx_sym (l : Launch) (hl9 : l.stackTraces = false) (dC : Nat → ClassId) (dI : Nat → Nat → Nat) (cI cZ cG : ClassId) (x0 i0 i1 i2 i3 i4 i5 i6 i7 o0 o1 o2 o3 o4 o5 o6 o7 d0 d1 w0 w1 w2 r0 r1 r2 r3 r4 tw tr me du fi le : Nat) (ra rb : Nat → Nat) (yi : Nat → BitVec 8) (zi : Nat → Bool) (lin si : Nat → BitVec 8) (ai : Nat → Nat) (ci vi : Nat → BitVec 8) (yo : Nat → BitVec 8) (zo : Nat → Bool) (lou so : Nat → BitVec 8) (ao : Nat → Nat) (co vo : Nat → BitVec 8) (dd ob : Nat → BitVec 8) (od : Nat → Bool) (ou : Nat → BitVec 8) (lt : Nat → Bool) (IW OW : Nat → Nat → BitVec 8) (x y : Int32) (sz : Nat) (hno : ¬ (¬ x < 0 ∧ ¬ nI tw ≤ x ∧ ¬ y < 0 ∧ ¬ nI 16 ≤ y)) : vx_Met l yX5_symbol wsX5_symbol ({ frames := 6, cells := 1, slots := 6, locals := 90 } : Room) (va_Pc [.ref x0, .int x, .int y] (fun U => U.heap.size = sz ∧ va_P (dC, dI) vwCl (qW2 [(x0, .inr (4, [.ref i0, .ref d0, .ref w0, .ref r0])), (i0, .inr (2, [.int (nI 12), .ref i1, .ref i2, .ref i3, .ref i4, .ref i5, .ref i6, .ref i7])), (i1, .inl (cI, 12, .inl (qS yi))), (i2, .inl (cZ, 12, .inl (qZ zi))), (i3, .inl (cI, 12, .inl (qS lin))), (i4, .inl (cI, 4, .inl (qS si))), (i5, .inl (cI, 4, .inl (qN ai))), (i6, .inl (cI, 4, .inl (qS ci))), (i7, .inl (cI, 4, .inl (qS vi))), (o0, .inr (2, [.int (nI 16), .ref o1, .ref o2, .ref o3, .ref o4, .ref o5, .ref o6, .ref o7])), (o1, .inl (cI, 16, .inl (qS yo))), (o2, .inl (cZ, 16, .inl (qZ zo))), (o3, .inl (cI, 16, .inl (qS lou))), (o4, .inl (cI, 4, .inl (qS so))), (o5, .inl (cI, 4, .inl (qN ao))), (o6, .inl (cI, 4, .inl (qS co))), (o7, .inl (cI, 4, .inl (qS vo))), (d0, .inr (0, [.ref d1, .int (nI tw), .int (nI tr)])), (d1, .inl (cI, 768, .inl (qS dd))), (w0, .inr (3, [.ref d0, .ref i0, .ref o0, .ref w1, .ref w2])), (w1, .inl (cG, 48, .inr (.inr (.inr (.inr (fun i => some (ra i))))))), (w2, .inl (cI, 16, .inl (qS ob))), (r0, .inr (1, [.ref d0, .ref i0, .ref o0, .ref r1, .ref r2, .ref r3, .ref r4, .int (nI me), .int (nI du), .int (nI fi), .int (nI le)])), (r1, .inl (cG, 48, .inr (.inr (.inr (.inr (fun i => some (rb i))))))), (r2, .inl (cZ, 48, .inl (qZ od))), (r3, .inl (cI, 384, .inl (qS ou))), (r4, .inl (cZ, 48, .inl (qZ lt)))] (qP cI ra IW) (qP cI rb OW)) U.heap ∧ va_K (dC, dI) vwCl [(cI, .int), (cZ, .boolean), (cG, .array .int)] U ∧ qn_N U ∧ qx_P U)) (va_Qi (fun (_ : Int32) (_ : Unit) => False) (fun _ _ => True) (fun q => sz ≤ q)) (qx_X "java/lang/IndexOutOfBoundsException" sz) 1 6 (fun q => sz ≤ q) := by
  refine vx_ofW (cc := cX5_symbol) (maxL := 3) (ret := (some .int)) (by decide) rfl ?_
  intro p e s m args below meth c s₁ B hml hEx hv
  obtain ⟨rfl, hsz, hP, hK, hN, hX⟩ := hv
  have hx := B.exec
  have hb := B.bytes
  have hr := B.returns
  have hts := atoms_spec (ws := wsX5_symbol) B.pre
  have hown : s.vm.findClass RX5 = some m.cls := findClass_of_methodNamed B.named
  have hlocks := B.notSynchronized
  subst hsz
  have hP : va_P (dC, dI) vwCl (qW2 [(x0, .inr (4, [.ref i0, .ref d0, .ref w0, .ref r0])), (i0, .inr (2, [.int (nI 12), .ref i1, .ref i2, .ref i3, .ref i4, .ref i5, .ref i6, .ref i7])), (i1, .inl (cI, 12, .inl (qS yi))), (i2, .inl (cZ, 12, .inl (qZ zi))), (i3, .inl (cI, 12, .inl (qS lin))), (i4, .inl (cI, 4, .inl (qS si))), (i5, .inl (cI, 4, .inl (qN ai))), (i6, .inl (cI, 4, .inl (qS ci))), (i7, .inl (cI, 4, .inl (qS vi))), (o0, .inr (2, [.int (nI 16), .ref o1, .ref o2, .ref o3, .ref o4, .ref o5, .ref o6, .ref o7])), (o1, .inl (cI, 16, .inl (qS yo))), (o2, .inl (cZ, 16, .inl (qZ zo))), (o3, .inl (cI, 16, .inl (qS lou))), (o4, .inl (cI, 4, .inl (qS so))), (o5, .inl (cI, 4, .inl (qN ao))), (o6, .inl (cI, 4, .inl (qS co))), (o7, .inl (cI, 4, .inl (qS vo))), (d0, .inr (0, [.ref d1, .int (nI tw), .int (nI tr)])), (d1, .inl (cI, 768, .inl (qS dd))), (w0, .inr (3, [.ref d0, .ref i0, .ref o0, .ref w1, .ref w2])), (w1, .inl (cG, 48, .inr (.inr (.inr (.inr (fun i => some (ra i))))))), (w2, .inl (cI, 16, .inl (qS ob))), (r0, .inr (1, [.ref d0, .ref i0, .ref o0, .ref r1, .ref r2, .ref r3, .ref r4, .int (nI me), .int (nI du), .int (nI fi), .int (nI le)])), (r1, .inl (cG, 48, .inr (.inr (.inr (.inr (fun i => some (rb i))))))), (r2, .inl (cZ, 48, .inl (qZ od))), (r3, .inl (cI, 384, .inl (qS ou))), (r4, .inl (cZ, 48, .inl (qZ lt)))] (qP cI ra IW) (qP cI rb OW)) s.heap := hP
  have hl := lv_entry ([.ref x0, .int x, .int y]) (n := 3) (Nat.le_of_ble_eq_true rfl)
  rw [lg_entry_eq]
  generalize (lg_sl ([.ref x0, .int x, .int y]) ++ List.replicate (3 - (lg_sl ([.ref x0, .int x, .int y])).length) Slot.unset).toArray = ls at hl ⊢
  have hl : lv_has ls 3 [(0, .ref x0), (1, .int x), (2, .int y)] := hl
  have k_21 := hts (.fieldLink RX5 21 "DiscCoder" "disc" "LDiscCoder$Disc;") (by decide +kernel)
  have i_X5 : ∀ w ∈ u_ws RX5 TX5 4, w ∈ wsX5_symbol := by decide +kernel
  have i_X0 : ∀ w ∈ u_ws RX0 TX0 3, w ∈ wsX5_symbol := by decide +kernel
  refine qr_nm (fun Q hQ => ?_)
  refine lv_aload_n hx hb dX5_symbol_0 rfl (lv_at hl 0 rfl) ?_
  refine va_get (D := (dC, dI)) (ci := 4) (v := .ref d0) (C := RX5) (T := TX5) (N := 4) hx hb hts i_X5 hown hK hP 0 rfl rfl 1 (by decide) k_21 (fun _ h9 => h9) rfl dX5_symbol_1 ?_
  refine lv_iload_n hx hb dX5_symbol_4 rfl (lv_at hl 1 rfl) ?_
  refine lv_iload_n hx hb dX5_symbol_5 rfl (lv_at hl 2 rfl) ?_
  have hPc := hP.sub (ws' := [(d0, .inr (0, [.ref d1, .int (nI tw), .int (nI tr)])), (d1, .inl (cI, 768, .inl (qS dd)))]) [17, 18] rfl
  have hKc := hK.sub (tys' := [(cI, .int)]) [0] rfl
  refine vp_callSi (va_Run.run (va_runV (As := [.int x, .int y]) (rest := []) ⟨hx, hb, hml, hown, hts⟩ (qc_has l dC dI cI d0 d1 tw tr dd x y ) (cwV 2 hts gX5_symbol_X0_has rfl rfl rfl (by decide +kernel) ⟨Nat.le_of_ble_eq_true rfl, Nat.le_of_ble_eq_true rfl⟩) ⟨fun a U g mk q => by obtain ⟨q0, qP, qK⟩ := q; exact ⟨q0, qP, va_K.moved (u := U) (U := U.calling g mk a) (Vm.Alike.refl U.vm) qK⟩, (va_recv (q0 := 17) (ci := 0) hK hP rfl rfl), fun U hU hW => ⟨rfl, by rw [hU]; exact hPc, va_K.moved hW.alike hKc⟩⟩ rfl rfl hl.1 rfl (lv_room (Nat.le_of_ble_eq_true rfl)) dX5_symbol_6 ⟨Nat.le_of_ble_eq_true rfl, Nat.le_of_ble_eq_true rfl⟩)) (fun rv6 hr6 => ?_)
  obtain ⟨v6, e6, hv6⟩ := hr6
  subst e6
  refine qr_ifneZ (tgt := 22) hx hb dX5_symbol_9 rfl  (fun h => absurd (hv6.mp h) hno) (fun b9 => ?_)
  subst hQ
  exact qx_throw (E := "java/lang/IndexOutOfBoundsException") (ik := 60) (is := 62) (ic := 64) (text := "no such symbol on the disc") hx hb hl9 hown hX (by decide +kernel) (by decide +kernel) (hl.1.trans hml.symm) dX5_symbol_12 dX5_symbol_15 dX5_symbol_16 dX5_symbol_18 dX5_symbol_21 hEx (Nat.le_of_ble_eq_true rfl) (Nat.le_of_ble_eq_true rfl) (Nat.le_of_ble_eq_true rfl) (Nat.le_of_ble_eq_true rfl) hlocks
set_option maxHeartbeats 4000000 in
set_option maxRecDepth 100000 in
/-- DiscCoder.scratch throws -/
theorem qx_scr1 (l : Launch) (hl9 : l.stackTraces = false) (dC : Nat → ClassId) (dI : Nat → Nat → Nat) (cI cZ cG : ClassId) (x0 i0 i1 i2 i3 i4 i5 i6 i7 o0 o1 o2 o3 o4 o5 o6 o7 d0 d1 w0 w1 w2 r0 r1 r2 r3 r4 tw tr me du fi le : Nat) (ra rb : Nat → Nat) (yi : Nat → BitVec 8) (zi : Nat → Bool) (lin si : Nat → BitVec 8) (ai : Nat → Nat) (ci vi : Nat → BitVec 8) (yo : Nat → BitVec 8) (zo : Nat → Bool) (lou so : Nat → BitVec 8) (ao : Nat → Nat) (co vo : Nat → BitVec 8) (dd ob : Nat → BitVec 8) (od : Nat → Bool) (ou : Nat → BitVec 8) (lt : Nat → Bool) (IW OW : Nat → Nat → BitVec 8) (x y u : Int32) (sz : Nat) (hno : ¬ (¬ x < 0 ∧ ¬ nI tw ≤ x ∧ ¬ y < 0 ∧ ¬ nI 16 ≤ y)) : vx_Met l yX5_scratch wsX5_scratch ({ frames := 6, cells := 1, slots := 6, locals := 90 } : Room) (va_Pc [.ref x0, .int x, .int y, .int u] (fun U => U.heap.size = sz ∧ va_P (dC, dI) vwCl (qW2 [(x0, .inr (4, [.ref i0, .ref d0, .ref w0, .ref r0])), (i0, .inr (2, [.int (nI 12), .ref i1, .ref i2, .ref i3, .ref i4, .ref i5, .ref i6, .ref i7])), (i1, .inl (cI, 12, .inl (qS yi))), (i2, .inl (cZ, 12, .inl (qZ zi))), (i3, .inl (cI, 12, .inl (qS lin))), (i4, .inl (cI, 4, .inl (qS si))), (i5, .inl (cI, 4, .inl (qN ai))), (i6, .inl (cI, 4, .inl (qS ci))), (i7, .inl (cI, 4, .inl (qS vi))), (o0, .inr (2, [.int (nI 16), .ref o1, .ref o2, .ref o3, .ref o4, .ref o5, .ref o6, .ref o7])), (o1, .inl (cI, 16, .inl (qS yo))), (o2, .inl (cZ, 16, .inl (qZ zo))), (o3, .inl (cI, 16, .inl (qS lou))), (o4, .inl (cI, 4, .inl (qS so))), (o5, .inl (cI, 4, .inl (qN ao))), (o6, .inl (cI, 4, .inl (qS co))), (o7, .inl (cI, 4, .inl (qS vo))), (d0, .inr (0, [.ref d1, .int (nI tw), .int (nI tr)])), (d1, .inl (cI, 768, .inl (qS dd))), (w0, .inr (3, [.ref d0, .ref i0, .ref o0, .ref w1, .ref w2])), (w1, .inl (cG, 48, .inr (.inr (.inr (.inr (fun i => some (ra i))))))), (w2, .inl (cI, 16, .inl (qS ob))), (r0, .inr (1, [.ref d0, .ref i0, .ref o0, .ref r1, .ref r2, .ref r3, .ref r4, .int (nI me), .int (nI du), .int (nI fi), .int (nI le)])), (r1, .inl (cG, 48, .inr (.inr (.inr (.inr (fun i => some (rb i))))))), (r2, .inl (cZ, 48, .inl (qZ od))), (r3, .inl (cI, 384, .inl (qS ou))), (r4, .inl (cZ, 48, .inl (qZ lt)))] (qP cI ra IW) (qP cI rb OW)) U.heap ∧ va_K (dC, dI) vwCl [(cI, .int), (cZ, .boolean), (cG, .array .int)] U ∧ qn_N U ∧ qx_P U)) (va_Qv (fun (_ : Unit) => False) (fun _ _ => True) (fun q => sz ≤ q)) (qx_X "java/lang/IndexOutOfBoundsException" sz) 1 6 (fun q => sz ≤ q) := by
  refine vx_ofW (cc := cX5_scratch) (maxL := 4) (ret := none) (by decide) rfl ?_
  intro p e s m args below meth c s₁ B hml hEx hv
  obtain ⟨rfl, hsz, hP, hK, hN, hX⟩ := hv
  have hx := B.exec
  have hb := B.bytes
  have hr := B.returns
  have hts := atoms_spec (ws := wsX5_scratch) B.pre
  have hown : s.vm.findClass RX5 = some m.cls := findClass_of_methodNamed B.named
  have hlocks := B.notSynchronized
  subst hsz
  have hP : va_P (dC, dI) vwCl (qW2 [(x0, .inr (4, [.ref i0, .ref d0, .ref w0, .ref r0])), (i0, .inr (2, [.int (nI 12), .ref i1, .ref i2, .ref i3, .ref i4, .ref i5, .ref i6, .ref i7])), (i1, .inl (cI, 12, .inl (qS yi))), (i2, .inl (cZ, 12, .inl (qZ zi))), (i3, .inl (cI, 12, .inl (qS lin))), (i4, .inl (cI, 4, .inl (qS si))), (i5, .inl (cI, 4, .inl (qN ai))), (i6, .inl (cI, 4, .inl (qS ci))), (i7, .inl (cI, 4, .inl (qS vi))), (o0, .inr (2, [.int (nI 16), .ref o1, .ref o2, .ref o3, .ref o4, .ref o5, .ref o6, .ref o7])), (o1, .inl (cI, 16, .inl (qS yo))), (o2, .inl (cZ, 16, .inl (qZ zo))), (o3, .inl (cI, 16, .inl (qS lou))), (o4, .inl (cI, 4, .inl (qS so))), (o5, .inl (cI, 4, .inl (qN ao))), (o6, .inl (cI, 4, .inl (qS co))), (o7, .inl (cI, 4, .inl (qS vo))), (d0, .inr (0, [.ref d1, .int (nI tw), .int (nI tr)])), (d1, .inl (cI, 768, .inl (qS dd))), (w0, .inr (3, [.ref d0, .ref i0, .ref o0, .ref w1, .ref w2])), (w1, .inl (cG, 48, .inr (.inr (.inr (.inr (fun i => some (ra i))))))), (w2, .inl (cI, 16, .inl (qS ob))), (r0, .inr (1, [.ref d0, .ref i0, .ref o0, .ref r1, .ref r2, .ref r3, .ref r4, .int (nI me), .int (nI du), .int (nI fi), .int (nI le)])), (r1, .inl (cG, 48, .inr (.inr (.inr (.inr (fun i => some (rb i))))))), (r2, .inl (cZ, 48, .inl (qZ od))), (r3, .inl (cI, 384, .inl (qS ou))), (r4, .inl (cZ, 48, .inl (qZ lt)))] (qP cI ra IW) (qP cI rb OW)) s.heap := hP
  have hl := lv_entry ([.ref x0, .int x, .int y, .int u]) (n := 4) (Nat.le_of_ble_eq_true rfl)
  rw [lg_entry_eq]
  generalize (lg_sl ([.ref x0, .int x, .int y, .int u]) ++ List.replicate (4 - (lg_sl ([.ref x0, .int x, .int y, .int u])).length) Slot.unset).toArray = ls at hl ⊢
  have hl : lv_has ls 4 [(0, .ref x0), (1, .int x), (2, .int y), (3, .int u)] := hl
  have k_21 := hts (.fieldLink RX5 21 "DiscCoder" "disc" "LDiscCoder$Disc;") (by decide +kernel)
  have i_X5 : ∀ w ∈ u_ws RX5 TX5 4, w ∈ wsX5_scratch := by decide +kernel
  have i_X0 : ∀ w ∈ u_ws RX0 TX0 3, w ∈ wsX5_scratch := by decide +kernel
  refine qr_nm (fun Q hQ => ?_)
  refine lv_aload_n hx hb dX5_scratch_0 rfl (lv_at hl 0 rfl) ?_
  refine va_get (D := (dC, dI)) (ci := 4) (v := .ref d0) (C := RX5) (T := TX5) (N := 4) hx hb hts i_X5 hown hK hP 0 rfl rfl 1 (by decide) k_21 (fun _ h9 => h9) rfl dX5_scratch_1 ?_
  refine lv_iload_n hx hb dX5_scratch_4 rfl (lv_at hl 1 rfl) ?_
  refine lv_iload_n hx hb dX5_scratch_5 rfl (lv_at hl 2 rfl) ?_
  have hPc := hP.sub (ws' := [(d0, .inr (0, [.ref d1, .int (nI tw), .int (nI tr)])), (d1, .inl (cI, 768, .inl (qS dd)))]) [17, 18] rfl
  have hKc := hK.sub (tys' := [(cI, .int)]) [0] rfl
  refine vp_callSi (va_Run.run (va_runV (As := [.int x, .int y]) (rest := []) ⟨hx, hb, hml, hown, hts⟩ (qc_has l dC dI cI d0 d1 tw tr dd x y ) (cwV 2 hts gX5_scratch_X0_has rfl rfl rfl (by decide +kernel) ⟨Nat.le_of_ble_eq_true rfl, Nat.le_of_ble_eq_true rfl⟩) ⟨fun a U g mk q => by obtain ⟨q0, qP, qK⟩ := q; exact ⟨q0, qP, va_K.moved (u := U) (U := U.calling g mk a) (Vm.Alike.refl U.vm) qK⟩, (va_recv (q0 := 17) (ci := 0) hK hP rfl rfl), fun U hU hW => ⟨rfl, by rw [hU]; exact hPc, va_K.moved hW.alike hKc⟩⟩ rfl rfl hl.1 rfl (lv_room (Nat.le_of_ble_eq_true rfl)) dX5_scratch_6 ⟨Nat.le_of_ble_eq_true rfl, Nat.le_of_ble_eq_true rfl⟩)) (fun rv6 hr6 => ?_)
  obtain ⟨v6, e6, hv6⟩ := hr6
  subst e6
  refine qr_ifneZ (tgt := 22) hx hb dX5_scratch_9 rfl  (fun h => absurd (hv6.mp h) hno) (fun b9 => ?_)
  subst hQ
  exact qx_throw (E := "java/lang/IndexOutOfBoundsException") (ik := 60) (is := 62) (ic := 64) (text := "no such symbol on the disc") hx hb hl9 hown hX (by decide +kernel) (by decide +kernel) (hl.1.trans hml.symm) dX5_scratch_12 dX5_scratch_15 dX5_scratch_16 dX5_scratch_18 dX5_scratch_21 hEx (Nat.le_of_ble_eq_true rfl) (Nat.le_of_ble_eq_true rfl) (Nat.le_of_ble_eq_true rfl) (Nat.le_of_ble_eq_true rfl) hlocks
set_option maxHeartbeats 4000000 in
set_option maxRecDepth 100000 in
/-- DiscCoder.scratch throws -/
theorem qx_scr2 (l : Launch) (hl9 : l.stackTraces = false) (dC : Nat → ClassId) (dI : Nat → Nat → Nat) (cI cZ cG : ClassId) (x0 i0 i1 i2 i3 i4 i5 i6 i7 o0 o1 o2 o3 o4 o5 o6 o7 d0 d1 w0 w1 w2 r0 r1 r2 r3 r4 tw tr me du fi le : Nat) (ra rb : Nat → Nat) (yi : Nat → BitVec 8) (zi : Nat → Bool) (lin si : Nat → BitVec 8) (ai : Nat → Nat) (ci vi : Nat → BitVec 8) (yo : Nat → BitVec 8) (zo : Nat → Bool) (lou so : Nat → BitVec 8) (ao : Nat → Nat) (co vo : Nat → BitVec 8) (dd ob : Nat → BitVec 8) (od : Nat → Bool) (ou : Nat → BitVec 8) (lt : Nat → Bool) (IW OW : Nat → Nat → BitVec 8) (x y : Nat) (u : Int32) (sz : Nat) (hx0 : x < tw) (htw : tw ≤ 48) (hy0 : y < 16) (hno : ¬ (¬ u < 0 ∧ ¬ nI 255 < u)) : vx_Met l yX5_scratch wsX5_scratch ({ frames := 6, cells := 1, slots := 6, locals := 90 } : Room) (va_Pc [.ref x0, .int (nI x), .int (nI y), .int u] (fun U => U.heap.size = sz ∧ va_P (dC, dI) vwCl (qW2 [(x0, .inr (4, [.ref i0, .ref d0, .ref w0, .ref r0])), (i0, .inr (2, [.int (nI 12), .ref i1, .ref i2, .ref i3, .ref i4, .ref i5, .ref i6, .ref i7])), (i1, .inl (cI, 12, .inl (qS yi))), (i2, .inl (cZ, 12, .inl (qZ zi))), (i3, .inl (cI, 12, .inl (qS lin))), (i4, .inl (cI, 4, .inl (qS si))), (i5, .inl (cI, 4, .inl (qN ai))), (i6, .inl (cI, 4, .inl (qS ci))), (i7, .inl (cI, 4, .inl (qS vi))), (o0, .inr (2, [.int (nI 16), .ref o1, .ref o2, .ref o3, .ref o4, .ref o5, .ref o6, .ref o7])), (o1, .inl (cI, 16, .inl (qS yo))), (o2, .inl (cZ, 16, .inl (qZ zo))), (o3, .inl (cI, 16, .inl (qS lou))), (o4, .inl (cI, 4, .inl (qS so))), (o5, .inl (cI, 4, .inl (qN ao))), (o6, .inl (cI, 4, .inl (qS co))), (o7, .inl (cI, 4, .inl (qS vo))), (d0, .inr (0, [.ref d1, .int (nI tw), .int (nI tr)])), (d1, .inl (cI, 768, .inl (qS dd))), (w0, .inr (3, [.ref d0, .ref i0, .ref o0, .ref w1, .ref w2])), (w1, .inl (cG, 48, .inr (.inr (.inr (.inr (fun i => some (ra i))))))), (w2, .inl (cI, 16, .inl (qS ob))), (r0, .inr (1, [.ref d0, .ref i0, .ref o0, .ref r1, .ref r2, .ref r3, .ref r4, .int (nI me), .int (nI du), .int (nI fi), .int (nI le)])), (r1, .inl (cG, 48, .inr (.inr (.inr (.inr (fun i => some (rb i))))))), (r2, .inl (cZ, 48, .inl (qZ od))), (r3, .inl (cI, 384, .inl (qS ou))), (r4, .inl (cZ, 48, .inl (qZ lt)))] (qP cI ra IW) (qP cI rb OW)) U.heap ∧ va_K (dC, dI) vwCl [(cI, .int), (cZ, .boolean), (cG, .array .int)] U ∧ qn_N U ∧ qx_P U)) (va_Qv (fun (_ : Unit) => False) (fun _ _ => True) (fun q => sz ≤ q)) (qx_X "java/lang/IllegalArgumentException" sz) 1 6 (fun q => sz ≤ q) := by
  refine vx_ofW (cc := cX5_scratch) (maxL := 4) (ret := none) (by decide) rfl ?_
  intro p e s m args below meth c s₁ B hml hEx hv
  obtain ⟨rfl, hsz, hP, hK, hN, hX⟩ := hv
  have hx := B.exec
  have hb := B.bytes
  have hr := B.returns
  have hts := atoms_spec (ws := wsX5_scratch) B.pre
  have hown : s.vm.findClass RX5 = some m.cls := findClass_of_methodNamed B.named
  have hlocks := B.notSynchronized
  subst hsz
  have hP : va_P (dC, dI) vwCl (qW2 [(x0, .inr (4, [.ref i0, .ref d0, .ref w0, .ref r0])), (i0, .inr (2, [.int (nI 12), .ref i1, .ref i2, .ref i3, .ref i4, .ref i5, .ref i6, .ref i7])), (i1, .inl (cI, 12, .inl (qS yi))), (i2, .inl (cZ, 12, .inl (qZ zi))), (i3, .inl (cI, 12, .inl (qS lin))), (i4, .inl (cI, 4, .inl (qS si))), (i5, .inl (cI, 4, .inl (qN ai))), (i6, .inl (cI, 4, .inl (qS ci))), (i7, .inl (cI, 4, .inl (qS vi))), (o0, .inr (2, [.int (nI 16), .ref o1, .ref o2, .ref o3, .ref o4, .ref o5, .ref o6, .ref o7])), (o1, .inl (cI, 16, .inl (qS yo))), (o2, .inl (cZ, 16, .inl (qZ zo))), (o3, .inl (cI, 16, .inl (qS lou))), (o4, .inl (cI, 4, .inl (qS so))), (o5, .inl (cI, 4, .inl (qN ao))), (o6, .inl (cI, 4, .inl (qS co))), (o7, .inl (cI, 4, .inl (qS vo))), (d0, .inr (0, [.ref d1, .int (nI tw), .int (nI tr)])), (d1, .inl (cI, 768, .inl (qS dd))), (w0, .inr (3, [.ref d0, .ref i0, .ref o0, .ref w1, .ref w2])), (w1, .inl (cG, 48, .inr (.inr (.inr (.inr (fun i => some (ra i))))))), (w2, .inl (cI, 16, .inl (qS ob))), (r0, .inr (1, [.ref d0, .ref i0, .ref o0, .ref r1, .ref r2, .ref r3, .ref r4, .int (nI me), .int (nI du), .int (nI fi), .int (nI le)])), (r1, .inl (cG, 48, .inr (.inr (.inr (.inr (fun i => some (rb i))))))), (r2, .inl (cZ, 48, .inl (qZ od))), (r3, .inl (cI, 384, .inl (qS ou))), (r4, .inl (cZ, 48, .inl (qZ lt)))] (qP cI ra IW) (qP cI rb OW)) s.heap := hP
  have hl := lv_entry ([.ref x0, .int (nI x), .int (nI y), .int u]) (n := 4) (Nat.le_of_ble_eq_true rfl)
  rw [lg_entry_eq]
  generalize (lg_sl ([.ref x0, .int (nI x), .int (nI y), .int u]) ++ List.replicate (4 - (lg_sl ([.ref x0, .int (nI x), .int (nI y), .int u])).length) Slot.unset).toArray = ls at hl ⊢
  have hl : lv_has ls 4 [(0, .ref x0), (1, .int (nI x)), (2, .int (nI y)), (3, .int u)] := hl
  have k_21 := hts (.fieldLink RX5 21 "DiscCoder" "disc" "LDiscCoder$Disc;") (by decide +kernel)
  have i_X5 : ∀ w ∈ u_ws RX5 TX5 4, w ∈ wsX5_scratch := by decide +kernel
  have i_X0 : ∀ w ∈ u_ws RX0 TX0 3, w ∈ wsX5_scratch := by decide +kernel
  refine qr_nm (fun Q hQ => ?_)
  refine lv_aload_n hx hb dX5_scratch_0 rfl (lv_at hl 0 rfl) ?_
  refine va_get (D := (dC, dI)) (ci := 4) (v := .ref d0) (C := RX5) (T := TX5) (N := 4) hx hb hts i_X5 hown hK hP 0 rfl rfl 1 (by decide) k_21 (fun _ h9 => h9) rfl dX5_scratch_1 ?_
  refine lv_iload_n hx hb dX5_scratch_4 rfl (lv_at hl 1 rfl) ?_
  refine lv_iload_n hx hb dX5_scratch_5 rfl (lv_at hl 2 rfl) ?_
  have hPc := hP.sub (ws' := [(d0, .inr (0, [.ref d1, .int (nI tw), .int (nI tr)])), (d1, .inl (cI, 768, .inl (qS dd)))]) [17, 18] rfl
  have hKc := hK.sub (tys' := [(cI, .int)]) [0] rfl
  refine vp_callSi (va_Run.run (va_runV (As := [.int (nI x), .int (nI y)]) (rest := []) ⟨hx, hb, hml, hown, hts⟩ (qc_has l dC dI cI d0 d1 tw tr dd (nI x) (nI y) ) (cwV 2 hts gX5_scratch_X0_has rfl rfl rfl (by decide +kernel) ⟨Nat.le_of_ble_eq_true rfl, Nat.le_of_ble_eq_true rfl⟩) ⟨fun a U g mk q => by obtain ⟨q0, qP, qK⟩ := q; exact ⟨q0, qP, va_K.moved (u := U) (U := U.calling g mk a) (Vm.Alike.refl U.vm) qK⟩, (va_recv (q0 := 17) (ci := 0) hK hP rfl rfl), fun U hU hW => ⟨rfl, by rw [hU]; exact hPc, va_K.moved hW.alike hKc⟩⟩ rfl rfl hl.1 rfl (lv_room (Nat.le_of_ble_eq_true rfl)) dX5_scratch_6 ⟨Nat.le_of_ble_eq_true rfl, Nat.le_of_ble_eq_true rfl⟩)) (fun rv6 hr6 => ?_)
  obtain ⟨v6, e6, hv6⟩ := hr6
  subst e6
  refine qr_ifneZ (tgt := 22) hx hb dX5_scratch_9 rfl  (fun b9 => ?_) (fun h => absurd (hv6.mpr (qs_has hx0 htw hy0)) (by rw [h]; decide))
  refine lv_iload_n hx hb dX5_scratch_22 rfl (lv_at hl 3 rfl) ?_
  refine vp_callSi (va_Run.run (va_runS (As := [.int u]) (rest := []) ⟨hx, hb, hml, hown, hts⟩ (qc_holds l u ) (va_cwS 1 hts gX5_scratch_X1_holds rfl rfl rfl (by decide +kernel) ⟨Nat.le_of_ble_eq_true rfl, Nat.le_of_ble_eq_true rfl⟩) ⟨fun a U g mk q => q, fun U hU hW => ⟨rfl, trivial⟩⟩ rfl rfl hl.1 rfl (lv_room (Nat.le_of_ble_eq_true rfl)) dX5_scratch_23 ⟨Nat.le_of_ble_eq_true rfl, Nat.le_of_ble_eq_true rfl⟩)) (fun rv23 hr23 => ?_)
  obtain ⟨v23, e23, hv23⟩ := hr23
  subst e23
  refine qr_ifneZ (tgt := 39) hx hb dX5_scratch_26 rfl  (fun h => absurd (hv23.mp h) hno) (fun b26 => ?_)
  subst hQ
  exact qx_throw (E := "java/lang/IllegalArgumentException") (ik := 75) (is := 77) (ic := 79) (text := "what is added is no symbol") hx hb hl9 hown hX (by decide +kernel) (by decide +kernel) (hl.1.trans hml.symm) dX5_scratch_29 dX5_scratch_32 dX5_scratch_33 dX5_scratch_35 dX5_scratch_38 hEx (Nat.le_of_ble_eq_true rfl) (Nat.le_of_ble_eq_true rfl) (Nat.le_of_ble_eq_true rfl) (Nat.le_of_ble_eq_true rfl) hlocks
set_option maxHeartbeats 4000000 in
set_option maxRecDepth 100000 in
/-- DiscCoder.scratch throws -/
theorem qx_scr3 (l : Launch) (hl9 : l.stackTraces = false) (dC : Nat → ClassId) (dI : Nat → Nat → Nat) (cI cZ cG : ClassId) (x0 i0 i1 i2 i3 i4 i5 i6 i7 o0 o1 o2 o3 o4 o5 o6 o7 d0 d1 w0 w1 w2 r0 r1 r2 r3 r4 tw tr me du fi le : Nat) (ra rb : Nat → Nat) (yi : Nat → BitVec 8) (zi : Nat → Bool) (lin si : Nat → BitVec 8) (ai : Nat → Nat) (ci vi : Nat → BitVec 8) (yo : Nat → BitVec 8) (zo : Nat → Bool) (lou so : Nat → BitVec 8) (ao : Nat → Nat) (co vo : Nat → BitVec 8) (dd ob : Nat → BitVec 8) (od : Nat → Bool) (ou : Nat → BitVec 8) (lt : Nat → Bool) (IW OW : Nat → Nat → BitVec 8) (x y : Nat) (v : BitVec 8) (sz : Nat) (hx0 : x < tw) (htw : tw ≤ 48) (hy0 : y < 16) (hd0 : x < tr) (htr : tr ≤ 48) : vx_Met l yX5_scratch wsX5_scratch ({ frames := 6, cells := 1, slots := 6, locals := 90 } : Room) (va_Pc [.ref x0, .int (nI x), .int (nI y), .int (sI v)] (fun U => U.heap.size = sz ∧ va_P (dC, dI) vwCl (qW2 [(x0, .inr (4, [.ref i0, .ref d0, .ref w0, .ref r0])), (i0, .inr (2, [.int (nI 12), .ref i1, .ref i2, .ref i3, .ref i4, .ref i5, .ref i6, .ref i7])), (i1, .inl (cI, 12, .inl (qS yi))), (i2, .inl (cZ, 12, .inl (qZ zi))), (i3, .inl (cI, 12, .inl (qS lin))), (i4, .inl (cI, 4, .inl (qS si))), (i5, .inl (cI, 4, .inl (qN ai))), (i6, .inl (cI, 4, .inl (qS ci))), (i7, .inl (cI, 4, .inl (qS vi))), (o0, .inr (2, [.int (nI 16), .ref o1, .ref o2, .ref o3, .ref o4, .ref o5, .ref o6, .ref o7])), (o1, .inl (cI, 16, .inl (qS yo))), (o2, .inl (cZ, 16, .inl (qZ zo))), (o3, .inl (cI, 16, .inl (qS lou))), (o4, .inl (cI, 4, .inl (qS so))), (o5, .inl (cI, 4, .inl (qN ao))), (o6, .inl (cI, 4, .inl (qS co))), (o7, .inl (cI, 4, .inl (qS vo))), (d0, .inr (0, [.ref d1, .int (nI tw), .int (nI tr)])), (d1, .inl (cI, 768, .inl (qS dd))), (w0, .inr (3, [.ref d0, .ref i0, .ref o0, .ref w1, .ref w2])), (w1, .inl (cG, 48, .inr (.inr (.inr (.inr (fun i => some (ra i))))))), (w2, .inl (cI, 16, .inl (qS ob))), (r0, .inr (1, [.ref d0, .ref i0, .ref o0, .ref r1, .ref r2, .ref r3, .ref r4, .int (nI me), .int (nI du), .int (nI fi), .int (nI le)])), (r1, .inl (cG, 48, .inr (.inr (.inr (.inr (fun i => some (rb i))))))), (r2, .inl (cZ, 48, .inl (qZ od))), (r3, .inl (cI, 384, .inl (qS ou))), (r4, .inl (cZ, 48, .inl (qZ lt)))] (qP cI ra IW) (qP cI rb OW)) U.heap ∧ va_K (dC, dI) vwCl [(cI, .int), (cZ, .boolean), (cG, .array .int)] U ∧ qn_N U ∧ qx_P U)) (va_Qv (fun (_ : Unit) => False) (fun _ _ => True) (fun q => sz ≤ q)) (qx_X "java/lang/IllegalStateException" sz) 1 6 (fun q => sz ≤ q) := by
  refine vx_ofW (cc := cX5_scratch) (maxL := 4) (ret := none) (by decide) rfl ?_
  intro p e s m args below meth c s₁ B hml hEx hv
  obtain ⟨rfl, hsz, hP, hK, hN, hX⟩ := hv
  have hx := B.exec
  have hb := B.bytes
  have hr := B.returns
  have hts := atoms_spec (ws := wsX5_scratch) B.pre
  have hown : s.vm.findClass RX5 = some m.cls := findClass_of_methodNamed B.named
  have hlocks := B.notSynchronized
  subst hsz
  have hP : va_P (dC, dI) vwCl (qW2 [(x0, .inr (4, [.ref i0, .ref d0, .ref w0, .ref r0])), (i0, .inr (2, [.int (nI 12), .ref i1, .ref i2, .ref i3, .ref i4, .ref i5, .ref i6, .ref i7])), (i1, .inl (cI, 12, .inl (qS yi))), (i2, .inl (cZ, 12, .inl (qZ zi))), (i3, .inl (cI, 12, .inl (qS lin))), (i4, .inl (cI, 4, .inl (qS si))), (i5, .inl (cI, 4, .inl (qN ai))), (i6, .inl (cI, 4, .inl (qS ci))), (i7, .inl (cI, 4, .inl (qS vi))), (o0, .inr (2, [.int (nI 16), .ref o1, .ref o2, .ref o3, .ref o4, .ref o5, .ref o6, .ref o7])), (o1, .inl (cI, 16, .inl (qS yo))), (o2, .inl (cZ, 16, .inl (qZ zo))), (o3, .inl (cI, 16, .inl (qS lou))), (o4, .inl (cI, 4, .inl (qS so))), (o5, .inl (cI, 4, .inl (qN ao))), (o6, .inl (cI, 4, .inl (qS co))), (o7, .inl (cI, 4, .inl (qS vo))), (d0, .inr (0, [.ref d1, .int (nI tw), .int (nI tr)])), (d1, .inl (cI, 768, .inl (qS dd))), (w0, .inr (3, [.ref d0, .ref i0, .ref o0, .ref w1, .ref w2])), (w1, .inl (cG, 48, .inr (.inr (.inr (.inr (fun i => some (ra i))))))), (w2, .inl (cI, 16, .inl (qS ob))), (r0, .inr (1, [.ref d0, .ref i0, .ref o0, .ref r1, .ref r2, .ref r3, .ref r4, .int (nI me), .int (nI du), .int (nI fi), .int (nI le)])), (r1, .inl (cG, 48, .inr (.inr (.inr (.inr (fun i => some (rb i))))))), (r2, .inl (cZ, 48, .inl (qZ od))), (r3, .inl (cI, 384, .inl (qS ou))), (r4, .inl (cZ, 48, .inl (qZ lt)))] (qP cI ra IW) (qP cI rb OW)) s.heap := hP
  have hl := lv_entry ([.ref x0, .int (nI x), .int (nI y), .int (sI v)]) (n := 4) (Nat.le_of_ble_eq_true rfl)
  rw [lg_entry_eq]
  generalize (lg_sl ([.ref x0, .int (nI x), .int (nI y), .int (sI v)]) ++ List.replicate (4 - (lg_sl ([.ref x0, .int (nI x), .int (nI y), .int (sI v)])).length) Slot.unset).toArray = ls at hl ⊢
  have hl : lv_has ls 4 [(0, .ref x0), (1, .int (nI x)), (2, .int (nI y)), (3, .int (sI v))] := hl
  have k_21 := hts (.fieldLink RX5 21 "DiscCoder" "disc" "LDiscCoder$Disc;") (by decide +kernel)
  have i_X5 : ∀ w ∈ u_ws RX5 TX5 4, w ∈ wsX5_scratch := by decide +kernel
  have i_X0 : ∀ w ∈ u_ws RX0 TX0 3, w ∈ wsX5_scratch := by decide +kernel
  refine qr_nm (fun Q hQ => ?_)
  refine lv_aload_n hx hb dX5_scratch_0 rfl (lv_at hl 0 rfl) ?_
  refine va_get (D := (dC, dI)) (ci := 4) (v := .ref d0) (C := RX5) (T := TX5) (N := 4) hx hb hts i_X5 hown hK hP 0 rfl rfl 1 (by decide) k_21 (fun _ h9 => h9) rfl dX5_scratch_1 ?_
  refine lv_iload_n hx hb dX5_scratch_4 rfl (lv_at hl 1 rfl) ?_
  refine lv_iload_n hx hb dX5_scratch_5 rfl (lv_at hl 2 rfl) ?_
  have hPc := hP.sub (ws' := [(d0, .inr (0, [.ref d1, .int (nI tw), .int (nI tr)])), (d1, .inl (cI, 768, .inl (qS dd)))]) [17, 18] rfl
  have hKc := hK.sub (tys' := [(cI, .int)]) [0] rfl
  refine vp_callSi (va_Run.run (va_runV (As := [.int (nI x), .int (nI y)]) (rest := []) ⟨hx, hb, hml, hown, hts⟩ (qc_has l dC dI cI d0 d1 tw tr dd (nI x) (nI y) ) (cwV 2 hts gX5_scratch_X0_has rfl rfl rfl (by decide +kernel) ⟨Nat.le_of_ble_eq_true rfl, Nat.le_of_ble_eq_true rfl⟩) ⟨fun a U g mk q => by obtain ⟨q0, qP, qK⟩ := q; exact ⟨q0, qP, va_K.moved (u := U) (U := U.calling g mk a) (Vm.Alike.refl U.vm) qK⟩, (va_recv (q0 := 17) (ci := 0) hK hP rfl rfl), fun U hU hW => ⟨rfl, by rw [hU]; exact hPc, va_K.moved hW.alike hKc⟩⟩ rfl rfl hl.1 rfl (lv_room (Nat.le_of_ble_eq_true rfl)) dX5_scratch_6 ⟨Nat.le_of_ble_eq_true rfl, Nat.le_of_ble_eq_true rfl⟩)) (fun rv6 hr6 => ?_)
  obtain ⟨v6, e6, hv6⟩ := hr6
  subst e6
  refine qr_ifneZ (tgt := 22) hx hb dX5_scratch_9 rfl  (fun b9 => ?_) (fun h => absurd (hv6.mpr (qs_has hx0 htw hy0)) (by rw [h]; decide))
  refine lv_iload_n hx hb dX5_scratch_22 rfl (lv_at hl 3 rfl) ?_
  refine vp_callSi (va_Run.run (va_runS (As := [.int (sI v)]) (rest := []) ⟨hx, hb, hml, hown, hts⟩ (qc_holds l (sI v) ) (va_cwS 1 hts gX5_scratch_X1_holds rfl rfl rfl (by decide +kernel) ⟨Nat.le_of_ble_eq_true rfl, Nat.le_of_ble_eq_true rfl⟩) ⟨fun a U g mk q => q, fun U hU hW => ⟨rfl, trivial⟩⟩ rfl rfl hl.1 rfl (lv_room (Nat.le_of_ble_eq_true rfl)) dX5_scratch_23 ⟨Nat.le_of_ble_eq_true rfl, Nat.le_of_ble_eq_true rfl⟩)) (fun rv23 hr23 => ?_)
  obtain ⟨v23, e23, hv23⟩ := hr23
  subst e23
  refine qr_ifneZ (tgt := 39) hx hb dX5_scratch_26 rfl  (fun b26 => ?_) (fun h => absurd (hv23.mpr (qs_sym v)) (by rw [h]; decide))
  refine lv_iload_n hx hb dX5_scratch_39 rfl (lv_at hl 1 rfl) ?_
  refine lv_aload_n hx hb dX5_scratch_40 rfl (lv_at hl 0 rfl) ?_
  refine va_get (D := (dC, dI)) (ci := 4) (v := .ref d0) (C := RX5) (T := TX5) (N := 4) hx hb hts i_X5 hown hK hP 0 rfl rfl 1 (by decide) k_21 (fun _ h9 => h9) rfl dX5_scratch_41 ?_
  refine va_getN (D := (dC, dI)) (ci := 0) (v := .int (nI tr)) (C := RX0) (T := TX0) (N := 3) hx hb hts i_X0 hown hK hP 17 rfl rfl 2 (by decide) (va_Nw.use rfl (hN (.fieldLinkNest "DiscCoder" 80 "DiscCoder$Disc" "rowsRead" "I" "DiscCoder") (by decide +kernel))) (fun _ h9 => h9) rfl dX5_scratch_44 ?_
  refine qr_ge (tgt := 60) hx hb dX5_scratch_47 rfl (by omega) (by omega) (fun h => absurd h (by omega)) (fun b47 => ?_)
  subst hQ
  exact qx_throw (E := "java/lang/IllegalStateException") (ik := 45) (is := 83) (ic := 49) (text := "the row was read") hx hb hl9 hown hX (by decide +kernel) (by decide +kernel) (hl.1.trans hml.symm) dX5_scratch_50 dX5_scratch_53 dX5_scratch_54 dX5_scratch_56 dX5_scratch_59 hEx (Nat.le_of_ble_eq_true rfl) (Nat.le_of_ble_eq_true rfl) (Nat.le_of_ble_eq_true rfl) (Nat.le_of_ble_eq_true rfl) hlocks
set_option maxHeartbeats 4000000 in
set_option maxRecDepth 100000 in
/-- DiscCoder.burst throws -/
theorem qx_bur1 (l : Launch) (hl9 : l.stackTraces = false) (dC : Nat → ClassId) (dI : Nat → Nat → Nat) (cI cZ cG : ClassId) (x0 i0 i1 i2 i3 i4 i5 i6 i7 o0 o1 o2 o3 o4 o5 o6 o7 d0 d1 w0 w1 w2 r0 r1 r2 r3 r4 tw tr me du fi le : Nat) (ra rb : Nat → Nat) (yi : Nat → BitVec 8) (zi : Nat → Bool) (lin si : Nat → BitVec 8) (ai : Nat → Nat) (ci vi : Nat → BitVec 8) (yo : Nat → BitVec 8) (zo : Nat → Bool) (lou so : Nat → BitVec 8) (ao : Nat → Nat) (co vo : Nat → BitVec 8) (dd ob : Nat → BitVec 8) (od : Nat → Bool) (ou : Nat → BitVec 8) (lt : Nat → Bool) (IW OW : Nat → Nat → BitVec 8) (x q u : Int32) (sz : Nat) (hno : q < 0 ∨ ¬ (¬ u < 0 ∧ ¬ nI 255 < u)) : vx_Met l yX5_burst wsX5_burst ({ frames := 6, cells := 1, slots := 6, locals := 90 } : Room) (va_Pc [.ref x0, .int x, .int q, .int u] (fun U => U.heap.size = sz ∧ va_P (dC, dI) vwCl (qW2 [(x0, .inr (4, [.ref i0, .ref d0, .ref w0, .ref r0])), (i0, .inr (2, [.int (nI 12), .ref i1, .ref i2, .ref i3, .ref i4, .ref i5, .ref i6, .ref i7])), (i1, .inl (cI, 12, .inl (qS yi))), (i2, .inl (cZ, 12, .inl (qZ zi))), (i3, .inl (cI, 12, .inl (qS lin))), (i4, .inl (cI, 4, .inl (qS si))), (i5, .inl (cI, 4, .inl (qN ai))), (i6, .inl (cI, 4, .inl (qS ci))), (i7, .inl (cI, 4, .inl (qS vi))), (o0, .inr (2, [.int (nI 16), .ref o1, .ref o2, .ref o3, .ref o4, .ref o5, .ref o6, .ref o7])), (o1, .inl (cI, 16, .inl (qS yo))), (o2, .inl (cZ, 16, .inl (qZ zo))), (o3, .inl (cI, 16, .inl (qS lou))), (o4, .inl (cI, 4, .inl (qS so))), (o5, .inl (cI, 4, .inl (qN ao))), (o6, .inl (cI, 4, .inl (qS co))), (o7, .inl (cI, 4, .inl (qS vo))), (d0, .inr (0, [.ref d1, .int (nI tw), .int (nI tr)])), (d1, .inl (cI, 768, .inl (qS dd))), (w0, .inr (3, [.ref d0, .ref i0, .ref o0, .ref w1, .ref w2])), (w1, .inl (cG, 48, .inr (.inr (.inr (.inr (fun i => some (ra i))))))), (w2, .inl (cI, 16, .inl (qS ob))), (r0, .inr (1, [.ref d0, .ref i0, .ref o0, .ref r1, .ref r2, .ref r3, .ref r4, .int (nI me), .int (nI du), .int (nI fi), .int (nI le)])), (r1, .inl (cG, 48, .inr (.inr (.inr (.inr (fun i => some (rb i))))))), (r2, .inl (cZ, 48, .inl (qZ od))), (r3, .inl (cI, 384, .inl (qS ou))), (r4, .inl (cZ, 48, .inl (qZ lt)))] (qP cI ra IW) (qP cI rb OW)) U.heap ∧ va_K (dC, dI) vwCl [(cI, .int), (cZ, .boolean), (cG, .array .int)] U ∧ qn_N U ∧ qx_P U)) (va_Qv (fun (_ : Unit) => False) (fun _ _ => True) (fun q => sz ≤ q)) (qx_X "java/lang/IllegalArgumentException" sz) 1 6 (fun q => sz ≤ q) := by
  refine vx_ofW (cc := cX5_burst) (maxL := 5) (ret := none) (by decide) rfl ?_
  intro p e s m args below meth c s₁ B hml hEx hv
  obtain ⟨rfl, hsz, hP, hK, hN, hX⟩ := hv
  have hx := B.exec
  have hb := B.bytes
  have hr := B.returns
  have hts := atoms_spec (ws := wsX5_burst) B.pre
  have hown : s.vm.findClass RX5 = some m.cls := findClass_of_methodNamed B.named
  have hlocks := B.notSynchronized
  subst hsz
  have hP : va_P (dC, dI) vwCl (qW2 [(x0, .inr (4, [.ref i0, .ref d0, .ref w0, .ref r0])), (i0, .inr (2, [.int (nI 12), .ref i1, .ref i2, .ref i3, .ref i4, .ref i5, .ref i6, .ref i7])), (i1, .inl (cI, 12, .inl (qS yi))), (i2, .inl (cZ, 12, .inl (qZ zi))), (i3, .inl (cI, 12, .inl (qS lin))), (i4, .inl (cI, 4, .inl (qS si))), (i5, .inl (cI, 4, .inl (qN ai))), (i6, .inl (cI, 4, .inl (qS ci))), (i7, .inl (cI, 4, .inl (qS vi))), (o0, .inr (2, [.int (nI 16), .ref o1, .ref o2, .ref o3, .ref o4, .ref o5, .ref o6, .ref o7])), (o1, .inl (cI, 16, .inl (qS yo))), (o2, .inl (cZ, 16, .inl (qZ zo))), (o3, .inl (cI, 16, .inl (qS lou))), (o4, .inl (cI, 4, .inl (qS so))), (o5, .inl (cI, 4, .inl (qN ao))), (o6, .inl (cI, 4, .inl (qS co))), (o7, .inl (cI, 4, .inl (qS vo))), (d0, .inr (0, [.ref d1, .int (nI tw), .int (nI tr)])), (d1, .inl (cI, 768, .inl (qS dd))), (w0, .inr (3, [.ref d0, .ref i0, .ref o0, .ref w1, .ref w2])), (w1, .inl (cG, 48, .inr (.inr (.inr (.inr (fun i => some (ra i))))))), (w2, .inl (cI, 16, .inl (qS ob))), (r0, .inr (1, [.ref d0, .ref i0, .ref o0, .ref r1, .ref r2, .ref r3, .ref r4, .int (nI me), .int (nI du), .int (nI fi), .int (nI le)])), (r1, .inl (cG, 48, .inr (.inr (.inr (.inr (fun i => some (rb i))))))), (r2, .inl (cZ, 48, .inl (qZ od))), (r3, .inl (cI, 384, .inl (qS ou))), (r4, .inl (cZ, 48, .inl (qZ lt)))] (qP cI ra IW) (qP cI rb OW)) s.heap := hP
  have hl := lv_entry ([.ref x0, .int x, .int q, .int u]) (n := 5) (Nat.le_of_ble_eq_true rfl)
  rw [lg_entry_eq]
  generalize (lg_sl ([.ref x0, .int x, .int q, .int u]) ++ List.replicate (5 - (lg_sl ([.ref x0, .int x, .int q, .int u])).length) Slot.unset).toArray = ls at hl ⊢
  have hl : lv_has ls 5 [(0, .ref x0), (1, .int x), (2, .int q), (3, .int u)] := hl
  have k_21 := hts (.fieldLink RX5 21 "DiscCoder" "disc" "LDiscCoder$Disc;") (by decide +kernel)
  have i_X5 : ∀ w ∈ u_ws RX5 TX5 4, w ∈ wsX5_burst := by decide +kernel
  have i_X0 : ∀ w ∈ u_ws RX0 TX0 3, w ∈ wsX5_burst := by decide +kernel
  refine qr_nm (fun Q hQ => ?_)
  refine lv_iload_n hx hb dX5_burst_0 rfl (lv_at hl 2 rfl) ?_
  refine lv_if_lt (tgt := 11) hx hb dX5_burst_1 rfl  (fun b1 => ?_) (fun b1 => ?_)
  · subst hQ
    exact qx_throw (E := "java/lang/IllegalArgumentException") (ik := 75) (is := 85) (ic := 79) (text := "fewer than none, or what is added is no symbol") hx hb hl9 hown hX (by decide +kernel) (by decide +kernel) (hl.1.trans hml.symm) dX5_burst_11 dX5_burst_14 dX5_burst_15 dX5_burst_17 dX5_burst_20 hEx (Nat.le_of_ble_eq_true rfl) (Nat.le_of_ble_eq_true rfl) (Nat.le_of_ble_eq_true rfl) (Nat.le_of_ble_eq_true rfl) hlocks
  · refine lv_iload_n hx hb dX5_burst_4 rfl (lv_at hl 3 rfl) ?_
    refine vp_callSi (va_Run.run (va_runS (As := [.int u]) (rest := []) ⟨hx, hb, hml, hown, hts⟩ (qc_holds l u ) (va_cwS 1 hts gX5_burst_X1_holds rfl rfl rfl (by decide +kernel) ⟨Nat.le_of_ble_eq_true rfl, Nat.le_of_ble_eq_true rfl⟩) ⟨fun a U g mk q => q, fun U hU hW => ⟨rfl, trivial⟩⟩ rfl rfl hl.1 rfl (lv_room (Nat.le_of_ble_eq_true rfl)) dX5_burst_5 ⟨Nat.le_of_ble_eq_true rfl, Nat.le_of_ble_eq_true rfl⟩)) (fun rv5 hr5 => ?_)
    obtain ⟨v5, e5, hv5⟩ := hr5
    subst e5
    refine qr_ifneZ (tgt := 21) hx hb dX5_burst_8 rfl  (fun h => absurd (hv5.mp h) (hno.resolve_left b1)) (fun b8 => ?_)
    subst hQ
    exact qx_throw (E := "java/lang/IllegalArgumentException") (ik := 75) (is := 85) (ic := 79) (text := "fewer than none, or what is added is no symbol") hx hb hl9 hown hX (by decide +kernel) (by decide +kernel) (hl.1.trans hml.symm) dX5_burst_11 dX5_burst_14 dX5_burst_15 dX5_burst_17 dX5_burst_20 hEx (Nat.le_of_ble_eq_true rfl) (Nat.le_of_ble_eq_true rfl) (Nat.le_of_ble_eq_true rfl) (Nat.le_of_ble_eq_true rfl) hlocks
set_option maxHeartbeats 4000000 in
set_option maxRecDepth 100000 in
/-- DiscCoder.burst throws -/
theorem qx_bur2 (l : Launch) (hl9 : l.stackTraces = false) (dC : Nat → ClassId) (dI : Nat → Nat → Nat) (cI cZ cG : ClassId) (x0 i0 i1 i2 i3 i4 i5 i6 i7 o0 o1 o2 o3 o4 o5 o6 o7 d0 d1 w0 w1 w2 r0 r1 r2 r3 r4 tw tr me du fi le : Nat) (ra rb : Nat → Nat) (yi : Nat → BitVec 8) (zi : Nat → Bool) (lin si : Nat → BitVec 8) (ai : Nat → Nat) (ci vi : Nat → BitVec 8) (yo : Nat → BitVec 8) (zo : Nat → Bool) (lou so : Nat → BitVec 8) (ao : Nat → Nat) (co vo : Nat → BitVec 8) (dd ob : Nat → BitVec 8) (od : Nat → Bool) (ou : Nat → BitVec 8) (lt : Nat → Bool) (IW OW : Nat → Nat → BitVec 8) (x : Int32) (q : Nat) (v : BitVec 8) (sz : Nat) (htw : tw ≤ 48) (hq0 : 0 < q) (hq1 : q < 2 ^ 31) (hno : x < 0 ∨ ¬ x ≤ nI (tw * 16) - nI q) : vx_Met l yX5_burst wsX5_burst ({ frames := 6, cells := 1, slots := 6, locals := 90 } : Room) (va_Pc [.ref x0, .int x, .int (nI q), .int (sI v)] (fun U => U.heap.size = sz ∧ va_P (dC, dI) vwCl (qW2 [(x0, .inr (4, [.ref i0, .ref d0, .ref w0, .ref r0])), (i0, .inr (2, [.int (nI 12), .ref i1, .ref i2, .ref i3, .ref i4, .ref i5, .ref i6, .ref i7])), (i1, .inl (cI, 12, .inl (qS yi))), (i2, .inl (cZ, 12, .inl (qZ zi))), (i3, .inl (cI, 12, .inl (qS lin))), (i4, .inl (cI, 4, .inl (qS si))), (i5, .inl (cI, 4, .inl (qN ai))), (i6, .inl (cI, 4, .inl (qS ci))), (i7, .inl (cI, 4, .inl (qS vi))), (o0, .inr (2, [.int (nI 16), .ref o1, .ref o2, .ref o3, .ref o4, .ref o5, .ref o6, .ref o7])), (o1, .inl (cI, 16, .inl (qS yo))), (o2, .inl (cZ, 16, .inl (qZ zo))), (o3, .inl (cI, 16, .inl (qS lou))), (o4, .inl (cI, 4, .inl (qS so))), (o5, .inl (cI, 4, .inl (qN ao))), (o6, .inl (cI, 4, .inl (qS co))), (o7, .inl (cI, 4, .inl (qS vo))), (d0, .inr (0, [.ref d1, .int (nI tw), .int (nI tr)])), (d1, .inl (cI, 768, .inl (qS dd))), (w0, .inr (3, [.ref d0, .ref i0, .ref o0, .ref w1, .ref w2])), (w1, .inl (cG, 48, .inr (.inr (.inr (.inr (fun i => some (ra i))))))), (w2, .inl (cI, 16, .inl (qS ob))), (r0, .inr (1, [.ref d0, .ref i0, .ref o0, .ref r1, .ref r2, .ref r3, .ref r4, .int (nI me), .int (nI du), .int (nI fi), .int (nI le)])), (r1, .inl (cG, 48, .inr (.inr (.inr (.inr (fun i => some (rb i))))))), (r2, .inl (cZ, 48, .inl (qZ od))), (r3, .inl (cI, 384, .inl (qS ou))), (r4, .inl (cZ, 48, .inl (qZ lt)))] (qP cI ra IW) (qP cI rb OW)) U.heap ∧ va_K (dC, dI) vwCl [(cI, .int), (cZ, .boolean), (cG, .array .int)] U ∧ qn_N U ∧ qx_P U)) (va_Qv (fun (_ : Unit) => False) (fun _ _ => True) (fun q => sz ≤ q)) (qx_X "java/lang/IndexOutOfBoundsException" sz) 1 6 (fun q => sz ≤ q) := by
  refine vx_ofW (cc := cX5_burst) (maxL := 5) (ret := none) (by decide) rfl ?_
  intro p e s m args below meth c s₁ B hml hEx hv
  obtain ⟨rfl, hsz, hP, hK, hN, hX⟩ := hv
  have hx := B.exec
  have hb := B.bytes
  have hr := B.returns
  have hts := atoms_spec (ws := wsX5_burst) B.pre
  have hown : s.vm.findClass RX5 = some m.cls := findClass_of_methodNamed B.named
  have hlocks := B.notSynchronized
  subst hsz
  have hP : va_P (dC, dI) vwCl (qW2 [(x0, .inr (4, [.ref i0, .ref d0, .ref w0, .ref r0])), (i0, .inr (2, [.int (nI 12), .ref i1, .ref i2, .ref i3, .ref i4, .ref i5, .ref i6, .ref i7])), (i1, .inl (cI, 12, .inl (qS yi))), (i2, .inl (cZ, 12, .inl (qZ zi))), (i3, .inl (cI, 12, .inl (qS lin))), (i4, .inl (cI, 4, .inl (qS si))), (i5, .inl (cI, 4, .inl (qN ai))), (i6, .inl (cI, 4, .inl (qS ci))), (i7, .inl (cI, 4, .inl (qS vi))), (o0, .inr (2, [.int (nI 16), .ref o1, .ref o2, .ref o3, .ref o4, .ref o5, .ref o6, .ref o7])), (o1, .inl (cI, 16, .inl (qS yo))), (o2, .inl (cZ, 16, .inl (qZ zo))), (o3, .inl (cI, 16, .inl (qS lou))), (o4, .inl (cI, 4, .inl (qS so))), (o5, .inl (cI, 4, .inl (qN ao))), (o6, .inl (cI, 4, .inl (qS co))), (o7, .inl (cI, 4, .inl (qS vo))), (d0, .inr (0, [.ref d1, .int (nI tw), .int (nI tr)])), (d1, .inl (cI, 768, .inl (qS dd))), (w0, .inr (3, [.ref d0, .ref i0, .ref o0, .ref w1, .ref w2])), (w1, .inl (cG, 48, .inr (.inr (.inr (.inr (fun i => some (ra i))))))), (w2, .inl (cI, 16, .inl (qS ob))), (r0, .inr (1, [.ref d0, .ref i0, .ref o0, .ref r1, .ref r2, .ref r3, .ref r4, .int (nI me), .int (nI du), .int (nI fi), .int (nI le)])), (r1, .inl (cG, 48, .inr (.inr (.inr (.inr (fun i => some (rb i))))))), (r2, .inl (cZ, 48, .inl (qZ od))), (r3, .inl (cI, 384, .inl (qS ou))), (r4, .inl (cZ, 48, .inl (qZ lt)))] (qP cI ra IW) (qP cI rb OW)) s.heap := hP
  have hl := lv_entry ([.ref x0, .int x, .int (nI q), .int (sI v)]) (n := 5) (Nat.le_of_ble_eq_true rfl)
  rw [lg_entry_eq]
  generalize (lg_sl ([.ref x0, .int x, .int (nI q), .int (sI v)]) ++ List.replicate (5 - (lg_sl ([.ref x0, .int x, .int (nI q), .int (sI v)])).length) Slot.unset).toArray = ls at hl ⊢
  have hl : lv_has ls 5 [(0, .ref x0), (1, .int x), (2, .int (nI q)), (3, .int (sI v))] := hl
  have k_21 := hts (.fieldLink RX5 21 "DiscCoder" "disc" "LDiscCoder$Disc;") (by decide +kernel)
  have i_X5 : ∀ w ∈ u_ws RX5 TX5 4, w ∈ wsX5_burst := by decide +kernel
  have i_X0 : ∀ w ∈ u_ws RX0 TX0 3, w ∈ wsX5_burst := by decide +kernel
  refine qr_nm (fun Q hQ => ?_)
  refine lv_iload_n hx hb dX5_burst_0 rfl (lv_at hl 2 rfl) ?_
  refine lv_if_lt (tgt := 11) hx hb dX5_burst_1 rfl  (fun h => absurd h (nI_pos (by omega))) (fun b1 => ?_)
  refine lv_iload_n hx hb dX5_burst_4 rfl (lv_at hl 3 rfl) ?_
  refine vp_callSi (va_Run.run (va_runS (As := [.int (sI v)]) (rest := []) ⟨hx, hb, hml, hown, hts⟩ (qc_holds l (sI v) ) (va_cwS 1 hts gX5_burst_X1_holds rfl rfl rfl (by decide +kernel) ⟨Nat.le_of_ble_eq_true rfl, Nat.le_of_ble_eq_true rfl⟩) ⟨fun a U g mk q => q, fun U hU hW => ⟨rfl, trivial⟩⟩ rfl rfl hl.1 rfl (lv_room (Nat.le_of_ble_eq_true rfl)) dX5_burst_5 ⟨Nat.le_of_ble_eq_true rfl, Nat.le_of_ble_eq_true rfl⟩)) (fun rv5 hr5 => ?_)
  obtain ⟨v5, e5, hv5⟩ := hr5
  subst e5
  refine qr_ifneZ (tgt := 21) hx hb dX5_burst_8 rfl  (fun b8 => ?_) (fun h => absurd (hv5.mpr (qs_sym v)) (by rw [h]; decide))
  refine lv_iload_n hx hb dX5_burst_21 rfl (lv_at hl 2 rfl) ?_
  refine qr_ifneN (tgt := 26) hx hb dX5_burst_22 rfl (by omega) (fun b22 => ?_) (fun h => absurd h (by omega))
  refine lv_iload_n hx hb dX5_burst_26 rfl (lv_at hl 1 rfl) ?_
  refine lv_if_lt (tgt := 46) hx hb dX5_burst_27 rfl  (fun b27 => ?_) (fun b27 => ?_)
  · subst hQ
    exact qx_throw (E := "java/lang/IndexOutOfBoundsException") (ik := 60) (is := 62) (ic := 64) (text := "no such symbol on the disc") hx hb hl9 hown hX (by decide +kernel) (by decide +kernel) (hl.1.trans hml.symm) dX5_burst_46 dX5_burst_49 dX5_burst_50 dX5_burst_52 dX5_burst_55 hEx (Nat.le_of_ble_eq_true rfl) (Nat.le_of_ble_eq_true rfl) (Nat.le_of_ble_eq_true rfl) (Nat.le_of_ble_eq_true rfl) hlocks
  · refine lv_iload_n hx hb dX5_burst_30 rfl (lv_at hl 1 rfl) ?_
    refine lv_aload_n hx hb dX5_burst_31 rfl (lv_at hl 0 rfl) ?_
    refine va_get (D := (dC, dI)) (ci := 4) (v := .ref d0) (C := RX5) (T := TX5) (N := 4) hx hb hts i_X5 hown hK hP 0 rfl rfl 1 (by decide) k_21 (fun _ h9 => h9) rfl dX5_burst_32 ?_
    refine va_getN (D := (dC, dI)) (ci := 0) (v := .int (nI tw)) (C := RX0) (T := TX0) (N := 3) hx hb hts i_X0 hown hK hP 17 rfl rfl 1 (by decide) (va_Nw.use rfl (hN (.fieldLinkNest "DiscCoder" 41 "DiscCoder$Disc" "rowsWritten" "I" "DiscCoder") (by decide +kernel))) (fun _ h9 => h9) rfl dX5_burst_35 ?_
    refine lv_bipush (v := nI 16) hx hb dX5_burst_38 (by decide) ?_
    refine qr_imul (z := nI (tw * 16)) hx hb dX5_burst_40 (pk_mul _ _) ?_
    refine lv_iload_n hx hb dX5_burst_41 rfl (lv_at hl 2 rfl) ?_
    refine qr_isub (z := nI (tw * 16) - nI q) hx hb dX5_burst_42 rfl ?_
    refine lv_icmp_le (tgt := 56) hx hb dX5_burst_43 rfl  (fun h => absurd h (hno.resolve_left b27)) (fun b43 => ?_)
    subst hQ
    exact qx_throw (E := "java/lang/IndexOutOfBoundsException") (ik := 60) (is := 62) (ic := 64) (text := "no such symbol on the disc") hx hb hl9 hown hX (by decide +kernel) (by decide +kernel) (hl.1.trans hml.symm) dX5_burst_46 dX5_burst_49 dX5_burst_50 dX5_burst_52 dX5_burst_55 hEx (Nat.le_of_ble_eq_true rfl) (Nat.le_of_ble_eq_true rfl) (Nat.le_of_ble_eq_true rfl) (Nat.le_of_ble_eq_true rfl) hlocks
set_option maxHeartbeats 4000000 in
set_option maxRecDepth 100000 in
/-- DiscCoder.burst throws -/
theorem qx_bur3 (l : Launch) (hl9 : l.stackTraces = false) (dC : Nat → ClassId) (dI : Nat → Nat → Nat) (cI cZ cG : ClassId) (x0 i0 i1 i2 i3 i4 i5 i6 i7 o0 o1 o2 o3 o4 o5 o6 o7 d0 d1 w0 w1 w2 r0 r1 r2 r3 r4 tw tr me du fi le : Nat) (ra rb : Nat → Nat) (yi : Nat → BitVec 8) (zi : Nat → Bool) (lin si : Nat → BitVec 8) (ai : Nat → Nat) (ci vi : Nat → BitVec 8) (yo : Nat → BitVec 8) (zo : Nat → Bool) (lou so : Nat → BitVec 8) (ao : Nat → Nat) (co vo : Nat → BitVec 8) (dd ob : Nat → BitVec 8) (od : Nat → Bool) (ou : Nat → BitVec 8) (lt : Nat → Bool) (IW OW : Nat → Nat → BitVec 8) (x q : Nat) (v : BitVec 8) (sz : Nat) (htw : tw ≤ 48) (htr : tr ≤ 48) (hq0 : 0 < q) (hr0 : x + q ≤ 16 * tw) (hd0 : x / 16 < tr) : vx_Met l yX5_burst wsX5_burst ({ frames := 6, cells := 1, slots := 6, locals := 90 } : Room) (va_Pc [.ref x0, .int (nI x), .int (nI q), .int (sI v)] (fun U => U.heap.size = sz ∧ va_P (dC, dI) vwCl (qW2 [(x0, .inr (4, [.ref i0, .ref d0, .ref w0, .ref r0])), (i0, .inr (2, [.int (nI 12), .ref i1, .ref i2, .ref i3, .ref i4, .ref i5, .ref i6, .ref i7])), (i1, .inl (cI, 12, .inl (qS yi))), (i2, .inl (cZ, 12, .inl (qZ zi))), (i3, .inl (cI, 12, .inl (qS lin))), (i4, .inl (cI, 4, .inl (qS si))), (i5, .inl (cI, 4, .inl (qN ai))), (i6, .inl (cI, 4, .inl (qS ci))), (i7, .inl (cI, 4, .inl (qS vi))), (o0, .inr (2, [.int (nI 16), .ref o1, .ref o2, .ref o3, .ref o4, .ref o5, .ref o6, .ref o7])), (o1, .inl (cI, 16, .inl (qS yo))), (o2, .inl (cZ, 16, .inl (qZ zo))), (o3, .inl (cI, 16, .inl (qS lou))), (o4, .inl (cI, 4, .inl (qS so))), (o5, .inl (cI, 4, .inl (qN ao))), (o6, .inl (cI, 4, .inl (qS co))), (o7, .inl (cI, 4, .inl (qS vo))), (d0, .inr (0, [.ref d1, .int (nI tw), .int (nI tr)])), (d1, .inl (cI, 768, .inl (qS dd))), (w0, .inr (3, [.ref d0, .ref i0, .ref o0, .ref w1, .ref w2])), (w1, .inl (cG, 48, .inr (.inr (.inr (.inr (fun i => some (ra i))))))), (w2, .inl (cI, 16, .inl (qS ob))), (r0, .inr (1, [.ref d0, .ref i0, .ref o0, .ref r1, .ref r2, .ref r3, .ref r4, .int (nI me), .int (nI du), .int (nI fi), .int (nI le)])), (r1, .inl (cG, 48, .inr (.inr (.inr (.inr (fun i => some (rb i))))))), (r2, .inl (cZ, 48, .inl (qZ od))), (r3, .inl (cI, 384, .inl (qS ou))), (r4, .inl (cZ, 48, .inl (qZ lt)))] (qP cI ra IW) (qP cI rb OW)) U.heap ∧ va_K (dC, dI) vwCl [(cI, .int), (cZ, .boolean), (cG, .array .int)] U ∧ qn_N U ∧ qx_P U)) (va_Qv (fun (_ : Unit) => False) (fun _ _ => True) (fun q => sz ≤ q)) (qx_X "java/lang/IllegalStateException" sz) 1 6 (fun q => sz ≤ q) := by
  refine vx_ofW (cc := cX5_burst) (maxL := 5) (ret := none) (by decide) rfl ?_
  intro p e s m args below meth c s₁ B hml hEx hv
  obtain ⟨rfl, hsz, hP, hK, hN, hX⟩ := hv
  have hx := B.exec
  have hb := B.bytes
  have hr := B.returns
  have hts := atoms_spec (ws := wsX5_burst) B.pre
  have hown : s.vm.findClass RX5 = some m.cls := findClass_of_methodNamed B.named
  have hlocks := B.notSynchronized
  subst hsz
  have hP : va_P (dC, dI) vwCl (qW2 [(x0, .inr (4, [.ref i0, .ref d0, .ref w0, .ref r0])), (i0, .inr (2, [.int (nI 12), .ref i1, .ref i2, .ref i3, .ref i4, .ref i5, .ref i6, .ref i7])), (i1, .inl (cI, 12, .inl (qS yi))), (i2, .inl (cZ, 12, .inl (qZ zi))), (i3, .inl (cI, 12, .inl (qS lin))), (i4, .inl (cI, 4, .inl (qS si))), (i5, .inl (cI, 4, .inl (qN ai))), (i6, .inl (cI, 4, .inl (qS ci))), (i7, .inl (cI, 4, .inl (qS vi))), (o0, .inr (2, [.int (nI 16), .ref o1, .ref o2, .ref o3, .ref o4, .ref o5, .ref o6, .ref o7])), (o1, .inl (cI, 16, .inl (qS yo))), (o2, .inl (cZ, 16, .inl (qZ zo))), (o3, .inl (cI, 16, .inl (qS lou))), (o4, .inl (cI, 4, .inl (qS so))), (o5, .inl (cI, 4, .inl (qN ao))), (o6, .inl (cI, 4, .inl (qS co))), (o7, .inl (cI, 4, .inl (qS vo))), (d0, .inr (0, [.ref d1, .int (nI tw), .int (nI tr)])), (d1, .inl (cI, 768, .inl (qS dd))), (w0, .inr (3, [.ref d0, .ref i0, .ref o0, .ref w1, .ref w2])), (w1, .inl (cG, 48, .inr (.inr (.inr (.inr (fun i => some (ra i))))))), (w2, .inl (cI, 16, .inl (qS ob))), (r0, .inr (1, [.ref d0, .ref i0, .ref o0, .ref r1, .ref r2, .ref r3, .ref r4, .int (nI me), .int (nI du), .int (nI fi), .int (nI le)])), (r1, .inl (cG, 48, .inr (.inr (.inr (.inr (fun i => some (rb i))))))), (r2, .inl (cZ, 48, .inl (qZ od))), (r3, .inl (cI, 384, .inl (qS ou))), (r4, .inl (cZ, 48, .inl (qZ lt)))] (qP cI ra IW) (qP cI rb OW)) s.heap := hP
  have hl := lv_entry ([.ref x0, .int (nI x), .int (nI q), .int (sI v)]) (n := 5) (Nat.le_of_ble_eq_true rfl)
  rw [lg_entry_eq]
  generalize (lg_sl ([.ref x0, .int (nI x), .int (nI q), .int (sI v)]) ++ List.replicate (5 - (lg_sl ([.ref x0, .int (nI x), .int (nI q), .int (sI v)])).length) Slot.unset).toArray = ls at hl ⊢
  have hl : lv_has ls 5 [(0, .ref x0), (1, .int (nI x)), (2, .int (nI q)), (3, .int (sI v))] := hl
  have k_21 := hts (.fieldLink RX5 21 "DiscCoder" "disc" "LDiscCoder$Disc;") (by decide +kernel)
  have i_X5 : ∀ w ∈ u_ws RX5 TX5 4, w ∈ wsX5_burst := by decide +kernel
  have i_X0 : ∀ w ∈ u_ws RX0 TX0 3, w ∈ wsX5_burst := by decide +kernel
  refine qr_nm (fun Q hQ => ?_)
  refine lv_iload_n hx hb dX5_burst_0 rfl (lv_at hl 2 rfl) ?_
  refine lv_if_lt (tgt := 11) hx hb dX5_burst_1 rfl  (fun h => absurd h (nI_pos (by omega))) (fun b1 => ?_)
  refine lv_iload_n hx hb dX5_burst_4 rfl (lv_at hl 3 rfl) ?_
  refine vp_callSi (va_Run.run (va_runS (As := [.int (sI v)]) (rest := []) ⟨hx, hb, hml, hown, hts⟩ (qc_holds l (sI v) ) (va_cwS 1 hts gX5_burst_X1_holds rfl rfl rfl (by decide +kernel) ⟨Nat.le_of_ble_eq_true rfl, Nat.le_of_ble_eq_true rfl⟩) ⟨fun a U g mk q => q, fun U hU hW => ⟨rfl, trivial⟩⟩ rfl rfl hl.1 rfl (lv_room (Nat.le_of_ble_eq_true rfl)) dX5_burst_5 ⟨Nat.le_of_ble_eq_true rfl, Nat.le_of_ble_eq_true rfl⟩)) (fun rv5 hr5 => ?_)
  obtain ⟨v5, e5, hv5⟩ := hr5
  subst e5
  refine qr_ifneZ (tgt := 21) hx hb dX5_burst_8 rfl  (fun b8 => ?_) (fun h => absurd (hv5.mpr (qs_sym v)) (by rw [h]; decide))
  refine lv_iload_n hx hb dX5_burst_21 rfl (lv_at hl 2 rfl) ?_
  refine qr_ifneN (tgt := 26) hx hb dX5_burst_22 rfl (by omega) (fun b22 => ?_) (fun h => absurd h (by omega))
  refine lv_iload_n hx hb dX5_burst_26 rfl (lv_at hl 1 rfl) ?_
  refine lv_if_lt (tgt := 46) hx hb dX5_burst_27 rfl  (fun h => absurd h (nI_pos (by omega))) (fun b27 => ?_)
  refine lv_iload_n hx hb dX5_burst_30 rfl (lv_at hl 1 rfl) ?_
  refine lv_aload_n hx hb dX5_burst_31 rfl (lv_at hl 0 rfl) ?_
  refine va_get (D := (dC, dI)) (ci := 4) (v := .ref d0) (C := RX5) (T := TX5) (N := 4) hx hb hts i_X5 hown hK hP 0 rfl rfl 1 (by decide) k_21 (fun _ h9 => h9) rfl dX5_burst_32 ?_
  refine va_getN (D := (dC, dI)) (ci := 0) (v := .int (nI tw)) (C := RX0) (T := TX0) (N := 3) hx hb hts i_X0 hown hK hP 17 rfl rfl 1 (by decide) (va_Nw.use rfl (hN (.fieldLinkNest "DiscCoder" 41 "DiscCoder$Disc" "rowsWritten" "I" "DiscCoder") (by decide +kernel))) (fun _ h9 => h9) rfl dX5_burst_35 ?_
  refine lv_bipush (v := nI 16) hx hb dX5_burst_38 (by decide) ?_
  refine qr_imul (z := nI (tw * 16)) hx hb dX5_burst_40 (pk_mul _ _) ?_
  refine lv_iload_n hx hb dX5_burst_41 rfl (lv_at hl 2 rfl) ?_
  refine qr_isub (z := nI ((tw * 16) - q)) hx hb dX5_burst_42 (pk_sub (by omega)) ?_
  refine qr_le (tgt := 56) hx hb dX5_burst_43 rfl (by omega) (by omega) (fun b43 => ?_) (fun h => absurd h (by omega))
  refine lv_iload_n hx hb dX5_burst_56 rfl (lv_at hl 1 rfl) ?_
  refine lv_aload_n hx hb dX5_burst_57 rfl (lv_at hl 0 rfl) ?_
  refine va_get (D := (dC, dI)) (ci := 4) (v := .ref d0) (C := RX5) (T := TX5) (N := 4) hx hb hts i_X5 hown hK hP 0 rfl rfl 1 (by decide) k_21 (fun _ h9 => h9) rfl dX5_burst_58 ?_
  refine va_getN (D := (dC, dI)) (ci := 0) (v := .int (nI tr)) (C := RX0) (T := TX0) (N := 3) hx hb hts i_X0 hown hK hP 17 rfl rfl 2 (by decide) (va_Nw.use rfl (hN (.fieldLinkNest "DiscCoder" 80 "DiscCoder$Disc" "rowsRead" "I" "DiscCoder") (by decide +kernel))) (fun _ h9 => h9) rfl dX5_burst_61 ?_
  refine lv_bipush (v := nI 16) hx hb dX5_burst_64 (by decide) ?_
  refine qr_imul (z := nI (tr * 16)) hx hb dX5_burst_66 (pk_mul _ _) ?_
  refine qr_ge (tgt := 80) hx hb dX5_burst_67 rfl (by omega) (by omega) (fun h => absurd h (by omega)) (fun b67 => ?_)
  subst hQ
  exact qx_throw (E := "java/lang/IllegalStateException") (ik := 45) (is := 87) (ic := 49) (text := "a row was read") hx hb hl9 hown hX (by decide +kernel) (by decide +kernel) (hl.1.trans hml.symm) dX5_burst_70 dX5_burst_73 dX5_burst_74 dX5_burst_76 dX5_burst_79 hEx (Nat.le_of_ble_eq_true rfl) (Nat.le_of_ble_eq_true rfl) (Nat.le_of_ble_eq_true rfl) (Nat.le_of_ble_eq_true rfl) hlocks
set_option maxHeartbeats 4000000 in
set_option maxRecDepth 100000 in
/-- DiscCoder.read throws -/
theorem qx_read (l : Launch) (hl9 : l.stackTraces = false) (dC : Nat → ClassId) (dI : Nat → Nat → Nat) (cI cZ cG : ClassId) (x0 i0 i1 i2 i3 i4 i5 i6 i7 o0 o1 o2 o3 o4 o5 o6 o7 d0 d1 w0 w1 w2 r0 r1 r2 r3 r4 tw tr me du fi le : Nat) (ra rb : Nat → Nat) (yi : Nat → BitVec 8) (zi : Nat → Bool) (lin si : Nat → BitVec 8) (ai : Nat → Nat) (ci vi : Nat → BitVec 8) (yo : Nat → BitVec 8) (zo : Nat → Bool) (lou so : Nat → BitVec 8) (ao : Nat → Nat) (co vo : Nat → BitVec 8) (dd ob : Nat → BitVec 8) (od : Nat → Bool) (ou : Nat → BitVec 8) (lt : Nat → Bool) (IW OW : Nat → Nat → BitVec 8) (sz : Nat) (htr : tr = tw) (htw : tw ≤ 48) : vx_Met l yX5_read wsX5_read ({ frames := 6, cells := 1, slots := 6, locals := 90 } : Room) (va_Pc [.ref x0] (fun U => U.heap.size = sz ∧ va_P (dC, dI) vwCl (qW2 [(x0, .inr (4, [.ref i0, .ref d0, .ref w0, .ref r0])), (i0, .inr (2, [.int (nI 12), .ref i1, .ref i2, .ref i3, .ref i4, .ref i5, .ref i6, .ref i7])), (i1, .inl (cI, 12, .inl (qS yi))), (i2, .inl (cZ, 12, .inl (qZ zi))), (i3, .inl (cI, 12, .inl (qS lin))), (i4, .inl (cI, 4, .inl (qS si))), (i5, .inl (cI, 4, .inl (qN ai))), (i6, .inl (cI, 4, .inl (qS ci))), (i7, .inl (cI, 4, .inl (qS vi))), (o0, .inr (2, [.int (nI 16), .ref o1, .ref o2, .ref o3, .ref o4, .ref o5, .ref o6, .ref o7])), (o1, .inl (cI, 16, .inl (qS yo))), (o2, .inl (cZ, 16, .inl (qZ zo))), (o3, .inl (cI, 16, .inl (qS lou))), (o4, .inl (cI, 4, .inl (qS so))), (o5, .inl (cI, 4, .inl (qN ao))), (o6, .inl (cI, 4, .inl (qS co))), (o7, .inl (cI, 4, .inl (qS vo))), (d0, .inr (0, [.ref d1, .int (nI tw), .int (nI tr)])), (d1, .inl (cI, 768, .inl (qS dd))), (w0, .inr (3, [.ref d0, .ref i0, .ref o0, .ref w1, .ref w2])), (w1, .inl (cG, 48, .inr (.inr (.inr (.inr (fun i => some (ra i))))))), (w2, .inl (cI, 16, .inl (qS ob))), (r0, .inr (1, [.ref d0, .ref i0, .ref o0, .ref r1, .ref r2, .ref r3, .ref r4, .int (nI me), .int (nI du), .int (nI fi), .int (nI le)])), (r1, .inl (cG, 48, .inr (.inr (.inr (.inr (fun i => some (rb i))))))), (r2, .inl (cZ, 48, .inl (qZ od))), (r3, .inl (cI, 384, .inl (qS ou))), (r4, .inl (cZ, 48, .inl (qZ lt)))] (qP cI ra IW) (qP cI rb OW)) U.heap ∧ va_K (dC, dI) vwCl [(cI, .int), (cZ, .boolean), (cG, .array .int)] U ∧ qn_N U ∧ qx_P U)) (va_Qi (fun (_ : Int32) (_ : Unit) => False) (fun _ _ => True) (fun q => sz ≤ q)) (qx_X "java/util/NoSuchElementException" sz) 1 6 (fun q => sz ≤ q) := by
  refine vx_ofW (cc := cX5_read) (maxL := 1) (ret := (some .int)) (by decide) rfl ?_
  intro p e s m args below meth c s₁ B hml hEx hv
  obtain ⟨rfl, hsz, hP, hK, hN, hX⟩ := hv
  have hx := B.exec
  have hb := B.bytes
  have hr := B.returns
  have hts := atoms_spec (ws := wsX5_read) B.pre
  have hown : s.vm.findClass RX5 = some m.cls := findClass_of_methodNamed B.named
  have hlocks := B.notSynchronized
  subst hsz
  have hP : va_P (dC, dI) vwCl (qW2 [(x0, .inr (4, [.ref i0, .ref d0, .ref w0, .ref r0])), (i0, .inr (2, [.int (nI 12), .ref i1, .ref i2, .ref i3, .ref i4, .ref i5, .ref i6, .ref i7])), (i1, .inl (cI, 12, .inl (qS yi))), (i2, .inl (cZ, 12, .inl (qZ zi))), (i3, .inl (cI, 12, .inl (qS lin))), (i4, .inl (cI, 4, .inl (qS si))), (i5, .inl (cI, 4, .inl (qN ai))), (i6, .inl (cI, 4, .inl (qS ci))), (i7, .inl (cI, 4, .inl (qS vi))), (o0, .inr (2, [.int (nI 16), .ref o1, .ref o2, .ref o3, .ref o4, .ref o5, .ref o6, .ref o7])), (o1, .inl (cI, 16, .inl (qS yo))), (o2, .inl (cZ, 16, .inl (qZ zo))), (o3, .inl (cI, 16, .inl (qS lou))), (o4, .inl (cI, 4, .inl (qS so))), (o5, .inl (cI, 4, .inl (qN ao))), (o6, .inl (cI, 4, .inl (qS co))), (o7, .inl (cI, 4, .inl (qS vo))), (d0, .inr (0, [.ref d1, .int (nI tw), .int (nI tr)])), (d1, .inl (cI, 768, .inl (qS dd))), (w0, .inr (3, [.ref d0, .ref i0, .ref o0, .ref w1, .ref w2])), (w1, .inl (cG, 48, .inr (.inr (.inr (.inr (fun i => some (ra i))))))), (w2, .inl (cI, 16, .inl (qS ob))), (r0, .inr (1, [.ref d0, .ref i0, .ref o0, .ref r1, .ref r2, .ref r3, .ref r4, .int (nI me), .int (nI du), .int (nI fi), .int (nI le)])), (r1, .inl (cG, 48, .inr (.inr (.inr (.inr (fun i => some (rb i))))))), (r2, .inl (cZ, 48, .inl (qZ od))), (r3, .inl (cI, 384, .inl (qS ou))), (r4, .inl (cZ, 48, .inl (qZ lt)))] (qP cI ra IW) (qP cI rb OW)) s.heap := hP
  have hl := lv_entry ([.ref x0]) (n := 1) (Nat.le_of_ble_eq_true rfl)
  rw [lg_entry_eq]
  generalize (lg_sl ([.ref x0]) ++ List.replicate (1 - (lg_sl ([.ref x0])).length) Slot.unset).toArray = ls at hl ⊢
  have hl : lv_has ls 1 [(0, .ref x0)] := hl
  have k_21 := hts (.fieldLink RX5 21 "DiscCoder" "disc" "LDiscCoder$Disc;") (by decide +kernel)
  have k_37 := hts (.fieldLink RX5 37 "DiscCoder" "reader" "LDiscCoder$Reader;") (by decide +kernel)
  have i_X5 : ∀ w ∈ u_ws RX5 TX5 4, w ∈ wsX5_read := by decide +kernel
  have i_X0 : ∀ w ∈ u_ws RX0 TX0 3, w ∈ wsX5_read := by decide +kernel
  refine qr_nm (fun Q hQ => ?_)
  refine lv_aload_n hx hb dX5_read_0 rfl (lv_at hl 0 rfl) ?_
  refine va_get (D := (dC, dI)) (ci := 4) (v := .ref d0) (C := RX5) (T := TX5) (N := 4) hx hb hts i_X5 hown hK hP 0 rfl rfl 1 (by decide) k_21 (fun _ h9 => h9) rfl dX5_read_1 ?_
  refine va_getN (D := (dC, dI)) (ci := 0) (v := .int (nI tr)) (C := RX0) (T := TX0) (N := 3) hx hb hts i_X0 hown hK hP 17 rfl rfl 2 (by decide) (va_Nw.use rfl (hN (.fieldLinkNest "DiscCoder" 80 "DiscCoder$Disc" "rowsRead" "I" "DiscCoder") (by decide +kernel))) (fun _ h9 => h9) rfl dX5_read_4 ?_
  refine lv_aload_n hx hb dX5_read_7 rfl (lv_at hl 0 rfl) ?_
  refine va_get (D := (dC, dI)) (ci := 4) (v := .ref d0) (C := RX5) (T := TX5) (N := 4) hx hb hts i_X5 hown hK hP 0 rfl rfl 1 (by decide) k_21 (fun _ h9 => h9) rfl dX5_read_8 ?_
  refine va_getN (D := (dC, dI)) (ci := 0) (v := .int (nI tw)) (C := RX0) (T := TX0) (N := 3) hx hb hts i_X0 hown hK hP 17 rfl rfl 1 (by decide) (va_Nw.use rfl (hN (.fieldLinkNest "DiscCoder" 41 "DiscCoder$Disc" "rowsWritten" "I" "DiscCoder") (by decide +kernel))) (fun _ h9 => h9) rfl dX5_read_11 ?_
  refine qr_lt (tgt := 27) hx hb dX5_read_14 rfl (by omega) (by omega) (fun h => absurd h (by omega)) (fun b14 => ?_)
  subst hQ
  exact qx_throw (E := "java/util/NoSuchElementException") (ik := 89) (is := 91) (ic := 93) (text := "all rows were read") hx hb hl9 hown hX (by decide +kernel) (by decide +kernel) (hl.1.trans hml.symm) dX5_read_17 dX5_read_20 dX5_read_21 dX5_read_23 dX5_read_26 hEx (Nat.le_of_ble_eq_true rfl) (Nat.le_of_ble_eq_true rfl) (Nat.le_of_ble_eq_true rfl) (Nat.le_of_ble_eq_true rfl) hlocks
set_option maxHeartbeats 4000000 in
set_option maxRecDepth 100000 in
/-- DiscCoder.out throws -/
theorem qx_out (l : Launch) (hl9 : l.stackTraces = false) (dC : Nat → ClassId) (dI : Nat → Nat → Nat) (cI cZ cG : ClassId) (x0 i0 i1 i2 i3 i4 i5 i6 i7 o0 o1 o2 o3 o4 o5 o6 o7 d0 d1 w0 w1 w2 r0 r1 r2 r3 r4 tw tr me du fi le : Nat) (ra rb : Nat → Nat) (yi : Nat → BitVec 8) (zi : Nat → Bool) (lin si : Nat → BitVec 8) (ai : Nat → Nat) (ci vi : Nat → BitVec 8) (yo : Nat → BitVec 8) (zo : Nat → Bool) (lou so : Nat → BitVec 8) (ao : Nat → Nat) (co vo : Nat → BitVec 8) (dd ob : Nat → BitVec 8) (od : Nat → Bool) (ou : Nat → BitVec 8) (lt : Nat → Bool) (IW OW : Nat → Nat → BitVec 8) (x : Int32) (sz : Nat) (hno : x < 0 ∨ nI (tr * 8) ≤ x) : vx_Met l yX5_out wsX5_out ({ frames := 6, cells := 1, slots := 6, locals := 90 } : Room) (va_Pc [.ref x0, .int x] (fun U => U.heap.size = sz ∧ va_P (dC, dI) vwCl (qW2 [(x0, .inr (4, [.ref i0, .ref d0, .ref w0, .ref r0])), (i0, .inr (2, [.int (nI 12), .ref i1, .ref i2, .ref i3, .ref i4, .ref i5, .ref i6, .ref i7])), (i1, .inl (cI, 12, .inl (qS yi))), (i2, .inl (cZ, 12, .inl (qZ zi))), (i3, .inl (cI, 12, .inl (qS lin))), (i4, .inl (cI, 4, .inl (qS si))), (i5, .inl (cI, 4, .inl (qN ai))), (i6, .inl (cI, 4, .inl (qS ci))), (i7, .inl (cI, 4, .inl (qS vi))), (o0, .inr (2, [.int (nI 16), .ref o1, .ref o2, .ref o3, .ref o4, .ref o5, .ref o6, .ref o7])), (o1, .inl (cI, 16, .inl (qS yo))), (o2, .inl (cZ, 16, .inl (qZ zo))), (o3, .inl (cI, 16, .inl (qS lou))), (o4, .inl (cI, 4, .inl (qS so))), (o5, .inl (cI, 4, .inl (qN ao))), (o6, .inl (cI, 4, .inl (qS co))), (o7, .inl (cI, 4, .inl (qS vo))), (d0, .inr (0, [.ref d1, .int (nI tw), .int (nI tr)])), (d1, .inl (cI, 768, .inl (qS dd))), (w0, .inr (3, [.ref d0, .ref i0, .ref o0, .ref w1, .ref w2])), (w1, .inl (cG, 48, .inr (.inr (.inr (.inr (fun i => some (ra i))))))), (w2, .inl (cI, 16, .inl (qS ob))), (r0, .inr (1, [.ref d0, .ref i0, .ref o0, .ref r1, .ref r2, .ref r3, .ref r4, .int (nI me), .int (nI du), .int (nI fi), .int (nI le)])), (r1, .inl (cG, 48, .inr (.inr (.inr (.inr (fun i => some (rb i))))))), (r2, .inl (cZ, 48, .inl (qZ od))), (r3, .inl (cI, 384, .inl (qS ou))), (r4, .inl (cZ, 48, .inl (qZ lt)))] (qP cI ra IW) (qP cI rb OW)) U.heap ∧ va_K (dC, dI) vwCl [(cI, .int), (cZ, .boolean), (cG, .array .int)] U ∧ qn_N U ∧ qx_P U)) (va_Qi (fun (_ : Int32) (_ : Unit) => False) (fun _ _ => True) (fun q => sz ≤ q)) (qx_X "java/lang/IndexOutOfBoundsException" sz) 1 6 (fun q => sz ≤ q) := by
  refine vx_ofW (cc := cX5_out) (maxL := 2) (ret := (some .int)) (by decide) rfl ?_
  intro p e s m args below meth c s₁ B hml hEx hv
  obtain ⟨rfl, hsz, hP, hK, hN, hX⟩ := hv
  have hx := B.exec
  have hb := B.bytes
  have hr := B.returns
  have hts := atoms_spec (ws := wsX5_out) B.pre
  have hown : s.vm.findClass RX5 = some m.cls := findClass_of_methodNamed B.named
  have hlocks := B.notSynchronized
  subst hsz
  have hP : va_P (dC, dI) vwCl (qW2 [(x0, .inr (4, [.ref i0, .ref d0, .ref w0, .ref r0])), (i0, .inr (2, [.int (nI 12), .ref i1, .ref i2, .ref i3, .ref i4, .ref i5, .ref i6, .ref i7])), (i1, .inl (cI, 12, .inl (qS yi))), (i2, .inl (cZ, 12, .inl (qZ zi))), (i3, .inl (cI, 12, .inl (qS lin))), (i4, .inl (cI, 4, .inl (qS si))), (i5, .inl (cI, 4, .inl (qN ai))), (i6, .inl (cI, 4, .inl (qS ci))), (i7, .inl (cI, 4, .inl (qS vi))), (o0, .inr (2, [.int (nI 16), .ref o1, .ref o2, .ref o3, .ref o4, .ref o5, .ref o6, .ref o7])), (o1, .inl (cI, 16, .inl (qS yo))), (o2, .inl (cZ, 16, .inl (qZ zo))), (o3, .inl (cI, 16, .inl (qS lou))), (o4, .inl (cI, 4, .inl (qS so))), (o5, .inl (cI, 4, .inl (qN ao))), (o6, .inl (cI, 4, .inl (qS co))), (o7, .inl (cI, 4, .inl (qS vo))), (d0, .inr (0, [.ref d1, .int (nI tw), .int (nI tr)])), (d1, .inl (cI, 768, .inl (qS dd))), (w0, .inr (3, [.ref d0, .ref i0, .ref o0, .ref w1, .ref w2])), (w1, .inl (cG, 48, .inr (.inr (.inr (.inr (fun i => some (ra i))))))), (w2, .inl (cI, 16, .inl (qS ob))), (r0, .inr (1, [.ref d0, .ref i0, .ref o0, .ref r1, .ref r2, .ref r3, .ref r4, .int (nI me), .int (nI du), .int (nI fi), .int (nI le)])), (r1, .inl (cG, 48, .inr (.inr (.inr (.inr (fun i => some (rb i))))))), (r2, .inl (cZ, 48, .inl (qZ od))), (r3, .inl (cI, 384, .inl (qS ou))), (r4, .inl (cZ, 48, .inl (qZ lt)))] (qP cI ra IW) (qP cI rb OW)) s.heap := hP
  have hl := lv_entry ([.ref x0, .int x]) (n := 2) (Nat.le_of_ble_eq_true rfl)
  rw [lg_entry_eq]
  generalize (lg_sl ([.ref x0, .int x]) ++ List.replicate (2 - (lg_sl ([.ref x0, .int x])).length) Slot.unset).toArray = ls at hl ⊢
  have hl : lv_has ls 2 [(0, .ref x0), (1, .int x)] := hl
  have k_21 := hts (.fieldLink RX5 21 "DiscCoder" "disc" "LDiscCoder$Disc;") (by decide +kernel)
  have k_37 := hts (.fieldLink RX5 37 "DiscCoder" "reader" "LDiscCoder$Reader;") (by decide +kernel)
  have i_X5 : ∀ w ∈ u_ws RX5 TX5 4, w ∈ wsX5_out := by decide +kernel
  have i_X0 : ∀ w ∈ u_ws RX0 TX0 3, w ∈ wsX5_out := by decide +kernel
  have i_X2 : ∀ w ∈ u_ws RX2 TX2 11, w ∈ wsX5_out := by decide +kernel
  refine qr_nm (fun Q hQ => ?_)
  refine lv_iload_n hx hb dX5_out_0 rfl (lv_at hl 1 rfl) ?_
  refine lv_if_lt (tgt := 18) hx hb dX5_out_1 rfl  (fun b1 => ?_) (fun b1 => ?_)
  · subst hQ
    exact qx_throw (E := "java/lang/IndexOutOfBoundsException") (ik := 60) (is := 98) (ic := 64) (text := "no such symbol in the output") hx hb hl9 hown hX (by decide +kernel) (by decide +kernel) (hl.1.trans hml.symm) dX5_out_18 dX5_out_21 dX5_out_22 dX5_out_24 dX5_out_27 hEx (Nat.le_of_ble_eq_true rfl) (Nat.le_of_ble_eq_true rfl) (Nat.le_of_ble_eq_true rfl) (Nat.le_of_ble_eq_true rfl) hlocks
  · refine lv_iload_n hx hb dX5_out_4 rfl (lv_at hl 1 rfl) ?_
    refine lv_aload_n hx hb dX5_out_5 rfl (lv_at hl 0 rfl) ?_
    refine va_get (D := (dC, dI)) (ci := 4) (v := .ref d0) (C := RX5) (T := TX5) (N := 4) hx hb hts i_X5 hown hK hP 0 rfl rfl 1 (by decide) k_21 (fun _ h9 => h9) rfl dX5_out_6 ?_
    refine va_getN (D := (dC, dI)) (ci := 0) (v := .int (nI tr)) (C := RX0) (T := TX0) (N := 3) hx hb hts i_X0 hown hK hP 17 rfl rfl 2 (by decide) (va_Nw.use rfl (hN (.fieldLinkNest "DiscCoder" 80 "DiscCoder$Disc" "rowsRead" "I" "DiscCoder") (by decide +kernel))) (fun _ h9 => h9) rfl dX5_out_9 ?_
    refine lv_bipush (v := nI 8) hx hb dX5_out_12 (by decide) ?_
    refine qr_imul (z := nI (tr * 8)) hx hb dX5_out_14 (pk_mul _ _) ?_
    refine lv_icmp_lt (tgt := 28) hx hb dX5_out_15 rfl  (fun h => absurd ((hno.resolve_left b1)) (Int32.not_le.mpr h)) (fun b15 => ?_)
    subst hQ
    exact qx_throw (E := "java/lang/IndexOutOfBoundsException") (ik := 60) (is := 98) (ic := 64) (text := "no such symbol in the output") hx hb hl9 hown hX (by decide +kernel) (by decide +kernel) (hl.1.trans hml.symm) dX5_out_18 dX5_out_21 dX5_out_22 dX5_out_24 dX5_out_27 hEx (Nat.le_of_ble_eq_true rfl) (Nat.le_of_ble_eq_true rfl) (Nat.le_of_ble_eq_true rfl) (Nat.le_of_ble_eq_true rfl) hlocks
set_option maxHeartbeats 4000000 in
set_option maxRecDepth 100000 in
/-- DiscCoder.flagged throws -/
theorem qx_flag (l : Launch) (hl9 : l.stackTraces = false) (dC : Nat → ClassId) (dI : Nat → Nat → Nat) (cI cZ cG : ClassId) (x0 i0 i1 i2 i3 i4 i5 i6 i7 o0 o1 o2 o3 o4 o5 o6 o7 d0 d1 w0 w1 w2 r0 r1 r2 r3 r4 tw tr me du fi le : Nat) (ra rb : Nat → Nat) (yi : Nat → BitVec 8) (zi : Nat → Bool) (lin si : Nat → BitVec 8) (ai : Nat → Nat) (ci vi : Nat → BitVec 8) (yo : Nat → BitVec 8) (zo : Nat → Bool) (lou so : Nat → BitVec 8) (ao : Nat → Nat) (co vo : Nat → BitVec 8) (dd ob : Nat → BitVec 8) (od : Nat → Bool) (ou : Nat → BitVec 8) (lt : Nat → Bool) (IW OW : Nat → Nat → BitVec 8) (x : Int32) (sz : Nat) (hno : x < 0 ∨ nI (tr * 8) ≤ x) : vx_Met l yX5_flagged wsX5_flagged ({ frames := 6, cells := 1, slots := 6, locals := 90 } : Room) (va_Pc [.ref x0, .int x] (fun U => U.heap.size = sz ∧ va_P (dC, dI) vwCl (qW2 [(x0, .inr (4, [.ref i0, .ref d0, .ref w0, .ref r0])), (i0, .inr (2, [.int (nI 12), .ref i1, .ref i2, .ref i3, .ref i4, .ref i5, .ref i6, .ref i7])), (i1, .inl (cI, 12, .inl (qS yi))), (i2, .inl (cZ, 12, .inl (qZ zi))), (i3, .inl (cI, 12, .inl (qS lin))), (i4, .inl (cI, 4, .inl (qS si))), (i5, .inl (cI, 4, .inl (qN ai))), (i6, .inl (cI, 4, .inl (qS ci))), (i7, .inl (cI, 4, .inl (qS vi))), (o0, .inr (2, [.int (nI 16), .ref o1, .ref o2, .ref o3, .ref o4, .ref o5, .ref o6, .ref o7])), (o1, .inl (cI, 16, .inl (qS yo))), (o2, .inl (cZ, 16, .inl (qZ zo))), (o3, .inl (cI, 16, .inl (qS lou))), (o4, .inl (cI, 4, .inl (qS so))), (o5, .inl (cI, 4, .inl (qN ao))), (o6, .inl (cI, 4, .inl (qS co))), (o7, .inl (cI, 4, .inl (qS vo))), (d0, .inr (0, [.ref d1, .int (nI tw), .int (nI tr)])), (d1, .inl (cI, 768, .inl (qS dd))), (w0, .inr (3, [.ref d0, .ref i0, .ref o0, .ref w1, .ref w2])), (w1, .inl (cG, 48, .inr (.inr (.inr (.inr (fun i => some (ra i))))))), (w2, .inl (cI, 16, .inl (qS ob))), (r0, .inr (1, [.ref d0, .ref i0, .ref o0, .ref r1, .ref r2, .ref r3, .ref r4, .int (nI me), .int (nI du), .int (nI fi), .int (nI le)])), (r1, .inl (cG, 48, .inr (.inr (.inr (.inr (fun i => some (rb i))))))), (r2, .inl (cZ, 48, .inl (qZ od))), (r3, .inl (cI, 384, .inl (qS ou))), (r4, .inl (cZ, 48, .inl (qZ lt)))] (qP cI ra IW) (qP cI rb OW)) U.heap ∧ va_K (dC, dI) vwCl [(cI, .int), (cZ, .boolean), (cG, .array .int)] U ∧ qn_N U ∧ qx_P U)) (va_Qi (fun (_ : Int32) (_ : Unit) => False) (fun _ _ => True) (fun q => sz ≤ q)) (qx_X "java/lang/IndexOutOfBoundsException" sz) 1 6 (fun q => sz ≤ q) := by
  refine vx_ofW (cc := cX5_flagged) (maxL := 2) (ret := (some .boolean)) (by decide) rfl ?_
  intro p e s m args below meth c s₁ B hml hEx hv
  obtain ⟨rfl, hsz, hP, hK, hN, hX⟩ := hv
  have hx := B.exec
  have hb := B.bytes
  have hr := B.returns
  have hts := atoms_spec (ws := wsX5_flagged) B.pre
  have hown : s.vm.findClass RX5 = some m.cls := findClass_of_methodNamed B.named
  have hlocks := B.notSynchronized
  subst hsz
  have hP : va_P (dC, dI) vwCl (qW2 [(x0, .inr (4, [.ref i0, .ref d0, .ref w0, .ref r0])), (i0, .inr (2, [.int (nI 12), .ref i1, .ref i2, .ref i3, .ref i4, .ref i5, .ref i6, .ref i7])), (i1, .inl (cI, 12, .inl (qS yi))), (i2, .inl (cZ, 12, .inl (qZ zi))), (i3, .inl (cI, 12, .inl (qS lin))), (i4, .inl (cI, 4, .inl (qS si))), (i5, .inl (cI, 4, .inl (qN ai))), (i6, .inl (cI, 4, .inl (qS ci))), (i7, .inl (cI, 4, .inl (qS vi))), (o0, .inr (2, [.int (nI 16), .ref o1, .ref o2, .ref o3, .ref o4, .ref o5, .ref o6, .ref o7])), (o1, .inl (cI, 16, .inl (qS yo))), (o2, .inl (cZ, 16, .inl (qZ zo))), (o3, .inl (cI, 16, .inl (qS lou))), (o4, .inl (cI, 4, .inl (qS so))), (o5, .inl (cI, 4, .inl (qN ao))), (o6, .inl (cI, 4, .inl (qS co))), (o7, .inl (cI, 4, .inl (qS vo))), (d0, .inr (0, [.ref d1, .int (nI tw), .int (nI tr)])), (d1, .inl (cI, 768, .inl (qS dd))), (w0, .inr (3, [.ref d0, .ref i0, .ref o0, .ref w1, .ref w2])), (w1, .inl (cG, 48, .inr (.inr (.inr (.inr (fun i => some (ra i))))))), (w2, .inl (cI, 16, .inl (qS ob))), (r0, .inr (1, [.ref d0, .ref i0, .ref o0, .ref r1, .ref r2, .ref r3, .ref r4, .int (nI me), .int (nI du), .int (nI fi), .int (nI le)])), (r1, .inl (cG, 48, .inr (.inr (.inr (.inr (fun i => some (rb i))))))), (r2, .inl (cZ, 48, .inl (qZ od))), (r3, .inl (cI, 384, .inl (qS ou))), (r4, .inl (cZ, 48, .inl (qZ lt)))] (qP cI ra IW) (qP cI rb OW)) s.heap := hP
  have hl := lv_entry ([.ref x0, .int x]) (n := 2) (Nat.le_of_ble_eq_true rfl)
  rw [lg_entry_eq]
  generalize (lg_sl ([.ref x0, .int x]) ++ List.replicate (2 - (lg_sl ([.ref x0, .int x])).length) Slot.unset).toArray = ls at hl ⊢
  have hl : lv_has ls 2 [(0, .ref x0), (1, .int x)] := hl
  have k_21 := hts (.fieldLink RX5 21 "DiscCoder" "disc" "LDiscCoder$Disc;") (by decide +kernel)
  have k_37 := hts (.fieldLink RX5 37 "DiscCoder" "reader" "LDiscCoder$Reader;") (by decide +kernel)
  have i_X5 : ∀ w ∈ u_ws RX5 TX5 4, w ∈ wsX5_flagged := by decide +kernel
  have i_X0 : ∀ w ∈ u_ws RX0 TX0 3, w ∈ wsX5_flagged := by decide +kernel
  have i_X2 : ∀ w ∈ u_ws RX2 TX2 11, w ∈ wsX5_flagged := by decide +kernel
  refine qr_nm (fun Q hQ => ?_)
  refine lv_iload_n hx hb dX5_flagged_0 rfl (lv_at hl 1 rfl) ?_
  refine lv_if_lt (tgt := 18) hx hb dX5_flagged_1 rfl  (fun b1 => ?_) (fun b1 => ?_)
  · subst hQ
    exact qx_throw (E := "java/lang/IndexOutOfBoundsException") (ik := 60) (is := 98) (ic := 64) (text := "no such symbol in the output") hx hb hl9 hown hX (by decide +kernel) (by decide +kernel) (hl.1.trans hml.symm) dX5_flagged_18 dX5_flagged_21 dX5_flagged_22 dX5_flagged_24 dX5_flagged_27 hEx (Nat.le_of_ble_eq_true rfl) (Nat.le_of_ble_eq_true rfl) (Nat.le_of_ble_eq_true rfl) (Nat.le_of_ble_eq_true rfl) hlocks
  · refine lv_iload_n hx hb dX5_flagged_4 rfl (lv_at hl 1 rfl) ?_
    refine lv_aload_n hx hb dX5_flagged_5 rfl (lv_at hl 0 rfl) ?_
    refine va_get (D := (dC, dI)) (ci := 4) (v := .ref d0) (C := RX5) (T := TX5) (N := 4) hx hb hts i_X5 hown hK hP 0 rfl rfl 1 (by decide) k_21 (fun _ h9 => h9) rfl dX5_flagged_6 ?_
    refine va_getN (D := (dC, dI)) (ci := 0) (v := .int (nI tr)) (C := RX0) (T := TX0) (N := 3) hx hb hts i_X0 hown hK hP 17 rfl rfl 2 (by decide) (va_Nw.use rfl (hN (.fieldLinkNest "DiscCoder" 80 "DiscCoder$Disc" "rowsRead" "I" "DiscCoder") (by decide +kernel))) (fun _ h9 => h9) rfl dX5_flagged_9 ?_
    refine lv_bipush (v := nI 8) hx hb dX5_flagged_12 (by decide) ?_
    refine qr_imul (z := nI (tr * 8)) hx hb dX5_flagged_14 (pk_mul _ _) ?_
    refine lv_icmp_lt (tgt := 28) hx hb dX5_flagged_15 rfl  (fun h => absurd ((hno.resolve_left b1)) (Int32.not_le.mpr h)) (fun b15 => ?_)
    subst hQ
    exact qx_throw (E := "java/lang/IndexOutOfBoundsException") (ik := 60) (is := 98) (ic := 64) (text := "no such symbol in the output") hx hb hl9 hown hX (by decide +kernel) (by decide +kernel) (hl.1.trans hml.symm) dX5_flagged_18 dX5_flagged_21 dX5_flagged_22 dX5_flagged_24 dX5_flagged_27 hEx (Nat.le_of_ble_eq_true rfl) (Nat.le_of_ble_eq_true rfl) (Nat.le_of_ble_eq_true rfl) (Nat.le_of_ble_eq_true rfl) hlocks
set_option maxHeartbeats 4000000 in
set_option maxRecDepth 100000 in
/-- DiscCoder.figure throws -/
theorem qx_fig (l : Launch) (hl9 : l.stackTraces = false) (dC : Nat → ClassId) (dI : Nat → Nat → Nat) (cI cZ cG : ClassId) (x0 i0 i1 i2 i3 i4 i5 i6 i7 o0 o1 o2 o3 o4 o5 o6 o7 d0 d1 w0 w1 w2 r0 r1 r2 r3 r4 tw tr me du fi le : Nat) (ra rb : Nat → Nat) (yi : Nat → BitVec 8) (zi : Nat → Bool) (lin si : Nat → BitVec 8) (ai : Nat → Nat) (ci vi : Nat → BitVec 8) (yo : Nat → BitVec 8) (zo : Nat → Bool) (lou so : Nat → BitVec 8) (ao : Nat → Nat) (co vo : Nat → BitVec 8) (dd ob : Nat → BitVec 8) (od : Nat → Bool) (ou : Nat → BitVec 8) (lt : Nat → Bool) (IW OW : Nat → Nat → BitVec 8) (x : Int32) (sz : Nat) (hno : x < 0 ∨ ¬ x ≤ nI 6) : vx_Met l yX5_figure wsX5_figure ({ frames := 6, cells := 1, slots := 6, locals := 90 } : Room) (va_Pc [.ref x0, .int x] (fun U => U.heap.size = sz ∧ va_P (dC, dI) vwCl (qW2 [(x0, .inr (4, [.ref i0, .ref d0, .ref w0, .ref r0])), (i0, .inr (2, [.int (nI 12), .ref i1, .ref i2, .ref i3, .ref i4, .ref i5, .ref i6, .ref i7])), (i1, .inl (cI, 12, .inl (qS yi))), (i2, .inl (cZ, 12, .inl (qZ zi))), (i3, .inl (cI, 12, .inl (qS lin))), (i4, .inl (cI, 4, .inl (qS si))), (i5, .inl (cI, 4, .inl (qN ai))), (i6, .inl (cI, 4, .inl (qS ci))), (i7, .inl (cI, 4, .inl (qS vi))), (o0, .inr (2, [.int (nI 16), .ref o1, .ref o2, .ref o3, .ref o4, .ref o5, .ref o6, .ref o7])), (o1, .inl (cI, 16, .inl (qS yo))), (o2, .inl (cZ, 16, .inl (qZ zo))), (o3, .inl (cI, 16, .inl (qS lou))), (o4, .inl (cI, 4, .inl (qS so))), (o5, .inl (cI, 4, .inl (qN ao))), (o6, .inl (cI, 4, .inl (qS co))), (o7, .inl (cI, 4, .inl (qS vo))), (d0, .inr (0, [.ref d1, .int (nI tw), .int (nI tr)])), (d1, .inl (cI, 768, .inl (qS dd))), (w0, .inr (3, [.ref d0, .ref i0, .ref o0, .ref w1, .ref w2])), (w1, .inl (cG, 48, .inr (.inr (.inr (.inr (fun i => some (ra i))))))), (w2, .inl (cI, 16, .inl (qS ob))), (r0, .inr (1, [.ref d0, .ref i0, .ref o0, .ref r1, .ref r2, .ref r3, .ref r4, .int (nI me), .int (nI du), .int (nI fi), .int (nI le)])), (r1, .inl (cG, 48, .inr (.inr (.inr (.inr (fun i => some (rb i))))))), (r2, .inl (cZ, 48, .inl (qZ od))), (r3, .inl (cI, 384, .inl (qS ou))), (r4, .inl (cZ, 48, .inl (qZ lt)))] (qP cI ra IW) (qP cI rb OW)) U.heap ∧ va_K (dC, dI) vwCl [(cI, .int), (cZ, .boolean), (cG, .array .int)] U ∧ qn_N U ∧ qx_P U)) (va_Qi (fun (_ : Int32) (_ : Unit) => False) (fun _ _ => True) (fun q => sz ≤ q)) (qx_X "java/lang/IllegalArgumentException" sz) 1 6 (fun q => sz ≤ q) := by
  refine vx_ofW (cc := cX5_figure) (maxL := 2) (ret := (some .int)) (by decide) rfl ?_
  intro p e s m args below meth c s₁ B hml hEx hv
  obtain ⟨rfl, hsz, hP, hK, hN, hX⟩ := hv
  have hx := B.exec
  have hb := B.bytes
  have hr := B.returns
  have hts := atoms_spec (ws := wsX5_figure) B.pre
  have hown : s.vm.findClass RX5 = some m.cls := findClass_of_methodNamed B.named
  have hlocks := B.notSynchronized
  subst hsz
  have hP : va_P (dC, dI) vwCl (qW2 [(x0, .inr (4, [.ref i0, .ref d0, .ref w0, .ref r0])), (i0, .inr (2, [.int (nI 12), .ref i1, .ref i2, .ref i3, .ref i4, .ref i5, .ref i6, .ref i7])), (i1, .inl (cI, 12, .inl (qS yi))), (i2, .inl (cZ, 12, .inl (qZ zi))), (i3, .inl (cI, 12, .inl (qS lin))), (i4, .inl (cI, 4, .inl (qS si))), (i5, .inl (cI, 4, .inl (qN ai))), (i6, .inl (cI, 4, .inl (qS ci))), (i7, .inl (cI, 4, .inl (qS vi))), (o0, .inr (2, [.int (nI 16), .ref o1, .ref o2, .ref o3, .ref o4, .ref o5, .ref o6, .ref o7])), (o1, .inl (cI, 16, .inl (qS yo))), (o2, .inl (cZ, 16, .inl (qZ zo))), (o3, .inl (cI, 16, .inl (qS lou))), (o4, .inl (cI, 4, .inl (qS so))), (o5, .inl (cI, 4, .inl (qN ao))), (o6, .inl (cI, 4, .inl (qS co))), (o7, .inl (cI, 4, .inl (qS vo))), (d0, .inr (0, [.ref d1, .int (nI tw), .int (nI tr)])), (d1, .inl (cI, 768, .inl (qS dd))), (w0, .inr (3, [.ref d0, .ref i0, .ref o0, .ref w1, .ref w2])), (w1, .inl (cG, 48, .inr (.inr (.inr (.inr (fun i => some (ra i))))))), (w2, .inl (cI, 16, .inl (qS ob))), (r0, .inr (1, [.ref d0, .ref i0, .ref o0, .ref r1, .ref r2, .ref r3, .ref r4, .int (nI me), .int (nI du), .int (nI fi), .int (nI le)])), (r1, .inl (cG, 48, .inr (.inr (.inr (.inr (fun i => some (rb i))))))), (r2, .inl (cZ, 48, .inl (qZ od))), (r3, .inl (cI, 384, .inl (qS ou))), (r4, .inl (cZ, 48, .inl (qZ lt)))] (qP cI ra IW) (qP cI rb OW)) s.heap := hP
  have hl := lv_entry ([.ref x0, .int x]) (n := 2) (Nat.le_of_ble_eq_true rfl)
  rw [lg_entry_eq]
  generalize (lg_sl ([.ref x0, .int x]) ++ List.replicate (2 - (lg_sl ([.ref x0, .int x])).length) Slot.unset).toArray = ls at hl ⊢
  have hl : lv_has ls 2 [(0, .ref x0), (1, .int x)] := hl
  have k_21 := hts (.fieldLink RX5 21 "DiscCoder" "disc" "LDiscCoder$Disc;") (by decide +kernel)
  have k_37 := hts (.fieldLink RX5 37 "DiscCoder" "reader" "LDiscCoder$Reader;") (by decide +kernel)
  have i_X5 : ∀ w ∈ u_ws RX5 TX5 4, w ∈ wsX5_figure := by decide +kernel
  have i_X0 : ∀ w ∈ u_ws RX0 TX0 3, w ∈ wsX5_figure := by decide +kernel
  have i_X2 : ∀ w ∈ u_ws RX2 TX2 11, w ∈ wsX5_figure := by decide +kernel
  refine qr_nm (fun Q hQ => ?_)
  refine lv_iload_n hx hb dX5_figure_0 rfl (lv_at hl 1 rfl) ?_
  refine lv_tableOut (tgt := 106) hx hb dX5_figure_1 (qs_swo hno) rfl ?_
  subst hQ
  exact qx_throw (E := "java/lang/IllegalArgumentException") (ik := 75) (is := 119) (ic := 79) (text := "no such figure") hx hb hl9 hown hX (by decide +kernel) (by decide +kernel) (hl.1.trans hml.symm) dX5_figure_106 dX5_figure_109 dX5_figure_110 dX5_figure_112 dX5_figure_115 hEx (Nat.le_of_ble_eq_true rfl) (Nat.le_of_ble_eq_true rfl) (Nat.le_of_ble_eq_true rfl) (Nat.le_of_ble_eq_true rfl) hlocks
set_option maxHeartbeats 4000000 in
set_option maxRecDepth 100000 in
/-- DiscCoder.check throws -/
theorem qx_check (l : Launch) (hl9 : l.stackTraces = false) (dC : Nat → ClassId) (dI : Nat → Nat → Nat) (cI cZ cG : ClassId) (x0 i0 i1 i2 i3 i4 i5 i6 i7 o0 o1 o2 o3 o4 o5 o6 o7 d0 d1 w0 w1 w2 r0 r1 r2 r3 r4 tw tr me du fi le : Nat) (ra rb : Nat → Nat) (yi : Nat → BitVec 8) (zi : Nat → Bool) (lin si : Nat → BitVec 8) (ai : Nat → Nat) (ci vi : Nat → BitVec 8) (yo : Nat → BitVec 8) (zo : Nat → Bool) (lou so : Nat → BitVec 8) (ao : Nat → Nat) (co vo : Nat → BitVec 8) (dd ob : Nat → BitVec 8) (od : Nat → Bool) (ou : Nat → BitVec 8) (lt : Nat → Bool) (IW OW : Nat → Nat → BitVec 8) (v : Int64) (x : Int32) (sz : Nat) (hno : x < 0 ∨ nI 4 ≤ x) : vx_Met l yX5_check wsX5_check ({ frames := 6, cells := 1, slots := 6, locals := 90 } : Room) (va_Pc [.ref x0, .long v, .int x] (fun U => U.heap.size = sz ∧ va_P (dC, dI) vwCl (qW2 [(x0, .inr (4, [.ref i0, .ref d0, .ref w0, .ref r0])), (i0, .inr (2, [.int (nI 12), .ref i1, .ref i2, .ref i3, .ref i4, .ref i5, .ref i6, .ref i7])), (i1, .inl (cI, 12, .inl (qS yi))), (i2, .inl (cZ, 12, .inl (qZ zi))), (i3, .inl (cI, 12, .inl (qS lin))), (i4, .inl (cI, 4, .inl (qS si))), (i5, .inl (cI, 4, .inl (qN ai))), (i6, .inl (cI, 4, .inl (qS ci))), (i7, .inl (cI, 4, .inl (qS vi))), (o0, .inr (2, [.int (nI 16), .ref o1, .ref o2, .ref o3, .ref o4, .ref o5, .ref o6, .ref o7])), (o1, .inl (cI, 16, .inl (qS yo))), (o2, .inl (cZ, 16, .inl (qZ zo))), (o3, .inl (cI, 16, .inl (qS lou))), (o4, .inl (cI, 4, .inl (qS so))), (o5, .inl (cI, 4, .inl (qN ao))), (o6, .inl (cI, 4, .inl (qS co))), (o7, .inl (cI, 4, .inl (qS vo))), (d0, .inr (0, [.ref d1, .int (nI tw), .int (nI tr)])), (d1, .inl (cI, 768, .inl (qS dd))), (w0, .inr (3, [.ref d0, .ref i0, .ref o0, .ref w1, .ref w2])), (w1, .inl (cG, 48, .inr (.inr (.inr (.inr (fun i => some (ra i))))))), (w2, .inl (cI, 16, .inl (qS ob))), (r0, .inr (1, [.ref d0, .ref i0, .ref o0, .ref r1, .ref r2, .ref r3, .ref r4, .int (nI me), .int (nI du), .int (nI fi), .int (nI le)])), (r1, .inl (cG, 48, .inr (.inr (.inr (.inr (fun i => some (rb i))))))), (r2, .inl (cZ, 48, .inl (qZ od))), (r3, .inl (cI, 384, .inl (qS ou))), (r4, .inl (cZ, 48, .inl (qZ lt)))] (qP cI ra IW) (qP cI rb OW)) U.heap ∧ va_K (dC, dI) vwCl [(cI, .int), (cZ, .boolean), (cG, .array .int)] U ∧ qn_N U ∧ qx_P U)) (va_Qi (fun (_ : Int32) (_ : Unit) => False) (fun _ _ => True) (fun q => sz ≤ q)) (qx_X "java/lang/IllegalArgumentException" sz) 1 6 (fun q => sz ≤ q) := by
  refine vx_ofW (cc := cX5_check) (maxL := 4) (ret := (some .int)) (by decide) rfl ?_
  intro p e s m args below meth c s₁ B hml hEx hv
  obtain ⟨rfl, hsz, hP, hK, hN, hX⟩ := hv
  have hx := B.exec
  have hb := B.bytes
  have hr := B.returns
  have hts := atoms_spec (ws := wsX5_check) B.pre
  have hown : s.vm.findClass RX5 = some m.cls := findClass_of_methodNamed B.named
  have hlocks := B.notSynchronized
  subst hsz
  have hP : va_P (dC, dI) vwCl (qW2 [(x0, .inr (4, [.ref i0, .ref d0, .ref w0, .ref r0])), (i0, .inr (2, [.int (nI 12), .ref i1, .ref i2, .ref i3, .ref i4, .ref i5, .ref i6, .ref i7])), (i1, .inl (cI, 12, .inl (qS yi))), (i2, .inl (cZ, 12, .inl (qZ zi))), (i3, .inl (cI, 12, .inl (qS lin))), (i4, .inl (cI, 4, .inl (qS si))), (i5, .inl (cI, 4, .inl (qN ai))), (i6, .inl (cI, 4, .inl (qS ci))), (i7, .inl (cI, 4, .inl (qS vi))), (o0, .inr (2, [.int (nI 16), .ref o1, .ref o2, .ref o3, .ref o4, .ref o5, .ref o6, .ref o7])), (o1, .inl (cI, 16, .inl (qS yo))), (o2, .inl (cZ, 16, .inl (qZ zo))), (o3, .inl (cI, 16, .inl (qS lou))), (o4, .inl (cI, 4, .inl (qS so))), (o5, .inl (cI, 4, .inl (qN ao))), (o6, .inl (cI, 4, .inl (qS co))), (o7, .inl (cI, 4, .inl (qS vo))), (d0, .inr (0, [.ref d1, .int (nI tw), .int (nI tr)])), (d1, .inl (cI, 768, .inl (qS dd))), (w0, .inr (3, [.ref d0, .ref i0, .ref o0, .ref w1, .ref w2])), (w1, .inl (cG, 48, .inr (.inr (.inr (.inr (fun i => some (ra i))))))), (w2, .inl (cI, 16, .inl (qS ob))), (r0, .inr (1, [.ref d0, .ref i0, .ref o0, .ref r1, .ref r2, .ref r3, .ref r4, .int (nI me), .int (nI du), .int (nI fi), .int (nI le)])), (r1, .inl (cG, 48, .inr (.inr (.inr (.inr (fun i => some (rb i))))))), (r2, .inl (cZ, 48, .inl (qZ od))), (r3, .inl (cI, 384, .inl (qS ou))), (r4, .inl (cZ, 48, .inl (qZ lt)))] (qP cI ra IW) (qP cI rb OW)) s.heap := hP
  have hl := lv_entry ([.ref x0, .long v, .int x]) (n := 4) (Nat.le_of_ble_eq_true rfl)
  rw [lg_entry_eq]
  generalize (lg_sl ([.ref x0, .long v, .int x]) ++ List.replicate (4 - (lg_sl ([.ref x0, .long v, .int x])).length) Slot.unset).toArray = ls at hl ⊢
  have hl : lv_has ls 4 [(0, .ref x0), (1, .long v), (3, .int x)] := hl
  have k_17 := hts (.fieldLink RX5 17 "DiscCoder" "inner" "LDiscCoder$Word;") (by decide +kernel)
  have i_X5 : ∀ w ∈ u_ws RX5 TX5 4, w ∈ wsX5_check := by decide +kernel
  have i_X3 : ∀ w ∈ u_ws RX3 TX3 8, w ∈ wsX5_check := by decide +kernel
  refine qr_nm (fun Q hQ => ?_)
  refine lv_iload_n hx hb dX5_check_0 rfl (lv_at hl 2 rfl) ?_
  refine lv_if_lt (tgt := 9) hx hb dX5_check_1 rfl  (fun b1 => ?_) (fun b1 => ?_)
  · subst hQ
    exact qx_throw (E := "java/lang/IllegalArgumentException") (ik := 75) (is := 121) (ic := 79) (text := "no such check") hx hb hl9 hown hX (by decide +kernel) (by decide +kernel) (hl.1.trans hml.symm) dX5_check_9 dX5_check_12 dX5_check_13 dX5_check_15 dX5_check_18 hEx (Nat.le_of_ble_eq_true rfl) (Nat.le_of_ble_eq_true rfl) (Nat.le_of_ble_eq_true rfl) (Nat.le_of_ble_eq_true rfl) hlocks
  · refine lv_iload_n hx hb dX5_check_4 rfl (lv_at hl 2 rfl) ?_
    refine lv_iconst (v := nI 4) hx hb dX5_check_5 (by decide) ?_
    refine lv_icmp_lt (tgt := 19) hx hb dX5_check_6 rfl  (fun h => absurd ((hno.resolve_left b1)) (Int32.not_le.mpr h)) (fun b6 => ?_)
    subst hQ
    exact qx_throw (E := "java/lang/IllegalArgumentException") (ik := 75) (is := 121) (ic := 79) (text := "no such check") hx hb hl9 hown hX (by decide +kernel) (by decide +kernel) (hl.1.trans hml.symm) dX5_check_9 dX5_check_12 dX5_check_13 dX5_check_15 dX5_check_18 hEx (Nat.le_of_ble_eq_true rfl) (Nat.le_of_ble_eq_true rfl) (Nat.le_of_ble_eq_true rfl) (Nat.le_of_ble_eq_true rfl) hlocks
set_option maxHeartbeats 4000000 in
set_option maxRecDepth 100000 in
/-- DiscCoder.product throws -/
theorem qx_prod (l : Launch) (hl9 : l.stackTraces = false) (dC : Nat → ClassId) (dI : Nat → Nat → Nat) (cI cZ cG : ClassId) (x0 i0 i1 i2 i3 i4 i5 i6 i7 o0 o1 o2 o3 o4 o5 o6 o7 d0 d1 w0 w1 w2 r0 r1 r2 r3 r4 tw tr me du fi le : Nat) (ra rb : Nat → Nat) (yi : Nat → BitVec 8) (zi : Nat → Bool) (lin si : Nat → BitVec 8) (ai : Nat → Nat) (ci vi : Nat → BitVec 8) (yo : Nat → BitVec 8) (zo : Nat → Bool) (lou so : Nat → BitVec 8) (ao : Nat → Nat) (co vo : Nat → BitVec 8) (dd ob : Nat → BitVec 8) (od : Nat → Bool) (ou : Nat → BitVec 8) (lt : Nat → Bool) (IW OW : Nat → Nat → BitVec 8) (x y : Int32) (sz : Nat) (hno : ¬ ((¬ x < 0 ∧ ¬ nI 255 < x) ∧ (¬ y < 0 ∧ ¬ nI 255 < y))) : vx_Met l yX5_product wsX5_product ({ frames := 6, cells := 1, slots := 6, locals := 90 } : Room) (va_Pc [.ref x0, .int x, .int y] (fun U => U.heap.size = sz ∧ va_P (dC, dI) vwCl (qW2 [(x0, .inr (4, [.ref i0, .ref d0, .ref w0, .ref r0])), (i0, .inr (2, [.int (nI 12), .ref i1, .ref i2, .ref i3, .ref i4, .ref i5, .ref i6, .ref i7])), (i1, .inl (cI, 12, .inl (qS yi))), (i2, .inl (cZ, 12, .inl (qZ zi))), (i3, .inl (cI, 12, .inl (qS lin))), (i4, .inl (cI, 4, .inl (qS si))), (i5, .inl (cI, 4, .inl (qN ai))), (i6, .inl (cI, 4, .inl (qS ci))), (i7, .inl (cI, 4, .inl (qS vi))), (o0, .inr (2, [.int (nI 16), .ref o1, .ref o2, .ref o3, .ref o4, .ref o5, .ref o6, .ref o7])), (o1, .inl (cI, 16, .inl (qS yo))), (o2, .inl (cZ, 16, .inl (qZ zo))), (o3, .inl (cI, 16, .inl (qS lou))), (o4, .inl (cI, 4, .inl (qS so))), (o5, .inl (cI, 4, .inl (qN ao))), (o6, .inl (cI, 4, .inl (qS co))), (o7, .inl (cI, 4, .inl (qS vo))), (d0, .inr (0, [.ref d1, .int (nI tw), .int (nI tr)])), (d1, .inl (cI, 768, .inl (qS dd))), (w0, .inr (3, [.ref d0, .ref i0, .ref o0, .ref w1, .ref w2])), (w1, .inl (cG, 48, .inr (.inr (.inr (.inr (fun i => some (ra i))))))), (w2, .inl (cI, 16, .inl (qS ob))), (r0, .inr (1, [.ref d0, .ref i0, .ref o0, .ref r1, .ref r2, .ref r3, .ref r4, .int (nI me), .int (nI du), .int (nI fi), .int (nI le)])), (r1, .inl (cG, 48, .inr (.inr (.inr (.inr (fun i => some (rb i))))))), (r2, .inl (cZ, 48, .inl (qZ od))), (r3, .inl (cI, 384, .inl (qS ou))), (r4, .inl (cZ, 48, .inl (qZ lt)))] (qP cI ra IW) (qP cI rb OW)) U.heap ∧ va_K (dC, dI) vwCl [(cI, .int), (cZ, .boolean), (cG, .array .int)] U ∧ qn_N U ∧ qx_P U)) (va_Qi (fun (_ : Int32) (_ : Unit) => False) (fun _ _ => True) (fun q => sz ≤ q)) (qx_X "java/lang/IllegalArgumentException" sz) 1 6 (fun q => sz ≤ q) := by
  refine vx_ofW (cc := cX5_product) (maxL := 3) (ret := (some .int)) (by decide) rfl ?_
  intro p e s m args below meth c s₁ B hml hEx hv
  obtain ⟨rfl, hsz, hP, hK, hN, hX⟩ := hv
  have hx := B.exec
  have hb := B.bytes
  have hr := B.returns
  have hts := atoms_spec (ws := wsX5_product) B.pre
  have hown : s.vm.findClass RX5 = some m.cls := findClass_of_methodNamed B.named
  have hlocks := B.notSynchronized
  subst hsz
  have hP : va_P (dC, dI) vwCl (qW2 [(x0, .inr (4, [.ref i0, .ref d0, .ref w0, .ref r0])), (i0, .inr (2, [.int (nI 12), .ref i1, .ref i2, .ref i3, .ref i4, .ref i5, .ref i6, .ref i7])), (i1, .inl (cI, 12, .inl (qS yi))), (i2, .inl (cZ, 12, .inl (qZ zi))), (i3, .inl (cI, 12, .inl (qS lin))), (i4, .inl (cI, 4, .inl (qS si))), (i5, .inl (cI, 4, .inl (qN ai))), (i6, .inl (cI, 4, .inl (qS ci))), (i7, .inl (cI, 4, .inl (qS vi))), (o0, .inr (2, [.int (nI 16), .ref o1, .ref o2, .ref o3, .ref o4, .ref o5, .ref o6, .ref o7])), (o1, .inl (cI, 16, .inl (qS yo))), (o2, .inl (cZ, 16, .inl (qZ zo))), (o3, .inl (cI, 16, .inl (qS lou))), (o4, .inl (cI, 4, .inl (qS so))), (o5, .inl (cI, 4, .inl (qN ao))), (o6, .inl (cI, 4, .inl (qS co))), (o7, .inl (cI, 4, .inl (qS vo))), (d0, .inr (0, [.ref d1, .int (nI tw), .int (nI tr)])), (d1, .inl (cI, 768, .inl (qS dd))), (w0, .inr (3, [.ref d0, .ref i0, .ref o0, .ref w1, .ref w2])), (w1, .inl (cG, 48, .inr (.inr (.inr (.inr (fun i => some (ra i))))))), (w2, .inl (cI, 16, .inl (qS ob))), (r0, .inr (1, [.ref d0, .ref i0, .ref o0, .ref r1, .ref r2, .ref r3, .ref r4, .int (nI me), .int (nI du), .int (nI fi), .int (nI le)])), (r1, .inl (cG, 48, .inr (.inr (.inr (.inr (fun i => some (rb i))))))), (r2, .inl (cZ, 48, .inl (qZ od))), (r3, .inl (cI, 384, .inl (qS ou))), (r4, .inl (cZ, 48, .inl (qZ lt)))] (qP cI ra IW) (qP cI rb OW)) s.heap := hP
  have hl := lv_entry ([.ref x0, .int x, .int y]) (n := 3) (Nat.le_of_ble_eq_true rfl)
  rw [lg_entry_eq]
  generalize (lg_sl ([.ref x0, .int x, .int y]) ++ List.replicate (3 - (lg_sl ([.ref x0, .int x, .int y])).length) Slot.unset).toArray = ls at hl ⊢
  have hl : lv_has ls 3 [(0, .ref x0), (1, .int x), (2, .int y)] := hl
  refine qr_nm (fun Q hQ => ?_)
  refine lv_iload_n hx hb dX5_product_0 rfl (lv_at hl 1 rfl) ?_
  refine vp_callSi (va_Run.run (va_runS (As := [.int x]) (rest := []) ⟨hx, hb, hml, hown, hts⟩ (qc_holds l x ) (va_cwS 1 hts gX5_product_X1_holds rfl rfl rfl (by decide +kernel) ⟨Nat.le_of_ble_eq_true rfl, Nat.le_of_ble_eq_true rfl⟩) ⟨fun a U g mk q => q, fun U hU hW => ⟨rfl, trivial⟩⟩ rfl rfl hl.1 rfl (lv_room (Nat.le_of_ble_eq_true rfl)) dX5_product_1 ⟨Nat.le_of_ble_eq_true rfl, Nat.le_of_ble_eq_true rfl⟩)) (fun rv1 hr1 => ?_)
  obtain ⟨v1, e1, hv1⟩ := hr1
  subst e1
  refine qr_ifeqZ (tgt := 14) hx hb dX5_product_4 rfl  (fun b4 => ?_) (fun b4 => ?_)
  · subst hQ
    exact qx_throw (E := "java/lang/IllegalArgumentException") (ik := 75) (is := 131) (ic := 79) (text := "no symbol") hx hb hl9 hown hX (by decide +kernel) (by decide +kernel) (hl.1.trans hml.symm) dX5_product_14 dX5_product_17 dX5_product_18 dX5_product_20 dX5_product_23 hEx (Nat.le_of_ble_eq_true rfl) (Nat.le_of_ble_eq_true rfl) (Nat.le_of_ble_eq_true rfl) (Nat.le_of_ble_eq_true rfl) hlocks
  · refine lv_iload_n hx hb dX5_product_7 rfl (lv_at hl 2 rfl) ?_
    refine vp_callSi (va_Run.run (va_runS (As := [.int y]) (rest := []) ⟨hx, hb, hml, hown, hts⟩ (qc_holds l y ) (va_cwS 1 hts gX5_product_X1_holds rfl rfl rfl (by decide +kernel) ⟨Nat.le_of_ble_eq_true rfl, Nat.le_of_ble_eq_true rfl⟩) ⟨fun a U g mk q => q, fun U hU hW => ⟨rfl, trivial⟩⟩ rfl rfl hl.1 rfl (lv_room (Nat.le_of_ble_eq_true rfl)) dX5_product_8 ⟨Nat.le_of_ble_eq_true rfl, Nat.le_of_ble_eq_true rfl⟩)) (fun rv8 hr8 => ?_)
    obtain ⟨v8, e8, hv8⟩ := hr8
    subst e8
    refine qr_ifneZ (tgt := 24) hx hb dX5_product_11 rfl  (fun h => absurd ⟨hv1.mp b4, hv8.mp h⟩ hno) (fun b11 => ?_)
    subst hQ
    exact qx_throw (E := "java/lang/IllegalArgumentException") (ik := 75) (is := 131) (ic := 79) (text := "no symbol") hx hb hl9 hown hX (by decide +kernel) (by decide +kernel) (hl.1.trans hml.symm) dX5_product_14 dX5_product_17 dX5_product_18 dX5_product_20 dX5_product_23 hEx (Nat.le_of_ble_eq_true rfl) (Nat.le_of_ble_eq_true rfl) (Nat.le_of_ble_eq_true rfl) (Nat.le_of_ble_eq_true rfl) hlocks
