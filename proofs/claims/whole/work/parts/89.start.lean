theorem qu_in_law : ∀ w ∈ wsL_law, w ∈ lw_tbl := by decide +kernel
theorem qu_in_n : ∀ w ∈ qn_L, w ∈ lw_tbl := by decide +kernel
theorem qu_in_x : ∀ w ∈ qx_L, w ∈ lw_tbl := by decide +kernel
theorem qu_in_s : ∀ q ∈ qx_S, Cond.stringRef RX5 q.1 q.2 ∈ lw_tbl := by decide +kernel
theorem qu_in_e : ∀ q ∈ qx_S, Cond.exactly (.string RX5 q.1) "java/lang/String" ∈ flatC (Jvm.Cond.and given_1 narrow_1) := by decide +kernel
set_option maxHeartbeats 4000000 in
set_option maxRecDepth 100000 in
theorem qu_ctx {p : Program} {s : State} {m : MethodId} {meth : Method} {c : Code} {b L : Nat} {xs : Nat → Int32} (C0 : lw_At p s m meth c b L xs) : qn_N s ∧ qv_P s ∧ qx_P s ∧ qy_P s ∧ (∀ w ∈ wsL_law, w.before #[Value.ref b] s = true) ∧ ∃ (dC : Nat → ClassId) (dI : Nat → Nat → Nat), va_K (dC, dI) vwCl [] s := by
  obtain ⟨hx, hb, hr, hml, hown, hts, hX, hbl, hlocks, hgv⟩ := C0
  have hs := flat_of_before _ hgv
  obtain ⟨c0, iS0, hKn0⟩ := u_known (C := RX0) (T := TX0) (N := 3) (n := 3) hts (by decide +kernel) (hts (.instantiable RX0 3) (by decide +kernel))
  obtain ⟨c1, iS1, hKn1⟩ := u_known (C := RX2) (T := TX2) (N := 11) (n := 11) hts (by decide +kernel) (hts (.instantiable RX2 11) (by decide +kernel))
  obtain ⟨c2, iS2, hKn2⟩ := u_known (C := RX3) (T := TX3) (N := 8) (n := 8) hts (by decide +kernel) (hts (.instantiable RX3 8) (by decide +kernel))
  obtain ⟨c3, iS3, hKn3⟩ := u_known (C := RX4) (T := TX4) (N := 5) (n := 5) hts (by decide +kernel) (hts (.instantiable RX4 5) (by decide +kernel))
  obtain ⟨c4, iS4, hKn4⟩ := u_known (C := RX5) (T := TX5) (N := 4) (n := 4) hts (by decide +kernel) (hts (.instantiable RX5 4) (by decide +kernel))
  obtain ⟨c5, iS5, hKn5⟩ := u_known (C := RX6) (T := TX6) (N := 19) (n := 19) hts (by decide +kernel) (hts (.instantiable RX6 19) (by decide +kernel))
  refine ⟨fun w hw => va_Nw.of (qn_tab w hw) (hts w (qu_in_n w hw)), ⟨va_Nw.of rfl (hts (.classLink RX4 22 "[[I") (by decide +kernel)), va_Nw.of rfl (hts (.classLink RX2 22 "[[I") (by decide +kernel)), hts (.arrayOver (.array .int)) (by decide +kernel)⟩,
    ⟨fun w hw => va_Nw.of (qx_tab w hw) (hts w (qu_in_x w hw)), fun q hq => ?_,
      vx_Zqof (hts (.laysStatic Bundle.tN "UNASSIGNED_STACK" Bundle.steD) (by decide +kernel)) (hts (.initialized Bundle.tN) (by decide +kernel)) (hs (.isRef (.static Bundle.tN "UNASSIGNED_STACK" Bundle.steD)) (by decide +kernel)) (fun _ h9 => Nat.not_le.mpr h9),
      vx_Zqof (hts (.laysStatic Bundle.tN "SUPPRESSED_SENTINEL" Bundle.listD) (by decide +kernel)) (hts (.initialized Bundle.tN) (by decide +kernel)) (hs (.isRef (.static Bundle.tN "SUPPRESSED_SENTINEL" Bundle.listD)) (by decide +kernel)) (fun _ h9 => Nat.not_le.mpr h9)⟩,
    ⟨va_Nc.of (hs (.not (.castable "java/lang/IllegalArgumentException" "java/lang/IndexOutOfBoundsException")) (by decide +kernel)), va_Nc.of (hs (.not (.castable "java/lang/IndexOutOfBoundsException" "java/lang/IllegalArgumentException")) (by decide +kernel)), va_Nc.of (hs (.not (.castable "java/lang/IllegalStateException" "java/lang/IndexOutOfBoundsException")) (by decide +kernel)), va_Nc.of (hs (.not (.castable "java/lang/IllegalStateException" "java/lang/IllegalArgumentException")) (by decide +kernel))⟩, fun w hw => hts w (qu_in_law w hw), (fun k => if k = 0 then c0 else if k = 1 then c1 else if k = 2 then c2 else if k = 3 then c3 else if k = 4 then c4 else c5), (fun k => if k = 0 then iS0 else if k = 1 then iS1 else if k = 2 then iS2 else if k = 3 then iS3 else if k = 4 then iS4 else iS5), fun k q hq => ?_, fun k q h => by simp at h⟩
  · obtain ⟨a, -, -, -, q1, -⟩ := Cond.exactly_spec (args := #[Value.ref b]) (first := s) (o := none) (s := s) (idx := []) (t := .string RX5 q.1) (cls := "java/lang/String") (hs _ (qu_in_e q hq))
    exact ⟨a, vk_R.of (hts _ (qu_in_s q hq)) q1⟩
  · match k, hq with
    | 0, hq => cases hq; exact hKn0
    | 1, hq => cases hq; exact hKn1
    | 2, hq => cases hq; exact hKn2
    | 3, hq => cases hq; exact hKn3
    | 4, hq => cases hq; exact hKn4
    | 5, hq => cases hq; exact hKn5
    | k + 6, hq => simp [vwCl] at hq
set_option maxHeartbeats 4000000 in
set_option maxRecDepth 100000 in
/-- from the entry, for every script of at most 2048 ints, the law comes to its end with true -/
theorem whole_start {p : Program} {e : Env} {s : State} {m : MethodId} {below : List Frame} {meth : Method} {c : Code} (l : Launch) (hl9 : l.stackTraces = false) {b L : Nat} {xs : Nat → Int32} (hL : L ≤ 2048) (C0 : lw_At p s m meth c b L xs) : W p l e room_1 s m #[Value.ref b] below meth c s.heap [] 0 0 (lw_Z below #[Value.ref b] s) (entryFrame m ([Value.ref b] : List Value).toArray 7) := by
  obtain ⟨hN, hV, hXx, hY, hts, dC, dI, hK⟩ := qu_ctx C0
  obtain ⟨hx, hb, hr, hml, hown, -, hX, hbl, hlocks, -⟩ := C0
  have hown : s.vm.findClass RL = some m.cls := hown
  have hA : ∀ q : Nat, s.heap.size ≤ q → (fun q => s.heap.size ≤ q) q := fun _ h => h
  have hS : va_S (fun q => s.heap.size ≤ q) s.heap s.heap [] := va_S.rf
  have hP : va_P (dC, dI) vwCl [] s.heap := fun k q h => by simp at h
  have hD : va_D (fun q => s.heap.size ≤ q) [] := ⟨fun i j p q h => by simp at h, fun k q h => by simp at h⟩
  have hl := lv_entry ([Value.ref b]) (n := 7) (Nat.le_of_ble_eq_true rfl)
  rw [lg_entry_eq]
  generalize (lg_sl ([Value.ref b]) ++ List.replicate (7 - (lg_sl ([Value.ref b])).length) Slot.unset).toArray = ls at hl ⊢
  have hl : lv_has ls 7 [(0, .ref b)] := hl
  refine va_new (ci := 4) (fs := [.null, .null, .null, .null]) (C := RX5) (T := TX5) (N := 4) hx hb hts (by decide +kernel) tyX5 tyX5_ok hown (hts (.classLink RL 8 RX5) (by decide +kernel)) (hts (.instantiable RX5 4) (by decide +kernel)) (hts (.initialized RX5) (by decide +kernel)) hK hP hD hS hA rfl (by decide +kernel) (Nat.le_of_ble_eq_true rfl) (Nat.le_of_ble_eq_true rfl) dL_law_0 (fun x0 H hP hD hS => ?_)
  have hPc : va_P (dC, dI) vwCl [(x0, .inr (4, [.null, .null, .null, .null]))] H := hP
  have hDc : va_D (fun q => s.heap.size ≤ q) [(x0, .inr (4, [.null, .null, .null, .null]))] := hD
  have hKc := hK
  have hFc := qj_free hDc hS hA
  refine lv_dup hx hb dL_law_3 rfl ?_
  refine va_callv (va_runI (As := []) (rest := [.ref x0]) ⟨hx, hb, hml, hown, hts⟩ (qc_discCoderI l dC dI x0 H.size) (cwI 0 hts gL_law_X5_init rfl rfl rfl (hts (.initialized RX5) (by decide +kernel)) (hts (.methodLink RL 54 yX5_init) (by decide +kernel)) (hts (.instanceMethod yX5_init) (by decide +kernel)) rfl (by decide +kernel) ⟨Nat.le_of_ble_eq_true rfl, Nat.le_of_ble_eq_true rfl⟩) ⟨fun a U g mk q => by obtain ⟨q0, q1, qP, qK, qD, qN⟩ := q; exact ⟨q0, q1, qP, va_K.moved (u := U) (U := U.calling g mk a) (Vm.Alike.refl U.vm) qK, qD, qv_same (u := U) rfl qN⟩, fun U hU hW => ⟨rfl, by rw [hU], by rw [hU]; exact hPc, va_K.moved hW.alike hKc, hDc.weaken (fun _ _ _ _ => trivial), qv_warm hW hV⟩⟩ rfl rfl hl.1 rfl (lv_room (Nat.le_of_ble_eq_true rfl)) dL_law_4 ⟨Nat.le_of_ble_eq_true rfl, Nat.le_of_ble_eq_true rfl⟩) hS (fun q _ h => hFc q h) hFc (fun u t H1 locs ht hvm hr4 hB hz1 hk1 hS => ?_)
  obtain ⟨cI, cZ, cG, i0, i1, i2, i3, i4, i5, i6, i7, o0, o1, o2, o3, o4, o5, o6, o7, d0, d1, w0, w1, w2, r0, r1, r2, r3, r4, ra, rb⟩ := u
  dsimp only at hB
  obtain ⟨hP1, hK1, hD1⟩ := hB
  rw [ht] at hP1
  have hK := va_K.moved hvm.symm hK1
  have hP : va_P (dC, dI) vwCl (qW2 [(x0, .inr (4, [.ref i0, .ref d0, .ref w0, .ref r0])), (i0, .inr (2, [.int (nI 12), .ref i1, .ref i2, .ref i3, .ref i4, .ref i5, .ref i6, .ref i7])), (i1, .inl (cI, 12, .inl (qS (fun _ => 0#8)))), (i2, .inl (cZ, 12, .inl (qZ (fun _ => false)))), (i3, .inl (cI, 12, .inl (qS (qm_lo 12 0)))), (i4, .inl (cI, 4, .inl (qS (fun _ => 0#8)))), (i5, .inl (cI, 4, .inl (qN (fun _ => 0)))), (i6, .inl (cI, 4, .inl (qS (fun _ => 0#8)))), (i7, .inl (cI, 4, .inl (qS (fun _ => 0#8)))), (o0, .inr (2, [.int (nI 16), .ref o1, .ref o2, .ref o3, .ref o4, .ref o5, .ref o6, .ref o7])), (o1, .inl (cI, 16, .inl (qS (fun _ => 0#8)))), (o2, .inl (cZ, 16, .inl (qZ (fun _ => false)))), (o3, .inl (cI, 16, .inl (qS (qm_lo 16 0)))), (o4, .inl (cI, 4, .inl (qS (fun _ => 0#8)))), (o5, .inl (cI, 4, .inl (qN (fun _ => 0)))), (o6, .inl (cI, 4, .inl (qS (fun _ => 0#8)))), (o7, .inl (cI, 4, .inl (qS (fun _ => 0#8)))), (d0, .inr (0, [.ref d1, .int (nI 0), .int (nI 0)])), (d1, .inl (cI, 768, .inl (qS (fun _ => 0#8)))), (w0, .inr (3, [.ref d0, .ref i0, .ref o0, .ref w1, .ref w2])), (w1, .inl (cG, 48, .inr (.inr (.inr (.inr (fun i => some (ra i))))))), (w2, .inl (cI, 16, .inl (qS (fun _ => 0#8)))), (r0, .inr (1, [.ref d0, .ref i0, .ref o0, .ref r1, .ref r2, .ref r3, .ref r4, .int (nI 0), .int (nI 0), .int (nI 0), .int (nI 0)])), (r1, .inl (cG, 48, .inr (.inr (.inr (.inr (fun i => some (rb i))))))), (r2, .inl (cZ, 48, .inl (qZ (fun _ => false)))), (r3, .inl (cI, 384, .inl (qS (fun _ => 0#8)))), (r4, .inl (cZ, 48, .inl (qZ (fun _ => false))))] (qP cI ra (fun _ _ => 0#8)) (qP cI rb (fun _ _ => 0#8))) H1 := hP1
  have hD : va_D (fun q => s.heap.size ≤ q) (qW2 [(x0, .inr (4, [.ref i0, .ref d0, .ref w0, .ref r0])), (i0, .inr (2, [.int (nI 12), .ref i1, .ref i2, .ref i3, .ref i4, .ref i5, .ref i6, .ref i7])), (i1, .inl (cI, 12, .inl (qS (fun _ => 0#8)))), (i2, .inl (cZ, 12, .inl (qZ (fun _ => false)))), (i3, .inl (cI, 12, .inl (qS (qm_lo 12 0)))), (i4, .inl (cI, 4, .inl (qS (fun _ => 0#8)))), (i5, .inl (cI, 4, .inl (qN (fun _ => 0)))), (i6, .inl (cI, 4, .inl (qS (fun _ => 0#8)))), (i7, .inl (cI, 4, .inl (qS (fun _ => 0#8)))), (o0, .inr (2, [.int (nI 16), .ref o1, .ref o2, .ref o3, .ref o4, .ref o5, .ref o6, .ref o7])), (o1, .inl (cI, 16, .inl (qS (fun _ => 0#8)))), (o2, .inl (cZ, 16, .inl (qZ (fun _ => false)))), (o3, .inl (cI, 16, .inl (qS (qm_lo 16 0)))), (o4, .inl (cI, 4, .inl (qS (fun _ => 0#8)))), (o5, .inl (cI, 4, .inl (qN (fun _ => 0)))), (o6, .inl (cI, 4, .inl (qS (fun _ => 0#8)))), (o7, .inl (cI, 4, .inl (qS (fun _ => 0#8)))), (d0, .inr (0, [.ref d1, .int (nI 0), .int (nI 0)])), (d1, .inl (cI, 768, .inl (qS (fun _ => 0#8)))), (w0, .inr (3, [.ref d0, .ref i0, .ref o0, .ref w1, .ref w2])), (w1, .inl (cG, 48, .inr (.inr (.inr (.inr (fun i => some (ra i))))))), (w2, .inl (cI, 16, .inl (qS (fun _ => 0#8)))), (r0, .inr (1, [.ref d0, .ref i0, .ref o0, .ref r1, .ref r2, .ref r3, .ref r4, .int (nI 0), .int (nI 0), .int (nI 0), .int (nI 0)])), (r1, .inl (cG, 48, .inr (.inr (.inr (.inr (fun i => some (rb i))))))), (r2, .inl (cZ, 48, .inl (qZ (fun _ => false)))), (r3, .inl (cI, 384, .inl (qS (fun _ => 0#8)))), (r4, .inl (cZ, 48, .inl (qZ (fun _ => false))))] (qP cI ra (fun _ _ => 0#8)) (qP cI rb (fun _ _ => 0#8))) := hD1.weaken (fun _ q _ h => hFc q.1 h)
  obtain ⟨Wc, hWc⟩ : ∃ Wc : va_W, Wc = (qW2 [(x0, .inr (4, [.ref i0, .ref d0, .ref w0, .ref r0])), (i0, .inr (2, [.int (nI 12), .ref i1, .ref i2, .ref i3, .ref i4, .ref i5, .ref i6, .ref i7])), (i1, .inl (cI, 12, .inl (qS (fun _ => 0#8)))), (i2, .inl (cZ, 12, .inl (qZ (fun _ => false)))), (i3, .inl (cI, 12, .inl (qS (qm_lo 12 0)))), (i4, .inl (cI, 4, .inl (qS (fun _ => 0#8)))), (i5, .inl (cI, 4, .inl (qN (fun _ => 0)))), (i6, .inl (cI, 4, .inl (qS (fun _ => 0#8)))), (i7, .inl (cI, 4, .inl (qS (fun _ => 0#8)))), (o0, .inr (2, [.int (nI 16), .ref o1, .ref o2, .ref o3, .ref o4, .ref o5, .ref o6, .ref o7])), (o1, .inl (cI, 16, .inl (qS (fun _ => 0#8)))), (o2, .inl (cZ, 16, .inl (qZ (fun _ => false)))), (o3, .inl (cI, 16, .inl (qS (qm_lo 16 0)))), (o4, .inl (cI, 4, .inl (qS (fun _ => 0#8)))), (o5, .inl (cI, 4, .inl (qN (fun _ => 0)))), (o6, .inl (cI, 4, .inl (qS (fun _ => 0#8)))), (o7, .inl (cI, 4, .inl (qS (fun _ => 0#8)))), (d0, .inr (0, [.ref d1, .int (nI 0), .int (nI 0)])), (d1, .inl (cI, 768, .inl (qS (fun _ => 0#8)))), (w0, .inr (3, [.ref d0, .ref i0, .ref o0, .ref w1, .ref w2])), (w1, .inl (cG, 48, .inr (.inr (.inr (.inr (fun i => some (ra i))))))), (w2, .inl (cI, 16, .inl (qS (fun _ => 0#8)))), (r0, .inr (1, [.ref d0, .ref i0, .ref o0, .ref r1, .ref r2, .ref r3, .ref r4, .int (nI 0), .int (nI 0), .int (nI 0), .int (nI 0)])), (r1, .inl (cG, 48, .inr (.inr (.inr (.inr (fun i => some (rb i))))))), (r2, .inl (cZ, 48, .inl (qZ (fun _ => false)))), (r3, .inl (cI, 384, .inl (qS (fun _ => 0#8)))), (r4, .inl (cZ, 48, .inl (qZ (fun _ => false))))] (qP cI ra (fun _ _ => 0#8)) (qP cI rb (fun _ _ => 0#8))) := ⟨_, rfl⟩
  rw [← hWc] at hP hD
  clear hz1 hk1 hPc hDc hFc hP1 hD1 hK1 hKc
  generalize H1 = H at hP hS ⊢
  refine W.widen (k := 123) (n := 2667) (by decide) (by decide) ?_
  refine lv_astore_n (lv' := [(1, .ref x0), (0, .ref b)]) hx hb dL_law_7 rfl hl (by decide) rfl (fun ls hl => ?_)
  refine va_new (ci := 5) (fs := [.int (nI 0), .int (nI 0), .null, .null, .null, .int (nI 0), .null, .null, .null, .null, .null, .int (nI 0), .int (nI 0), .int (nI 0), .int (nI 0), .null, .null, .null, .null]) (C := RX6) (T := TX6) (N := 19) hx hb hts (by decide +kernel) tyX6 tyX6_ok hown (hts (.classLink RL 55 RX6) (by decide +kernel)) (hts (.instantiable RX6 19) (by decide +kernel)) (hts (.initialized RX6) (by decide +kernel)) hK hP hD hS hA rfl (by decide +kernel) (Nat.le_of_ble_eq_true rfl) (Nat.le_of_ble_eq_true rfl) dL_law_8 (fun h0 H hP hD hS => ?_)
  have hPc := qj_PR hP
  have hDc := qj_DR hD
  have hKc := hK.sub (tys' := []) [] rfl
  have hFc := qj_free hDc hS hA
  refine lv_dup hx hb dL_law_11 rfl ?_
  refine va_callv (va_runI (As := []) (rest := [.ref h0]) ⟨hx, hb, hml, hown, hts⟩ (qc_modelI l dC dI h0 H.size) (cwI 0 hts gL_law_X6_init rfl rfl rfl (hts (.initialized RX6) (by decide +kernel)) (hts (.methodLink RL 57 yX6_init) (by decide +kernel)) (hts (.instanceMethod yX6_init) (by decide +kernel)) rfl (by decide +kernel) ⟨Nat.le_of_ble_eq_true rfl, Nat.le_of_ble_eq_true rfl⟩) ⟨fun a U g mk q => by obtain ⟨q0, q1, qP, qK, qD⟩ := q; exact ⟨q0, q1, qP, va_K.moved (u := U) (U := U.calling g mk a) (Vm.Alike.refl U.vm) qK, qD⟩, fun U hU hW => ⟨rfl, by rw [hU], by rw [hU]; exact hPc, va_K.moved hW.alike hKc, hDc.weaken (fun _ _ _ _ => trivial)⟩⟩ rfl rfl hl.1 rfl (lv_room (Nat.le_of_ble_eq_true rfl)) dL_law_12 ⟨Nat.le_of_ble_eq_true rfl, Nat.le_of_ble_eq_true rfl⟩) hS (fun q _ h => hFc q h) hFc (fun u t H1 locs ht hvm hr12 hB hz1 hk1 hS => ?_)
  obtain ⟨cI2, cZ2, e1, e2, e3, e4, e5, e6, e7, e8, e9, e10, e11, e12⟩ := u
  dsimp only at hB
  obtain ⟨hP1, hK1, hD1⟩ := hB
  rw [ht] at hP1
  have hK1 := va_K.moved hvm.symm hK1
  have hK := hK.app hK1
  have e9 := (qa_same hK 0 3 rfl rfl (fun _ h => by cases h)).symm
  subst e9
  have e9 := (qa_same hK 1 4 rfl rfl (fun _ h => by cases h)).symm
  subst e9
  have hK := hK.sub (tys' := [(cI, .int), (cZ, .boolean), (cG, .array .int)]) [0, 1, 2] rfl
  have hP1 := hP1.sub (ws' := [(h0, .inr (5, [.int (nI 0), .int (nI 0), .ref e1, .ref e2, .ref e3, .int (nI 0), .ref e4, .ref e5, .ref e6, .ref e7, .ref e8, .int (nI 0), .int (nI 0), .int (nI 0), .int (nI 0), .ref e9, .ref e10, .ref e11, .ref e12])), (e9, .inl (cI, 16, .inl (qS (fun _ => 0#8)))), (e10, .inl (cZ, 16, .inl (qZ (fun _ => false)))), (e11, .inl (cI, 20, .inl (qS (fun _ => 0#8)))), (e12, .inl (cI, 4, .inl (qN (fun _ => 0)))), (e1, .inl (cI, 576, .inl (qS (fun _ => 0#8)))), (e2, .inl (cI, 768, .inl (qS (fun _ => 0#8)))), (e3, .inl (cI, 768, .inl (qS (fun _ => 0#8)))), (e4, .inl (cI, 768, .inl (qS (fun _ => 0#8)))), (e5, .inl (cI, 576, .inl (qS (fun _ => 0#8)))), (e6, .inl (cZ, 48, .inl (qZ (fun _ => false)))), (e7, .inl (cI, 384, .inl (qS (fun _ => 0#8)))), (e8, .inl (cZ, 384, .inl (qZ (fun _ => false))))]) [0, 9, 10, 11, 12, 1, 2, 3, 4, 5, 6, 7, 8] rfl
  have hD1 := hD1.sub (ws' := [(h0, .inr (5, [.int (nI 0), .int (nI 0), .ref e1, .ref e2, .ref e3, .int (nI 0), .ref e4, .ref e5, .ref e6, .ref e7, .ref e8, .int (nI 0), .int (nI 0), .int (nI 0), .int (nI 0), .ref e9, .ref e10, .ref e11, .ref e12])), (e9, .inl (cI, 16, .inl (qS (fun _ => 0#8)))), (e10, .inl (cZ, 16, .inl (qZ (fun _ => false)))), (e11, .inl (cI, 20, .inl (qS (fun _ => 0#8)))), (e12, .inl (cI, 4, .inl (qN (fun _ => 0)))), (e1, .inl (cI, 576, .inl (qS (fun _ => 0#8)))), (e2, .inl (cI, 768, .inl (qS (fun _ => 0#8)))), (e3, .inl (cI, 768, .inl (qS (fun _ => 0#8)))), (e4, .inl (cI, 768, .inl (qS (fun _ => 0#8)))), (e5, .inl (cI, 576, .inl (qS (fun _ => 0#8)))), (e6, .inl (cZ, 48, .inl (qZ (fun _ => false)))), (e7, .inl (cI, 384, .inl (qS (fun _ => 0#8)))), (e8, .inl (cZ, 384, .inl (qZ (fun _ => false))))]) [0, 9, 10, 11, 12, 1, 2, 3, 4, 5, 6, 7, 8] (by decide) rfl
  obtain ⟨hP1, hD1⟩ := qr_same (g := qS (qg_f (fun _ _ => 0#8))) hP1 hD1 3 rfl (fun _ _ => rfl)
  have hP1 : va_P (dC, dI) vwCl [(h0, .inr (5, [.int (nI 0), .int (nI 0), .ref e1, .ref e2, .ref e3, .int (nI 0), .ref e4, .ref e5, .ref e6, .ref e7, .ref e8, .int (nI 0), .int (nI 0), .int (nI 0), .int (nI 0), .ref e9, .ref e10, .ref e11, .ref e12])), (e9, .inl (cI, 16, .inl (qS (fun _ => 0#8)))), (e10, .inl (cZ, 16, .inl (qZ (fun _ => false)))), (e11, .inl (cI, 20, .inl (qS (qg_f (fun _ _ => 0#8))))), (e12, .inl (cI, 4, .inl (qN (fun _ => 0)))), (e1, .inl (cI, 576, .inl (qS (fun _ => 0#8)))), (e2, .inl (cI, 768, .inl (qS (fun _ => 0#8)))), (e3, .inl (cI, 768, .inl (qS (fun _ => 0#8)))), (e4, .inl (cI, 768, .inl (qS (fun _ => 0#8)))), (e5, .inl (cI, 576, .inl (qS (fun _ => 0#8)))), (e6, .inl (cZ, 48, .inl (qZ (fun _ => false)))), (e7, .inl (cI, 384, .inl (qS (fun _ => 0#8)))), (e8, .inl (cZ, 384, .inl (qZ (fun _ => false))))] H1 := hP1
  have hD1 : va_D _ [(h0, .inr (5, [.int (nI 0), .int (nI 0), .ref e1, .ref e2, .ref e3, .int (nI 0), .ref e4, .ref e5, .ref e6, .ref e7, .ref e8, .int (nI 0), .int (nI 0), .int (nI 0), .int (nI 0), .ref e9, .ref e10, .ref e11, .ref e12])), (e9, .inl (cI, 16, .inl (qS (fun _ => 0#8)))), (e10, .inl (cZ, 16, .inl (qZ (fun _ => false)))), (e11, .inl (cI, 20, .inl (qS (qg_f (fun _ _ => 0#8))))), (e12, .inl (cI, 4, .inl (qN (fun _ => 0)))), (e1, .inl (cI, 576, .inl (qS (fun _ => 0#8)))), (e2, .inl (cI, 768, .inl (qS (fun _ => 0#8)))), (e3, .inl (cI, 768, .inl (qS (fun _ => 0#8)))), (e4, .inl (cI, 768, .inl (qS (fun _ => 0#8)))), (e5, .inl (cI, 576, .inl (qS (fun _ => 0#8)))), (e6, .inl (cZ, 48, .inl (qZ (fun _ => false)))), (e7, .inl (cI, 384, .inl (qS (fun _ => 0#8)))), (e8, .inl (cZ, 384, .inl (qZ (fun _ => false))))] := hD1
  obtain ⟨hP, hD⟩ := qj_gr hP hD hFc hk1 hP1 hD1
  obtain ⟨Wm, hWm⟩ : ∃ Wm : va_W, Wm = [(h0, .inr (5, [.int (nI 0), .int (nI 0), .ref e1, .ref e2, .ref e3, .int (nI 0), .ref e4, .ref e5, .ref e6, .ref e7, .ref e8, .int (nI 0), .int (nI 0), .int (nI 0), .int (nI 0), .ref e9, .ref e10, .ref e11, .ref e12])), (e9, .inl (cI, 16, .inl (qS (fun _ => 0#8)))), (e10, .inl (cZ, 16, .inl (qZ (fun _ => false)))), (e11, .inl (cI, 20, .inl (qS (qg_f (fun _ _ => 0#8))))), (e12, .inl (cI, 4, .inl (qN (fun _ => 0)))), (e1, .inl (cI, 576, .inl (qS (fun _ => 0#8)))), (e2, .inl (cI, 768, .inl (qS (fun _ => 0#8)))), (e3, .inl (cI, 768, .inl (qS (fun _ => 0#8)))), (e4, .inl (cI, 768, .inl (qS (fun _ => 0#8)))), (e5, .inl (cI, 576, .inl (qS (fun _ => 0#8)))), (e6, .inl (cZ, 48, .inl (qZ (fun _ => false)))), (e7, .inl (cI, 384, .inl (qS (fun _ => 0#8)))), (e8, .inl (cZ, 384, .inl (qZ (fun _ => false))))] := ⟨_, rfl⟩
  rw [← hWm] at hP hD
  clear hz1 hk1 hPc hDc hFc hP1 hD1 hK1 hKc
  generalize H1 = H at hP hS ⊢
  refine W.widen (k := 136) (n := 7014) (by decide) (by decide) ?_
  refine lv_astore_n (lv' := [(2, .ref h0), (1, .ref x0), (0, .ref b)]) hx hb dL_law_15 rfl hl (by decide) rfl (fun ls hl => ?_)
  refine lv_iconst (v := nI 1) hx hb dL_law_16 (by decide) ?_
  refine va_newa (atype := .long) (ty := .long) (a0 := (1, .inr (.inl (fun _ => 0)))) (N' := 1) hx hb (hts (.arrayClass .long) (by decide +kernel)) rfl hK hP hD hS hA (fun cA => by rw [vp_cell_l]; exact congrArg (arrV cA 1) (funext fun _ => rfl)) (nI_pos (by omega)) (nI_clamp (by omega)) (by decide +kernel) (Nat.le_of_ble_eq_true rfl) (Nat.le_of_ble_eq_true rfl) dL_law_17 (fun u0 cJ H hK hP hD hS => ?_)
  refine W.widen (k := 137) (n := 7015) (by decide) (by decide) ?_
  have hP : va_P (dC, dI) vwCl (([(u0, .inl (cJ, 1, .inr (.inl (fun _ => 0))))] ++ Wc) ++ Wm) H := va_P.swap (a := []) (b := Wc ++ Wm) (c := [(u0, .inl (cJ, 1, .inr (.inl (fun _ => 0))))]) hP
  have hD : va_D (fun q => s.heap.size ≤ q) (([(u0, .inl (cJ, 1, .inr (.inl (fun _ => 0))))] ++ Wc) ++ Wm) := va_D.swap (a := []) (b := Wc ++ Wm) (c := [(u0, .inl (cJ, 1, .inr (.inl (fun _ => 0))))]) hD
  refine lv_astore_n (lv' := [(3, .ref u0), (2, .ref h0), (1, .ref x0), (0, .ref b)]) hx hb dL_law_19 rfl hl (by decide) rfl (fun ls hl => ?_)
  refine lv_iconst (v := nI 0) hx hb dL_law_20 (by decide) ?_
  refine lv_istore (lv' := [(4, .int (nI 0)), (3, .ref u0), (2, .ref h0), (1, .ref x0), (0, .ref b)]) hx hb dL_law_21 hl (by decide) rfl (fun ls hl => ?_)
  have C : qz_C p s m c dC dI cI cZ cG cJ b L xs := ⟨hx, hb, hml, hown, hts, hX, hbl, hK, hN, hXx, hY, hL⟩
  have hI : qI cI cZ cG x0 h0 Wc Wm := ⟨i0, i1, i2, i3, i4, i5, i6, i7, o0, o1, o2, o3, o4, o5, o6, o7, d0, d1, w0, w1, w2, r0, r1, r2, r3, r4, 0, 0, 0, 0, 0, 0, ra, rb, (fun _ => 0#8), (fun _ => false), (qm_lo 12 0), (fun _ => 0#8), (fun _ => 0), (fun _ => 0#8), (fun _ => 0#8), (fun _ => 0#8), (fun _ => false), (qm_lo 16 0), (fun _ => 0#8), (fun _ => 0), (fun _ => 0#8), (fun _ => 0#8), (fun _ => 0#8), (fun _ => 0#8), (fun _ => false), (fun _ => 0#8), (fun _ => false), (fun _ _ => 0#8), (fun _ _ => 0#8), 0, e1, e2, e3, e4, e5, e6, e7, e8, e9, e10, e11, e12, (fun _ => 0#8), (fun _ => false), (fun _ _ => 0#8), (fun _ => 0), (fun _ => 0#8), (fun _ => 0#8), (fun _ => 0#8), (fun _ => 0#8), (fun _ => 0#8), (fun _ => false), (fun _ => 0#8), (fun _ => false), hWc, hWm, qL_start⟩
  refine qu_loop C hl9 (fun H locs ls cells slots hS hc hs => ?_) 512 0 (fun _ => 0) Wc Wm H _ ls 137 7015 (by omega) (by omega) (by decide) (by decide) hI hl hP hD hS
  refine lv_iconst (v := 1) hx hb dL_law_778 (by decide) ?_
  refine va_forget hS.2.2 ?_
  refine W.widen (k := 601024) (n := 7293033) hc hs ?_
  exact lw_ret hx hb hr hlocks dL_law_779
