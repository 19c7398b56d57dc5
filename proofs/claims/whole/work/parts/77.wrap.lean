/-- which kinds of exceptions aren't which -/
def qy_P (U : State) : Prop := va_Nc "java/lang/IllegalArgumentException" "java/lang/IndexOutOfBoundsException" U ∧ va_Nc "java/lang/IndexOutOfBoundsException" "java/lang/IllegalArgumentException" U ∧ va_Nc "java/lang/IllegalStateException" "java/lang/IndexOutOfBoundsException" U ∧ va_Nc "java/lang/IllegalStateException" "java/lang/IllegalArgumentException" U
theorem qy_moved {u U : State} (h : u.vm.Alike U.vm) (hY : qy_P u) : qy_P U := ⟨va_Nc.moved h hY.1, va_Nc.moved h hY.2.1, va_Nc.moved h hY.2.2.1, va_Nc.moved h hY.2.2.2⟩

set_option maxHeartbeats 4000000 in
set_option maxRecDepth 100000 in
theorem ql_feed (l : Launch) (dC : Nat → ClassId) (dI : Nat → Nat → Nat) (cI cZ cG cJ : ClassId) (Wc : va_W) (x0 u0 : Nat) (fx : List Value) (fJ : Nat → Int64) (v : Int64) (sz : Nat) (S : Type) (PW : Int32 → S → Prop) (NW : S → va_W) (rm : Room) (hr9 : rm.cells = 0 ∧ rm.slots = 0 ∧ rm.frames ≤ 8 ∧ rm.locals ≤ 200) (hW0 : Wc[0]? = some (x0, .inr (4, fx))) (hadr : ∀ u, (NW u).map (fun q => q.1) = Wc.map (fun q => q.1)) (hM : ∀ z : Nat, Met l yX5_feed wsX5_feed rm (va_Pc [.ref x0, .long v] (fun U => U.heap.size = z ∧ va_P (dC, dI) vwCl Wc U.heap ∧ va_K (dC, dI) vwCl [(cI, .int), (cZ, .boolean), (cG, .array .int)] U ∧ va_D (fun _ => True) Wc ∧ qn_N U)) (va_Qi PW (fun u t => va_P (dC, dI) vwCl (NW u) t.heap ∧ va_K (dC, dI) vwCl [(cI, .int), (cZ, .boolean), (cG, .array .int)] t ∧ va_D (va_A Wc z) (NW u)) (va_A Wc z)) 0 0 (va_A Wc z)) : Met l yL_feed wsL_feed ({ frames := 9, cells := 1, slots := 6, locals := 250 } : Room) (va_Pc [.ref x0, .long v, .ref u0] (fun U => U.heap.size = sz ∧ va_P (dC, dI) vwCl ([(u0, .inl (cJ, 1, .inr (.inl fJ)))] ++ Wc) U.heap ∧ va_K (dC, dI) vwCl [(cI, .int), (cZ, .boolean), (cG, .array .int), (cJ, .long)] U ∧ va_D (fun _ => True) ([(u0, .inl (cJ, 1, .inr (.inl fJ)))] ++ Wc) ∧ qn_N U ∧ qx_P U ∧ qy_P U)) (va_Qi (fun (r : Int32) (u : Int32 × S) => r = nI 0 ∧ PW u.1 u.2) (fun u t => va_P (dC, dI) vwCl ([(u0, .inl (cJ, 1, .inr (.inl (vp_updL fJ 0 u.1.toInt64))))] ++ NW u.2) t.heap ∧ va_K (dC, dI) vwCl [(cI, .int), (cZ, .boolean), (cG, .array .int), (cJ, .long)] t ∧ va_D (va_A ([(u0, .inl (cJ, 1, .inr (.inl fJ)))] ++ Wc) sz) ([(u0, .inl (cJ, 1, .inr (.inl (vp_updL fJ 0 u.1.toInt64))))] ++ NW u.2)) (va_A ([(u0, .inl (cJ, 1, .inr (.inl fJ)))] ++ Wc) sz)) 1 6 (va_A ([(u0, .inl (cJ, 1, .inr (.inl fJ)))] ++ Wc) sz) := by
  refine va_MetW (cc := cL_feed) (maxL := 5) (ret := (some .int)) (by decide) rfl ?_
  intro p e s m args below meth c s₁ B hml hv
  obtain ⟨rfl, hsz, hP, hK, hD0, hN, hX, hY⟩ := hv
  have hx := B.exec
  have hb := B.bytes
  have hr := B.returns
  have hts := atoms_spec (ws := wsL_feed) B.pre
  have hown : s.vm.findClass RL = some m.cls := findClass_of_methodNamed B.named
  have hlocks := B.notSynchronized
  subst hsz
  have hD := hD0.self (sz := s.heap.size)
  generalize hAe : va_A ([(u0, .inl (cJ, 1, .inr (.inl fJ)))] ++ Wc) s.heap.size = A at hD ⊢
  have hA : ∀ q : Nat, s.heap.size ≤ q → A q := fun q h => by rw [← hAe]; exact Or.inr h
  have hS : va_S A s.heap s.heap [] := va_S.rf
  have hl := lv_entry ([.ref x0, .long v, .ref u0]) (n := 5) (Nat.le_of_ble_eq_true rfl)
  rw [lg_entry_eq]
  generalize (lg_sl ([.ref x0, .long v, .ref u0]) ++ List.replicate (5 - (lg_sl ([.ref x0, .long v, .ref u0])).length) Slot.unset).toArray = ls at hl ⊢
  have hl : lv_has ls 5 [(0, .ref x0), (1, .long v), (3, .ref u0)] := hl
  refine qr_nm (fun Q hQ => ?_)
  refine lv_aload_n hx hb dL_feed_0 rfl (lv_at hl 2 rfl) ?_
  refine lv_iconst (v := nI 0) hx hb dL_feed_1 (by decide) ?_
  refine lv_aload_n hx hb dL_feed_2 rfl (lv_at hl 0 rfl) ?_
  refine lv_lload_n hx hb dL_feed_3 rfl (lv_at hl 1 rfl) ?_
  have hPc : va_P (dC, dI) vwCl Wc s.heap := qj_PR hP
  have hDc : va_D A Wc := qj_DR hD
  have hKc := hK.sub (tys' := [(cI, .int), (cZ, .boolean), (cG, .array .int)]) [0, 1, 2] rfl
  have hFc := qj_free hDc hS hA
  refine va_calli (va_runV (As := [.long v]) (rest := [.int (nI 0), .ref u0]) ⟨hx, hb, hml, hown, hts⟩ (hM s.heap.size) (cwV 1 hts gL_feed_X5_feed rfl hr9.1 hr9.2.1 (by decide +kernel) ⟨Nat.le_trans (Nat.succ_le_succ hr9.2.2.1) (Nat.le_of_ble_eq_true rfl), Nat.le_trans (Nat.add_le_add_left hr9.2.2.2 _) (Nat.le_of_ble_eq_true rfl)⟩) ⟨fun a U g mk q => by obtain ⟨q0, q1, qP, qK, qD, qN⟩ := q; exact ⟨q0, q1, qP, va_K.moved (u := U) (U := U.calling g mk a) (Vm.Alike.refl U.vm) qK, qD, qn_same (u := U) rfl qN⟩, va_recv (q0 := 0) (ci := 4) hKc hPc rfl hW0, fun U hU hW => ⟨rfl, by rw [hU], by rw [hU]; exact hPc, va_K.moved hW.alike hKc, hDc.weaken (fun _ _ _ _ => trivial), qn_warm hW hN⟩⟩ rfl rfl hl.1 rfl (lv_room (Nat.le_of_ble_eq_true rfl)) dL_feed_4 ⟨Nat.le_of_ble_eq_true rfl, Nat.le_of_ble_eq_true rfl⟩) hS (fun q _ h => hFc q h) hFc (fun rv u t H1 locs ht hvm hw hB hz1 hk1 hS => ?_)
  obtain ⟨hP1, hK1, hD1⟩ := hB
  rw [ht] at hP1
  obtain ⟨hP, hD⟩ := qj_apR hP hD (hadr u) hk1 hP1
  generalize H1 = H at hP hS ⊢
  refine lv_i2l (v := rv.toInt64) hx hb dL_feed_7 rfl ?_
  refine va_last (x := rv.toInt64) hx hb hK hP hD hS 0 3 rfl rfl (vp_in_nI (by decide) (by decide)) dL_feed_8 (fun H locs hP hD hS => ?_)
  have e0 : (nI 0).toNatClampNeg = 0 := nI_clamp (by decide)
  rw [e0] at hP hD
  have hP : va_P (dC, dI) vwCl ([(u0, .inl (cJ, 1, .inr (.inl (vp_updL fJ 0 rv.toInt64))))] ++ NW u) H := hP
  have hD : va_D A ([(u0, .inl (cJ, 1, .inr (.inl (vp_updL fJ 0 rv.toInt64))))] ++ NW u) := hD
  refine lv_goto (tgt := 16) hx hb dL_feed_9 rfl ?_
  refine lv_iconst (v := nI 0) hx hb dL_feed_16 (by decide) ?_
  refine W.widen (k := 1) (n := 6) (by decide) (by decide) ?_
  subst hQ
  exact W.iret hx hb hr (fun t ht hW => ⟨⟨_, (rv, u), rfl, ⟨rfl, hw⟩, by rw [ht]; exact hP, va_K.moved hW.alike hK, hD⟩, hS.F ht⟩) hS.2.2 dL_feed_17
set_option maxHeartbeats 4000000 in
set_option maxRecDepth 100000 in
theorem ql_feed1 (l : Launch) (dC : Nat → ClassId) (dI : Nat → Nat → Nat) (cI cZ cG cJ : ClassId) (Wc : va_W) (x0 u0 : Nat) (fx : List Value) (fJ : Nat → Int64) (v : Int64) (sz : Nat) (hW0 : Wc[0]? = some (x0, .inr (4, fx))) (hM : ∀ z : Nat, vx_Met l yX5_feed wsX5_feed ({ frames := 6, cells := 1, slots := 6, locals := 90 } : Room) (va_Pc [.ref x0, .long v] (fun U => U.heap.size = z ∧ va_P (dC, dI) vwCl Wc U.heap ∧ va_K (dC, dI) vwCl [(cI, .int), (cZ, .boolean), (cG, .array .int)] U ∧ qn_N U ∧ qx_P U)) (va_Qi (fun (_ : Int32) (_ : Unit) => False) (fun _ _ => True) (fun q => z ≤ q)) (qx_X "java/lang/IllegalStateException" z) 1 6 (fun q => z ≤ q)) : Met l yL_feed wsL_feed ({ frames := 9, cells := 1, slots := 6, locals := 250 } : Room) (va_Pc [.ref x0, .long v, .ref u0] (fun U => U.heap.size = sz ∧ va_P (dC, dI) vwCl ([(u0, .inl (cJ, 1, .inr (.inl fJ)))] ++ Wc) U.heap ∧ va_K (dC, dI) vwCl [(cI, .int), (cZ, .boolean), (cG, .array .int), (cJ, .long)] U ∧ va_D (fun _ => True) ([(u0, .inl (cJ, 1, .inr (.inl fJ)))] ++ Wc) ∧ qn_N U ∧ qx_P U ∧ qy_P U)) (va_Qi (fun (r : Int32) (_ : Unit) => r = nI 1 ∧ True) (fun _ t => va_P (dC, dI) vwCl ([(u0, .inl (cJ, 1, .inr (.inl fJ)))] ++ Wc) t.heap ∧ va_K (dC, dI) vwCl [(cI, .int), (cZ, .boolean), (cG, .array .int), (cJ, .long)] t ∧ va_D (va_A ([(u0, .inl (cJ, 1, .inr (.inl fJ)))] ++ Wc) sz) ([(u0, .inl (cJ, 1, .inr (.inl fJ)))] ++ Wc)) (va_A ([(u0, .inl (cJ, 1, .inr (.inl fJ)))] ++ Wc) sz)) 1 6 (va_A ([(u0, .inl (cJ, 1, .inr (.inl fJ)))] ++ Wc) sz) := by
  refine va_MetW (cc := cL_feed) (maxL := 5) (ret := (some .int)) (by decide) rfl ?_
  intro p e s m args below meth c s₁ B hml hv
  obtain ⟨rfl, hsz, hP, hK, hD0, hN, hX, hY⟩ := hv
  have hx := B.exec
  have hb := B.bytes
  have hr := B.returns
  have hts := atoms_spec (ws := wsL_feed) B.pre
  have hown : s.vm.findClass RL = some m.cls := findClass_of_methodNamed B.named
  have hlocks := B.notSynchronized
  have hTab : c.exceptionTable.toList = tableOf [(0, 9, 12, 13)] := vx_table (x := yL_feed) B (hts (.codeWith yL_feed cL_feed 5 (some .int) [(0, 9, 12, 13)]) (by decide +kernel))
  subst hsz
  have hD := hD0.self (sz := s.heap.size)
  generalize hAe : va_A ([(u0, .inl (cJ, 1, .inr (.inl fJ)))] ++ Wc) s.heap.size = A at hD ⊢
  have hA : ∀ q : Nat, s.heap.size ≤ q → A q := fun q h => by rw [← hAe]; exact Or.inr h
  have hS : va_S A s.heap s.heap [] := va_S.rf
  have hl := lv_entry ([.ref x0, .long v, .ref u0]) (n := 5) (Nat.le_of_ble_eq_true rfl)
  rw [lg_entry_eq]
  generalize (lg_sl ([.ref x0, .long v, .ref u0]) ++ List.replicate (5 - (lg_sl ([.ref x0, .long v, .ref u0])).length) Slot.unset).toArray = ls at hl ⊢
  have hl : lv_has ls 5 [(0, .ref x0), (1, .long v), (3, .ref u0)] := hl
  refine qr_nm (fun Q hQ => ?_)
  refine lv_aload_n hx hb dL_feed_0 rfl (lv_at hl 2 rfl) ?_
  refine lv_iconst (v := nI 0) hx hb dL_feed_1 (by decide) ?_
  refine lv_aload_n hx hb dL_feed_2 rfl (lv_at hl 0 rfl) ?_
  refine lv_lload_n hx hb dL_feed_3 rfl (lv_at hl 1 rfl) ?_
  have hPc : va_P (dC, dI) vwCl Wc s.heap := qj_PR hP
  have hDc : va_D A Wc := qj_DR hD
  have hKc := hK.sub (tys' := [(cI, .int), (cZ, .boolean), (cG, .array .int)]) [0, 1, 2] rfl
  refine vx_calli (px := fun _ : Unit => True) (BX := fun E' _ _ => E' = "java/lang/IllegalStateException") (AX := fun q => s.heap.size ≤ q) (vx_runV (As := [.long v]) (rest := [.int (nI 0), .ref u0]) ⟨hx, hb, hml, hown, hts⟩ (hM s.heap.size) (cwV 1 hts gL_feed_X5_feed rfl rfl rfl (by decide +kernel) ⟨Nat.le_of_ble_eq_true rfl, Nat.le_of_ble_eq_true rfl⟩) ⟨fun a U g mk q => by obtain ⟨q0, q1, qP, qK, qN, qX⟩ := q; exact ⟨q0, q1, qP, va_K.moved (u := U) (U := U.calling g mk a) (Vm.Alike.refl U.vm) qK, qn_same (u := U) rfl qN, qx_blind qX⟩, va_recv (q0 := 0) (ci := 4) hKc hPc rfl hW0, fun U hU hW => ⟨rfl, by rw [hU], by rw [hU]; exact hPc, va_K.moved hW.alike hKc, qn_warm hW hN, qx_pre (A := fun q => s.heap.size ≤ q) (fun _ h => h) va_S.rf hW hU hX⟩⟩ rfl rfl hl.1 rfl (lv_room (Nat.le_of_ble_eq_true rfl)) dL_feed_4 ⟨Nat.le_of_ble_eq_true rfl, Nat.le_of_ble_eq_true rfl⟩) hS (fun q _ h => hA q h) hA (fun q _ h => hA q h) (fun E9 ce q9 u t H1 locs ht hvm hw hE hz1 hk1 hS hce hcv hcl => ?_) (fun rv u t H1 locs ht hvm hw hB hz1 hk1 hS => hw.elim)
  have hE : E9 = "java/lang/IllegalStateException" := hE
  subst hE
  have hP := qj_kept hP (fun q hq => hk1 q hq (Nat.not_le.mpr hq))
  generalize H1 = H at hP hS hce ⊢
  refine vx_catch (own := RL) (name := "java/lang/IllegalStateException") (E := "java/lang/IllegalStateException") hown [] ⟨0, 9, 12, 13⟩ [] (by rw [hTab]; rfl) (fun z hz => absurd hz List.not_mem_nil) (by decide) (by decide) (hts (.classLink RL 13 "java/lang/IllegalStateException") (by decide +kernel)) (qx_use hX (by decide +kernel)) hce hcv hcl ?_
  refine W.eq (g2 := F0 m 12 ls [.ref q9]) rfl ?_
  refine lv_astore (lv' := [(4, .ref q9), (0, .ref x0), (1, .long v), (3, .ref u0)]) hx hb dL_feed_12 hl (by decide) rfl (fun ls hl => ?_)
  refine lv_iconst (v := nI 1) hx hb dL_feed_14 (by decide) ?_
  refine W.widen (k := 1) (n := 6) (by decide) (by decide) ?_
  subst hQ
  exact W.iret hx hb hr (fun t ht hW => ⟨⟨_, (), rfl, ⟨rfl, trivial⟩, by rw [ht]; exact hP, va_K.moved hW.alike hK, hD⟩, hS.F ht⟩) hS.2.2 dL_feed_15
set_option maxHeartbeats 4000000 in
set_option maxRecDepth 100000 in
theorem ql_symbol (l : Launch) (dC : Nat → ClassId) (dI : Nat → Nat → Nat) (cI cZ cG cJ : ClassId) (Wc : va_W) (x0 u0 : Nat) (fx : List Value) (fJ : Nat → Int64) (a1 : Int32) (a2 : Int32) (sz : Nat) (S : Type) (PW : Int32 → S → Prop) (NW : S → va_W) (rm : Room) (hr9 : rm.cells = 0 ∧ rm.slots = 0 ∧ rm.frames ≤ 8 ∧ rm.locals ≤ 200) (hW0 : Wc[0]? = some (x0, .inr (4, fx))) (hadr : ∀ u, (NW u).map (fun q => q.1) = Wc.map (fun q => q.1)) (hM : ∀ z : Nat, Met l yX5_symbol wsX5_symbol rm (va_Pc [.ref x0, .int a1, .int a2] (fun U => U.heap.size = z ∧ va_P (dC, dI) vwCl Wc U.heap ∧ va_K (dC, dI) vwCl [(cI, .int), (cZ, .boolean), (cG, .array .int)] U ∧ va_D (fun _ => True) Wc ∧ qn_N U)) (va_Qi PW (fun u t => va_P (dC, dI) vwCl (NW u) t.heap ∧ va_K (dC, dI) vwCl [(cI, .int), (cZ, .boolean), (cG, .array .int)] t ∧ va_D (va_A Wc z) (NW u)) (va_A Wc z)) 0 0 (va_A Wc z)) : Met l yL_symbol wsL_symbol ({ frames := 9, cells := 1, slots := 6, locals := 250 } : Room) (va_Pc [.ref x0, .int a1, .int a2, .ref u0] (fun U => U.heap.size = sz ∧ va_P (dC, dI) vwCl ([(u0, .inl (cJ, 1, .inr (.inl fJ)))] ++ Wc) U.heap ∧ va_K (dC, dI) vwCl [(cI, .int), (cZ, .boolean), (cG, .array .int), (cJ, .long)] U ∧ va_D (fun _ => True) ([(u0, .inl (cJ, 1, .inr (.inl fJ)))] ++ Wc) ∧ qn_N U ∧ qx_P U ∧ qy_P U)) (va_Qi (fun (r : Int32) (u : Int32 × S) => r = nI 0 ∧ PW u.1 u.2) (fun u t => va_P (dC, dI) vwCl ([(u0, .inl (cJ, 1, .inr (.inl (vp_updL fJ 0 u.1.toInt64))))] ++ NW u.2) t.heap ∧ va_K (dC, dI) vwCl [(cI, .int), (cZ, .boolean), (cG, .array .int), (cJ, .long)] t ∧ va_D (va_A ([(u0, .inl (cJ, 1, .inr (.inl fJ)))] ++ Wc) sz) ([(u0, .inl (cJ, 1, .inr (.inl (vp_updL fJ 0 u.1.toInt64))))] ++ NW u.2)) (va_A ([(u0, .inl (cJ, 1, .inr (.inl fJ)))] ++ Wc) sz)) 1 6 (va_A ([(u0, .inl (cJ, 1, .inr (.inl fJ)))] ++ Wc) sz) := by
  refine va_MetW (cc := cL_symbol) (maxL := 5) (ret := (some .int)) (by decide) rfl ?_
  intro p e s m args below meth c s₁ B hml hv
  obtain ⟨rfl, hsz, hP, hK, hD0, hN, hX, hY⟩ := hv
  have hx := B.exec
  have hb := B.bytes
  have hr := B.returns
  have hts := atoms_spec (ws := wsL_symbol) B.pre
  have hown : s.vm.findClass RL = some m.cls := findClass_of_methodNamed B.named
  have hlocks := B.notSynchronized
  subst hsz
  have hD := hD0.self (sz := s.heap.size)
  generalize hAe : va_A ([(u0, .inl (cJ, 1, .inr (.inl fJ)))] ++ Wc) s.heap.size = A at hD ⊢
  have hA : ∀ q : Nat, s.heap.size ≤ q → A q := fun q h => by rw [← hAe]; exact Or.inr h
  have hS : va_S A s.heap s.heap [] := va_S.rf
  have hl := lv_entry ([.ref x0, .int a1, .int a2, .ref u0]) (n := 5) (Nat.le_of_ble_eq_true rfl)
  rw [lg_entry_eq]
  generalize (lg_sl ([.ref x0, .int a1, .int a2, .ref u0]) ++ List.replicate (5 - (lg_sl ([.ref x0, .int a1, .int a2, .ref u0])).length) Slot.unset).toArray = ls at hl ⊢
  have hl : lv_has ls 5 [(0, .ref x0), (1, .int a1), (2, .int a2), (3, .ref u0)] := hl
  refine qr_nm (fun Q hQ => ?_)
  refine lv_aload_n hx hb dL_symbol_0 rfl (lv_at hl 3 rfl) ?_
  refine lv_iconst (v := nI 0) hx hb dL_symbol_1 (by decide) ?_
  refine lv_aload_n hx hb dL_symbol_2 rfl (lv_at hl 0 rfl) ?_
  refine lv_iload_n hx hb dL_symbol_3 rfl (lv_at hl 1 rfl) ?_
  refine lv_iload_n hx hb dL_symbol_4 rfl (lv_at hl 2 rfl) ?_
  have hPc : va_P (dC, dI) vwCl Wc s.heap := qj_PR hP
  have hDc : va_D A Wc := qj_DR hD
  have hKc := hK.sub (tys' := [(cI, .int), (cZ, .boolean), (cG, .array .int)]) [0, 1, 2] rfl
  have hFc := qj_free hDc hS hA
  refine va_calli (va_runV (As := [.int a1, .int a2]) (rest := [.int (nI 0), .ref u0]) ⟨hx, hb, hml, hown, hts⟩ (hM s.heap.size) (cwV 2 hts gL_symbol_X5_symbol rfl hr9.1 hr9.2.1 (by decide +kernel) ⟨Nat.le_trans (Nat.succ_le_succ hr9.2.2.1) (Nat.le_of_ble_eq_true rfl), Nat.le_trans (Nat.add_le_add_left hr9.2.2.2 _) (Nat.le_of_ble_eq_true rfl)⟩) ⟨fun a U g mk q => by obtain ⟨q0, q1, qP, qK, qD, qN⟩ := q; exact ⟨q0, q1, qP, va_K.moved (u := U) (U := U.calling g mk a) (Vm.Alike.refl U.vm) qK, qD, qn_same (u := U) rfl qN⟩, va_recv (q0 := 0) (ci := 4) hKc hPc rfl hW0, fun U hU hW => ⟨rfl, by rw [hU], by rw [hU]; exact hPc, va_K.moved hW.alike hKc, hDc.weaken (fun _ _ _ _ => trivial), qn_warm hW hN⟩⟩ rfl rfl hl.1 rfl (lv_room (Nat.le_of_ble_eq_true rfl)) dL_symbol_5 ⟨Nat.le_of_ble_eq_true rfl, Nat.le_of_ble_eq_true rfl⟩) hS (fun q _ h => hFc q h) hFc (fun rv u t H1 locs ht hvm hw hB hz1 hk1 hS => ?_)
  obtain ⟨hP1, hK1, hD1⟩ := hB
  rw [ht] at hP1
  obtain ⟨hP, hD⟩ := qj_apR hP hD (hadr u) hk1 hP1
  generalize H1 = H at hP hS ⊢
  refine lv_i2l (v := rv.toInt64) hx hb dL_symbol_8 rfl ?_
  refine va_last (x := rv.toInt64) hx hb hK hP hD hS 0 3 rfl rfl (vp_in_nI (by decide) (by decide)) dL_symbol_9 (fun H locs hP hD hS => ?_)
  have e0 : (nI 0).toNatClampNeg = 0 := nI_clamp (by decide)
  rw [e0] at hP hD
  have hP : va_P (dC, dI) vwCl ([(u0, .inl (cJ, 1, .inr (.inl (vp_updL fJ 0 rv.toInt64))))] ++ NW u) H := hP
  have hD : va_D A ([(u0, .inl (cJ, 1, .inr (.inl (vp_updL fJ 0 rv.toInt64))))] ++ NW u) := hD
  refine lv_goto (tgt := 17) hx hb dL_symbol_10 rfl ?_
  refine lv_iconst (v := nI 0) hx hb dL_symbol_17 (by decide) ?_
  refine W.widen (k := 1) (n := 6) (by decide) (by decide) ?_
  subst hQ
  exact W.iret hx hb hr (fun t ht hW => ⟨⟨_, (rv, u), rfl, ⟨rfl, hw⟩, by rw [ht]; exact hP, va_K.moved hW.alike hK, hD⟩, hS.F ht⟩) hS.2.2 dL_symbol_18
set_option maxHeartbeats 4000000 in
set_option maxRecDepth 100000 in
theorem ql_symbol1 (l : Launch) (dC : Nat → ClassId) (dI : Nat → Nat → Nat) (cI cZ cG cJ : ClassId) (Wc : va_W) (x0 u0 : Nat) (fx : List Value) (fJ : Nat → Int64) (a1 : Int32) (a2 : Int32) (sz : Nat) (hW0 : Wc[0]? = some (x0, .inr (4, fx))) (hM : ∀ z : Nat, vx_Met l yX5_symbol wsX5_symbol ({ frames := 6, cells := 1, slots := 6, locals := 90 } : Room) (va_Pc [.ref x0, .int a1, .int a2] (fun U => U.heap.size = z ∧ va_P (dC, dI) vwCl Wc U.heap ∧ va_K (dC, dI) vwCl [(cI, .int), (cZ, .boolean), (cG, .array .int)] U ∧ qn_N U ∧ qx_P U)) (va_Qi (fun (_ : Int32) (_ : Unit) => False) (fun _ _ => True) (fun q => z ≤ q)) (qx_X "java/lang/IndexOutOfBoundsException" z) 1 6 (fun q => z ≤ q)) : Met l yL_symbol wsL_symbol ({ frames := 9, cells := 1, slots := 6, locals := 250 } : Room) (va_Pc [.ref x0, .int a1, .int a2, .ref u0] (fun U => U.heap.size = sz ∧ va_P (dC, dI) vwCl ([(u0, .inl (cJ, 1, .inr (.inl fJ)))] ++ Wc) U.heap ∧ va_K (dC, dI) vwCl [(cI, .int), (cZ, .boolean), (cG, .array .int), (cJ, .long)] U ∧ va_D (fun _ => True) ([(u0, .inl (cJ, 1, .inr (.inl fJ)))] ++ Wc) ∧ qn_N U ∧ qx_P U ∧ qy_P U)) (va_Qi (fun (r : Int32) (_ : Unit) => r = nI 1 ∧ True) (fun _ t => va_P (dC, dI) vwCl ([(u0, .inl (cJ, 1, .inr (.inl fJ)))] ++ Wc) t.heap ∧ va_K (dC, dI) vwCl [(cI, .int), (cZ, .boolean), (cG, .array .int), (cJ, .long)] t ∧ va_D (va_A ([(u0, .inl (cJ, 1, .inr (.inl fJ)))] ++ Wc) sz) ([(u0, .inl (cJ, 1, .inr (.inl fJ)))] ++ Wc)) (va_A ([(u0, .inl (cJ, 1, .inr (.inl fJ)))] ++ Wc) sz)) 1 6 (va_A ([(u0, .inl (cJ, 1, .inr (.inl fJ)))] ++ Wc) sz) := by
  refine va_MetW (cc := cL_symbol) (maxL := 5) (ret := (some .int)) (by decide) rfl ?_
  intro p e s m args below meth c s₁ B hml hv
  obtain ⟨rfl, hsz, hP, hK, hD0, hN, hX, hY⟩ := hv
  have hx := B.exec
  have hb := B.bytes
  have hr := B.returns
  have hts := atoms_spec (ws := wsL_symbol) B.pre
  have hown : s.vm.findClass RL = some m.cls := findClass_of_methodNamed B.named
  have hlocks := B.notSynchronized
  have hTab : c.exceptionTable.toList = tableOf [(0, 10, 13, 19)] := vx_table (x := yL_symbol) B (hts (.codeWith yL_symbol cL_symbol 5 (some .int) [(0, 10, 13, 19)]) (by decide +kernel))
  subst hsz
  have hD := hD0.self (sz := s.heap.size)
  generalize hAe : va_A ([(u0, .inl (cJ, 1, .inr (.inl fJ)))] ++ Wc) s.heap.size = A at hD ⊢
  have hA : ∀ q : Nat, s.heap.size ≤ q → A q := fun q h => by rw [← hAe]; exact Or.inr h
  have hS : va_S A s.heap s.heap [] := va_S.rf
  have hl := lv_entry ([.ref x0, .int a1, .int a2, .ref u0]) (n := 5) (Nat.le_of_ble_eq_true rfl)
  rw [lg_entry_eq]
  generalize (lg_sl ([.ref x0, .int a1, .int a2, .ref u0]) ++ List.replicate (5 - (lg_sl ([.ref x0, .int a1, .int a2, .ref u0])).length) Slot.unset).toArray = ls at hl ⊢
  have hl : lv_has ls 5 [(0, .ref x0), (1, .int a1), (2, .int a2), (3, .ref u0)] := hl
  refine qr_nm (fun Q hQ => ?_)
  refine lv_aload_n hx hb dL_symbol_0 rfl (lv_at hl 3 rfl) ?_
  refine lv_iconst (v := nI 0) hx hb dL_symbol_1 (by decide) ?_
  refine lv_aload_n hx hb dL_symbol_2 rfl (lv_at hl 0 rfl) ?_
  refine lv_iload_n hx hb dL_symbol_3 rfl (lv_at hl 1 rfl) ?_
  refine lv_iload_n hx hb dL_symbol_4 rfl (lv_at hl 2 rfl) ?_
  have hPc : va_P (dC, dI) vwCl Wc s.heap := qj_PR hP
  have hDc : va_D A Wc := qj_DR hD
  have hKc := hK.sub (tys' := [(cI, .int), (cZ, .boolean), (cG, .array .int)]) [0, 1, 2] rfl
  refine vx_calli (px := fun _ : Unit => True) (BX := fun E' _ _ => E' = "java/lang/IndexOutOfBoundsException") (AX := fun q => s.heap.size ≤ q) (vx_runV (As := [.int a1, .int a2]) (rest := [.int (nI 0), .ref u0]) ⟨hx, hb, hml, hown, hts⟩ (hM s.heap.size) (cwV 2 hts gL_symbol_X5_symbol rfl rfl rfl (by decide +kernel) ⟨Nat.le_of_ble_eq_true rfl, Nat.le_of_ble_eq_true rfl⟩) ⟨fun a U g mk q => by obtain ⟨q0, q1, qP, qK, qN, qX⟩ := q; exact ⟨q0, q1, qP, va_K.moved (u := U) (U := U.calling g mk a) (Vm.Alike.refl U.vm) qK, qn_same (u := U) rfl qN, qx_blind qX⟩, va_recv (q0 := 0) (ci := 4) hKc hPc rfl hW0, fun U hU hW => ⟨rfl, by rw [hU], by rw [hU]; exact hPc, va_K.moved hW.alike hKc, qn_warm hW hN, qx_pre (A := fun q => s.heap.size ≤ q) (fun _ h => h) va_S.rf hW hU hX⟩⟩ rfl rfl hl.1 rfl (lv_room (Nat.le_of_ble_eq_true rfl)) dL_symbol_5 ⟨Nat.le_of_ble_eq_true rfl, Nat.le_of_ble_eq_true rfl⟩) hS (fun q _ h => hA q h) hA (fun q _ h => hA q h) (fun E9 ce q9 u t H1 locs ht hvm hw hE hz1 hk1 hS hce hcv hcl => ?_) (fun rv u t H1 locs ht hvm hw hB hz1 hk1 hS => hw.elim)
  have hE : E9 = "java/lang/IndexOutOfBoundsException" := hE
  subst hE
  have hP := qj_kept hP (fun q hq => hk1 q hq (Nat.not_le.mpr hq))
  generalize H1 = H at hP hS hce ⊢
  refine vx_catch (own := RL) (name := "java/lang/IndexOutOfBoundsException") (E := "java/lang/IndexOutOfBoundsException") hown [] ⟨0, 10, 13, 19⟩ [] (by rw [hTab]; rfl) (fun z hz => absurd hz List.not_mem_nil) (by decide) (by decide) (hts (.classLink RL 19 "java/lang/IndexOutOfBoundsException") (by decide +kernel)) (qx_use hX (by decide +kernel)) hce hcv hcl ?_
  refine W.eq (g2 := F0 m 13 ls [.ref q9]) rfl ?_
  refine lv_astore (lv' := [(4, .ref q9), (0, .ref x0), (1, .int a1), (2, .int a2), (3, .ref u0)]) hx hb dL_symbol_13 hl (by decide) rfl (fun ls hl => ?_)
  refine lv_iconst (v := nI 1) hx hb dL_symbol_15 (by decide) ?_
  refine W.widen (k := 1) (n := 6) (by decide) (by decide) ?_
  subst hQ
  exact W.iret hx hb hr (fun t ht hW => ⟨⟨_, (), rfl, ⟨rfl, trivial⟩, by rw [ht]; exact hP, va_K.moved hW.alike hK, hD⟩, hS.F ht⟩) hS.2.2 dL_symbol_16
set_option maxHeartbeats 4000000 in
set_option maxRecDepth 100000 in
theorem ql_scratch (l : Launch) (dC : Nat → ClassId) (dI : Nat → Nat → Nat) (cI cZ cG cJ : ClassId) (Wc : va_W) (x0 u0 : Nat) (fx : List Value) (fJ : Nat → Int64) (a1 : Int32) (a2 : Int32) (a3 : Int32) (sz : Nat) (S : Type) (PW : S → Prop) (NW : S → va_W) (rm : Room) (hr9 : rm.cells = 0 ∧ rm.slots = 0 ∧ rm.frames ≤ 8 ∧ rm.locals ≤ 200) (hW0 : Wc[0]? = some (x0, .inr (4, fx))) (hadr : ∀ u, (NW u).map (fun q => q.1) = Wc.map (fun q => q.1)) (hM : ∀ z : Nat, Met l yX5_scratch wsX5_scratch rm (va_Pc [.ref x0, .int a1, .int a2, .int a3] (fun U => U.heap.size = z ∧ va_P (dC, dI) vwCl Wc U.heap ∧ va_K (dC, dI) vwCl [(cI, .int), (cZ, .boolean), (cG, .array .int)] U ∧ va_D (fun _ => True) Wc ∧ qn_N U)) (va_Qv PW (fun u t => va_P (dC, dI) vwCl (NW u) t.heap ∧ va_K (dC, dI) vwCl [(cI, .int), (cZ, .boolean), (cG, .array .int)] t ∧ va_D (va_A Wc z) (NW u)) (va_A Wc z)) 0 0 (va_A Wc z)) : Met l yL_scratch wsL_scratch ({ frames := 9, cells := 1, slots := 6, locals := 250 } : Room) (va_Pc [.ref x0, .int a1, .int a2, .int a3] (fun U => U.heap.size = sz ∧ va_P (dC, dI) vwCl ([(u0, .inl (cJ, 1, .inr (.inl fJ)))] ++ Wc) U.heap ∧ va_K (dC, dI) vwCl [(cI, .int), (cZ, .boolean), (cG, .array .int), (cJ, .long)] U ∧ va_D (fun _ => True) ([(u0, .inl (cJ, 1, .inr (.inl fJ)))] ++ Wc) ∧ qn_N U ∧ qx_P U ∧ qy_P U)) (va_Qi (fun (r : Int32) (u : S) => r = nI 0 ∧ PW u) (fun u t => va_P (dC, dI) vwCl ([(u0, .inl (cJ, 1, .inr (.inl fJ)))] ++ NW u) t.heap ∧ va_K (dC, dI) vwCl [(cI, .int), (cZ, .boolean), (cG, .array .int), (cJ, .long)] t ∧ va_D (va_A ([(u0, .inl (cJ, 1, .inr (.inl fJ)))] ++ Wc) sz) ([(u0, .inl (cJ, 1, .inr (.inl fJ)))] ++ NW u)) (va_A ([(u0, .inl (cJ, 1, .inr (.inl fJ)))] ++ Wc) sz)) 1 6 (va_A ([(u0, .inl (cJ, 1, .inr (.inl fJ)))] ++ Wc) sz) := by
  refine va_MetW (cc := cL_scratch) (maxL := 5) (ret := (some .int)) (by decide) rfl ?_
  intro p e s m args below meth c s₁ B hml hv
  obtain ⟨rfl, hsz, hP, hK, hD0, hN, hX, hY⟩ := hv
  have hx := B.exec
  have hb := B.bytes
  have hr := B.returns
  have hts := atoms_spec (ws := wsL_scratch) B.pre
  have hown : s.vm.findClass RL = some m.cls := findClass_of_methodNamed B.named
  have hlocks := B.notSynchronized
  subst hsz
  have hD := hD0.self (sz := s.heap.size)
  generalize hAe : va_A ([(u0, .inl (cJ, 1, .inr (.inl fJ)))] ++ Wc) s.heap.size = A at hD ⊢
  have hA : ∀ q : Nat, s.heap.size ≤ q → A q := fun q h => by rw [← hAe]; exact Or.inr h
  have hS : va_S A s.heap s.heap [] := va_S.rf
  have hl := lv_entry ([.ref x0, .int a1, .int a2, .int a3]) (n := 5) (Nat.le_of_ble_eq_true rfl)
  rw [lg_entry_eq]
  generalize (lg_sl ([.ref x0, .int a1, .int a2, .int a3]) ++ List.replicate (5 - (lg_sl ([.ref x0, .int a1, .int a2, .int a3])).length) Slot.unset).toArray = ls at hl ⊢
  have hl : lv_has ls 5 [(0, .ref x0), (1, .int a1), (2, .int a2), (3, .int a3)] := hl
  refine qr_nm (fun Q hQ => ?_)
  refine lv_aload_n hx hb dL_scratch_0 rfl (lv_at hl 0 rfl) ?_
  refine lv_iload_n hx hb dL_scratch_1 rfl (lv_at hl 1 rfl) ?_
  refine lv_iload_n hx hb dL_scratch_2 rfl (lv_at hl 2 rfl) ?_
  refine lv_iload_n hx hb dL_scratch_3 rfl (lv_at hl 3 rfl) ?_
  have hPc : va_P (dC, dI) vwCl Wc s.heap := qj_PR hP
  have hDc : va_D A Wc := qj_DR hD
  have hKc := hK.sub (tys' := [(cI, .int), (cZ, .boolean), (cG, .array .int)]) [0, 1, 2] rfl
  have hFc := qj_free hDc hS hA
  refine va_callv (va_runV (As := [.int a1, .int a2, .int a3]) (rest := []) ⟨hx, hb, hml, hown, hts⟩ (hM s.heap.size) (cwV 3 hts gL_scratch_X5_scratch rfl hr9.1 hr9.2.1 (by decide +kernel) ⟨Nat.le_trans (Nat.succ_le_succ hr9.2.2.1) (Nat.le_of_ble_eq_true rfl), Nat.le_trans (Nat.add_le_add_left hr9.2.2.2 _) (Nat.le_of_ble_eq_true rfl)⟩) ⟨fun a U g mk q => by obtain ⟨q0, q1, qP, qK, qD, qN⟩ := q; exact ⟨q0, q1, qP, va_K.moved (u := U) (U := U.calling g mk a) (Vm.Alike.refl U.vm) qK, qD, qn_same (u := U) rfl qN⟩, va_recv (q0 := 0) (ci := 4) hKc hPc rfl hW0, fun U hU hW => ⟨rfl, by rw [hU], by rw [hU]; exact hPc, va_K.moved hW.alike hKc, hDc.weaken (fun _ _ _ _ => trivial), qn_warm hW hN⟩⟩ rfl rfl hl.1 rfl (lv_room (Nat.le_of_ble_eq_true rfl)) dL_scratch_4 ⟨Nat.le_of_ble_eq_true rfl, Nat.le_of_ble_eq_true rfl⟩) hS (fun q _ h => hFc q h) hFc (fun u t H1 locs ht hvm hw hB hz1 hk1 hS => ?_)
  obtain ⟨hP1, hK1, hD1⟩ := hB
  rw [ht] at hP1
  obtain ⟨hP, hD⟩ := qj_apR hP hD (hadr u) hk1 hP1
  generalize H1 = H at hP hS ⊢
  refine lv_goto (tgt := 22) hx hb dL_scratch_7 rfl ?_
  refine lv_iconst (v := nI 0) hx hb dL_scratch_22 (by decide) ?_
  refine W.widen (k := 1) (n := 6) (by decide) (by decide) ?_
  subst hQ
  exact W.iret hx hb hr (fun t ht hW => ⟨⟨_, u, rfl, ⟨rfl, hw⟩, by rw [ht]; exact hP, va_K.moved hW.alike hK, hD⟩, hS.F ht⟩) hS.2.2 dL_scratch_23
set_option maxHeartbeats 4000000 in
set_option maxRecDepth 100000 in
theorem ql_scratch1 (l : Launch) (dC : Nat → ClassId) (dI : Nat → Nat → Nat) (cI cZ cG cJ : ClassId) (Wc : va_W) (x0 u0 : Nat) (fx : List Value) (fJ : Nat → Int64) (a1 : Int32) (a2 : Int32) (a3 : Int32) (sz : Nat) (hW0 : Wc[0]? = some (x0, .inr (4, fx))) (hM : ∀ z : Nat, vx_Met l yX5_scratch wsX5_scratch ({ frames := 6, cells := 1, slots := 6, locals := 90 } : Room) (va_Pc [.ref x0, .int a1, .int a2, .int a3] (fun U => U.heap.size = z ∧ va_P (dC, dI) vwCl Wc U.heap ∧ va_K (dC, dI) vwCl [(cI, .int), (cZ, .boolean), (cG, .array .int)] U ∧ qn_N U ∧ qx_P U)) (va_Qv (fun (_ : Unit) => False) (fun _ _ => True) (fun q => z ≤ q)) (qx_X "java/lang/IndexOutOfBoundsException" z) 1 6 (fun q => z ≤ q)) : Met l yL_scratch wsL_scratch ({ frames := 9, cells := 1, slots := 6, locals := 250 } : Room) (va_Pc [.ref x0, .int a1, .int a2, .int a3] (fun U => U.heap.size = sz ∧ va_P (dC, dI) vwCl ([(u0, .inl (cJ, 1, .inr (.inl fJ)))] ++ Wc) U.heap ∧ va_K (dC, dI) vwCl [(cI, .int), (cZ, .boolean), (cG, .array .int), (cJ, .long)] U ∧ va_D (fun _ => True) ([(u0, .inl (cJ, 1, .inr (.inl fJ)))] ++ Wc) ∧ qn_N U ∧ qx_P U ∧ qy_P U)) (va_Qi (fun (r : Int32) (_ : Unit) => r = nI 1 ∧ True) (fun _ t => va_P (dC, dI) vwCl ([(u0, .inl (cJ, 1, .inr (.inl fJ)))] ++ Wc) t.heap ∧ va_K (dC, dI) vwCl [(cI, .int), (cZ, .boolean), (cG, .array .int), (cJ, .long)] t ∧ va_D (va_A ([(u0, .inl (cJ, 1, .inr (.inl fJ)))] ++ Wc) sz) ([(u0, .inl (cJ, 1, .inr (.inl fJ)))] ++ Wc)) (va_A ([(u0, .inl (cJ, 1, .inr (.inl fJ)))] ++ Wc) sz)) 1 6 (va_A ([(u0, .inl (cJ, 1, .inr (.inl fJ)))] ++ Wc) sz) := by
  refine va_MetW (cc := cL_scratch) (maxL := 5) (ret := (some .int)) (by decide) rfl ?_
  intro p e s m args below meth c s₁ B hml hv
  obtain ⟨rfl, hsz, hP, hK, hD0, hN, hX, hY⟩ := hv
  have hx := B.exec
  have hb := B.bytes
  have hr := B.returns
  have hts := atoms_spec (ws := wsL_scratch) B.pre
  have hown : s.vm.findClass RL = some m.cls := findClass_of_methodNamed B.named
  have hlocks := B.notSynchronized
  have hTab : c.exceptionTable.toList = tableOf [(0, 7, 10, 19), (0, 7, 14, 25), (0, 7, 18, 13)] := vx_table (x := yL_scratch) B (hts (.codeWith yL_scratch cL_scratch 5 (some .int) [(0, 7, 10, 19), (0, 7, 14, 25), (0, 7, 18, 13)]) (by decide +kernel))
  subst hsz
  have hD := hD0.self (sz := s.heap.size)
  generalize hAe : va_A ([(u0, .inl (cJ, 1, .inr (.inl fJ)))] ++ Wc) s.heap.size = A at hD ⊢
  have hA : ∀ q : Nat, s.heap.size ≤ q → A q := fun q h => by rw [← hAe]; exact Or.inr h
  have hS : va_S A s.heap s.heap [] := va_S.rf
  have hl := lv_entry ([.ref x0, .int a1, .int a2, .int a3]) (n := 5) (Nat.le_of_ble_eq_true rfl)
  rw [lg_entry_eq]
  generalize (lg_sl ([.ref x0, .int a1, .int a2, .int a3]) ++ List.replicate (5 - (lg_sl ([.ref x0, .int a1, .int a2, .int a3])).length) Slot.unset).toArray = ls at hl ⊢
  have hl : lv_has ls 5 [(0, .ref x0), (1, .int a1), (2, .int a2), (3, .int a3)] := hl
  refine qr_nm (fun Q hQ => ?_)
  refine lv_aload_n hx hb dL_scratch_0 rfl (lv_at hl 0 rfl) ?_
  refine lv_iload_n hx hb dL_scratch_1 rfl (lv_at hl 1 rfl) ?_
  refine lv_iload_n hx hb dL_scratch_2 rfl (lv_at hl 2 rfl) ?_
  refine lv_iload_n hx hb dL_scratch_3 rfl (lv_at hl 3 rfl) ?_
  have hPc : va_P (dC, dI) vwCl Wc s.heap := qj_PR hP
  have hDc : va_D A Wc := qj_DR hD
  have hKc := hK.sub (tys' := [(cI, .int), (cZ, .boolean), (cG, .array .int)]) [0, 1, 2] rfl
  refine vx_callv (px := fun _ : Unit => True) (BX := fun E' _ _ => E' = "java/lang/IndexOutOfBoundsException") (AX := fun q => s.heap.size ≤ q) (vx_runV (As := [.int a1, .int a2, .int a3]) (rest := []) ⟨hx, hb, hml, hown, hts⟩ (hM s.heap.size) (cwV 3 hts gL_scratch_X5_scratch rfl rfl rfl (by decide +kernel) ⟨Nat.le_of_ble_eq_true rfl, Nat.le_of_ble_eq_true rfl⟩) ⟨fun a U g mk q => by obtain ⟨q0, q1, qP, qK, qN, qX⟩ := q; exact ⟨q0, q1, qP, va_K.moved (u := U) (U := U.calling g mk a) (Vm.Alike.refl U.vm) qK, qn_same (u := U) rfl qN, qx_blind qX⟩, va_recv (q0 := 0) (ci := 4) hKc hPc rfl hW0, fun U hU hW => ⟨rfl, by rw [hU], by rw [hU]; exact hPc, va_K.moved hW.alike hKc, qn_warm hW hN, qx_pre (A := fun q => s.heap.size ≤ q) (fun _ h => h) va_S.rf hW hU hX⟩⟩ rfl rfl hl.1 rfl (lv_room (Nat.le_of_ble_eq_true rfl)) dL_scratch_4 ⟨Nat.le_of_ble_eq_true rfl, Nat.le_of_ble_eq_true rfl⟩) hS (fun q _ h => hA q h) hA (fun q _ h => hA q h) (fun E9 ce q9 u t H1 locs ht hvm hw hE hz1 hk1 hS hce hcv hcl => ?_) (fun u t H1 locs ht hvm hw hB hz1 hk1 hS => hw.elim)
  have hE : E9 = "java/lang/IndexOutOfBoundsException" := hE
  subst hE
  have hP := qj_kept hP (fun q hq => hk1 q hq (Nat.not_le.mpr hq))
  generalize H1 = H at hP hS hce ⊢
  refine vx_catch (own := RL) (name := "java/lang/IndexOutOfBoundsException") (E := "java/lang/IndexOutOfBoundsException") hown [] ⟨0, 7, 10, 19⟩ [⟨0, 7, 14, 25⟩, ⟨0, 7, 18, 13⟩] (by rw [hTab]; rfl) (fun z hz => absurd hz List.not_mem_nil) (by decide) (by decide) (hts (.classLink RL 19 "java/lang/IndexOutOfBoundsException") (by decide +kernel)) (qx_use hX (by decide +kernel)) hce hcv hcl ?_
  refine W.eq (g2 := F0 m 10 ls [.ref q9]) rfl ?_
  refine lv_astore (lv' := [(4, .ref q9), (0, .ref x0), (1, .int a1), (2, .int a2), (3, .int a3)]) hx hb dL_scratch_10 hl (by decide) rfl (fun ls hl => ?_)
  refine lv_iconst (v := nI 1) hx hb dL_scratch_12 (by decide) ?_
  refine W.widen (k := 1) (n := 6) (by decide) (by decide) ?_
  subst hQ
  exact W.iret hx hb hr (fun t ht hW => ⟨⟨_, (), rfl, ⟨rfl, trivial⟩, by rw [ht]; exact hP, va_K.moved hW.alike hK, hD⟩, hS.F ht⟩) hS.2.2 dL_scratch_13
set_option maxHeartbeats 4000000 in
set_option maxRecDepth 100000 in
theorem ql_scratch2 (l : Launch) (dC : Nat → ClassId) (dI : Nat → Nat → Nat) (cI cZ cG cJ : ClassId) (Wc : va_W) (x0 u0 : Nat) (fx : List Value) (fJ : Nat → Int64) (a1 : Int32) (a2 : Int32) (a3 : Int32) (sz : Nat) (hW0 : Wc[0]? = some (x0, .inr (4, fx))) (hM : ∀ z : Nat, vx_Met l yX5_scratch wsX5_scratch ({ frames := 6, cells := 1, slots := 6, locals := 90 } : Room) (va_Pc [.ref x0, .int a1, .int a2, .int a3] (fun U => U.heap.size = z ∧ va_P (dC, dI) vwCl Wc U.heap ∧ va_K (dC, dI) vwCl [(cI, .int), (cZ, .boolean), (cG, .array .int)] U ∧ qn_N U ∧ qx_P U)) (va_Qv (fun (_ : Unit) => False) (fun _ _ => True) (fun q => z ≤ q)) (qx_X "java/lang/IllegalArgumentException" z) 1 6 (fun q => z ≤ q)) : Met l yL_scratch wsL_scratch ({ frames := 9, cells := 1, slots := 6, locals := 250 } : Room) (va_Pc [.ref x0, .int a1, .int a2, .int a3] (fun U => U.heap.size = sz ∧ va_P (dC, dI) vwCl ([(u0, .inl (cJ, 1, .inr (.inl fJ)))] ++ Wc) U.heap ∧ va_K (dC, dI) vwCl [(cI, .int), (cZ, .boolean), (cG, .array .int), (cJ, .long)] U ∧ va_D (fun _ => True) ([(u0, .inl (cJ, 1, .inr (.inl fJ)))] ++ Wc) ∧ qn_N U ∧ qx_P U ∧ qy_P U)) (va_Qi (fun (r : Int32) (_ : Unit) => r = nI 2 ∧ True) (fun _ t => va_P (dC, dI) vwCl ([(u0, .inl (cJ, 1, .inr (.inl fJ)))] ++ Wc) t.heap ∧ va_K (dC, dI) vwCl [(cI, .int), (cZ, .boolean), (cG, .array .int), (cJ, .long)] t ∧ va_D (va_A ([(u0, .inl (cJ, 1, .inr (.inl fJ)))] ++ Wc) sz) ([(u0, .inl (cJ, 1, .inr (.inl fJ)))] ++ Wc)) (va_A ([(u0, .inl (cJ, 1, .inr (.inl fJ)))] ++ Wc) sz)) 1 6 (va_A ([(u0, .inl (cJ, 1, .inr (.inl fJ)))] ++ Wc) sz) := by
  refine va_MetW (cc := cL_scratch) (maxL := 5) (ret := (some .int)) (by decide) rfl ?_
  intro p e s m args below meth c s₁ B hml hv
  obtain ⟨rfl, hsz, hP, hK, hD0, hN, hX, hY⟩ := hv
  have hx := B.exec
  have hb := B.bytes
  have hr := B.returns
  have hts := atoms_spec (ws := wsL_scratch) B.pre
  have hown : s.vm.findClass RL = some m.cls := findClass_of_methodNamed B.named
  have hlocks := B.notSynchronized
  have hTab : c.exceptionTable.toList = tableOf [(0, 7, 10, 19), (0, 7, 14, 25), (0, 7, 18, 13)] := vx_table (x := yL_scratch) B (hts (.codeWith yL_scratch cL_scratch 5 (some .int) [(0, 7, 10, 19), (0, 7, 14, 25), (0, 7, 18, 13)]) (by decide +kernel))
  subst hsz
  have hD := hD0.self (sz := s.heap.size)
  generalize hAe : va_A ([(u0, .inl (cJ, 1, .inr (.inl fJ)))] ++ Wc) s.heap.size = A at hD ⊢
  have hA : ∀ q : Nat, s.heap.size ≤ q → A q := fun q h => by rw [← hAe]; exact Or.inr h
  have hS : va_S A s.heap s.heap [] := va_S.rf
  have hl := lv_entry ([.ref x0, .int a1, .int a2, .int a3]) (n := 5) (Nat.le_of_ble_eq_true rfl)
  rw [lg_entry_eq]
  generalize (lg_sl ([.ref x0, .int a1, .int a2, .int a3]) ++ List.replicate (5 - (lg_sl ([.ref x0, .int a1, .int a2, .int a3])).length) Slot.unset).toArray = ls at hl ⊢
  have hl : lv_has ls 5 [(0, .ref x0), (1, .int a1), (2, .int a2), (3, .int a3)] := hl
  refine qr_nm (fun Q hQ => ?_)
  refine lv_aload_n hx hb dL_scratch_0 rfl (lv_at hl 0 rfl) ?_
  refine lv_iload_n hx hb dL_scratch_1 rfl (lv_at hl 1 rfl) ?_
  refine lv_iload_n hx hb dL_scratch_2 rfl (lv_at hl 2 rfl) ?_
  refine lv_iload_n hx hb dL_scratch_3 rfl (lv_at hl 3 rfl) ?_
  have hPc : va_P (dC, dI) vwCl Wc s.heap := qj_PR hP
  have hDc : va_D A Wc := qj_DR hD
  have hKc := hK.sub (tys' := [(cI, .int), (cZ, .boolean), (cG, .array .int)]) [0, 1, 2] rfl
  refine vx_callv (px := fun _ : Unit => True) (BX := fun E' _ _ => E' = "java/lang/IllegalArgumentException") (AX := fun q => s.heap.size ≤ q) (vx_runV (As := [.int a1, .int a2, .int a3]) (rest := []) ⟨hx, hb, hml, hown, hts⟩ (hM s.heap.size) (cwV 3 hts gL_scratch_X5_scratch rfl rfl rfl (by decide +kernel) ⟨Nat.le_of_ble_eq_true rfl, Nat.le_of_ble_eq_true rfl⟩) ⟨fun a U g mk q => by obtain ⟨q0, q1, qP, qK, qN, qX⟩ := q; exact ⟨q0, q1, qP, va_K.moved (u := U) (U := U.calling g mk a) (Vm.Alike.refl U.vm) qK, qn_same (u := U) rfl qN, qx_blind qX⟩, va_recv (q0 := 0) (ci := 4) hKc hPc rfl hW0, fun U hU hW => ⟨rfl, by rw [hU], by rw [hU]; exact hPc, va_K.moved hW.alike hKc, qn_warm hW hN, qx_pre (A := fun q => s.heap.size ≤ q) (fun _ h => h) va_S.rf hW hU hX⟩⟩ rfl rfl hl.1 rfl (lv_room (Nat.le_of_ble_eq_true rfl)) dL_scratch_4 ⟨Nat.le_of_ble_eq_true rfl, Nat.le_of_ble_eq_true rfl⟩) hS (fun q _ h => hA q h) hA (fun q _ h => hA q h) (fun E9 ce q9 u t H1 locs ht hvm hw hE hz1 hk1 hS hce hcv hcl => ?_) (fun u t H1 locs ht hvm hw hB hz1 hk1 hS => hw.elim)
  have hE : E9 = "java/lang/IllegalArgumentException" := hE
  subst hE
  have hP := qj_kept hP (fun q hq => hk1 q hq (Nat.not_le.mpr hq))
  generalize H1 = H at hP hS hce ⊢
  refine vx_catch (own := RL) (name := "java/lang/IllegalArgumentException") (E := "java/lang/IllegalArgumentException") hown [⟨0, 7, 10, 19⟩] ⟨0, 7, 14, 25⟩ [⟨0, 7, 18, 13⟩] (by rw [hTab]; rfl) (fun z hz => by
      rcases List.mem_cons.mp hz with rfl | hz
      · exact Or.inr ⟨by decide, "java/lang/IndexOutOfBoundsException", hts (.classLink RL 19 "java/lang/IndexOutOfBoundsException") (by decide +kernel), hY.1⟩
      exact absurd hz List.not_mem_nil) (by decide) (by decide) (hts (.classLink RL 25 "java/lang/IllegalArgumentException") (by decide +kernel)) (qx_use hX (by decide +kernel)) hce hcv hcl ?_
  refine W.eq (g2 := F0 m 14 ls [.ref q9]) rfl ?_
  refine lv_astore (lv' := [(4, .ref q9), (0, .ref x0), (1, .int a1), (2, .int a2), (3, .int a3)]) hx hb dL_scratch_14 hl (by decide) rfl (fun ls hl => ?_)
  refine lv_iconst (v := nI 2) hx hb dL_scratch_16 (by decide) ?_
  refine W.widen (k := 1) (n := 6) (by decide) (by decide) ?_
  subst hQ
  exact W.iret hx hb hr (fun t ht hW => ⟨⟨_, (), rfl, ⟨rfl, trivial⟩, by rw [ht]; exact hP, va_K.moved hW.alike hK, hD⟩, hS.F ht⟩) hS.2.2 dL_scratch_17
set_option maxHeartbeats 4000000 in
set_option maxRecDepth 100000 in
theorem ql_scratch3 (l : Launch) (dC : Nat → ClassId) (dI : Nat → Nat → Nat) (cI cZ cG cJ : ClassId) (Wc : va_W) (x0 u0 : Nat) (fx : List Value) (fJ : Nat → Int64) (a1 : Int32) (a2 : Int32) (a3 : Int32) (sz : Nat) (hW0 : Wc[0]? = some (x0, .inr (4, fx))) (hM : ∀ z : Nat, vx_Met l yX5_scratch wsX5_scratch ({ frames := 6, cells := 1, slots := 6, locals := 90 } : Room) (va_Pc [.ref x0, .int a1, .int a2, .int a3] (fun U => U.heap.size = z ∧ va_P (dC, dI) vwCl Wc U.heap ∧ va_K (dC, dI) vwCl [(cI, .int), (cZ, .boolean), (cG, .array .int)] U ∧ qn_N U ∧ qx_P U)) (va_Qv (fun (_ : Unit) => False) (fun _ _ => True) (fun q => z ≤ q)) (qx_X "java/lang/IllegalStateException" z) 1 6 (fun q => z ≤ q)) : Met l yL_scratch wsL_scratch ({ frames := 9, cells := 1, slots := 6, locals := 250 } : Room) (va_Pc [.ref x0, .int a1, .int a2, .int a3] (fun U => U.heap.size = sz ∧ va_P (dC, dI) vwCl ([(u0, .inl (cJ, 1, .inr (.inl fJ)))] ++ Wc) U.heap ∧ va_K (dC, dI) vwCl [(cI, .int), (cZ, .boolean), (cG, .array .int), (cJ, .long)] U ∧ va_D (fun _ => True) ([(u0, .inl (cJ, 1, .inr (.inl fJ)))] ++ Wc) ∧ qn_N U ∧ qx_P U ∧ qy_P U)) (va_Qi (fun (r : Int32) (_ : Unit) => r = nI 3 ∧ True) (fun _ t => va_P (dC, dI) vwCl ([(u0, .inl (cJ, 1, .inr (.inl fJ)))] ++ Wc) t.heap ∧ va_K (dC, dI) vwCl [(cI, .int), (cZ, .boolean), (cG, .array .int), (cJ, .long)] t ∧ va_D (va_A ([(u0, .inl (cJ, 1, .inr (.inl fJ)))] ++ Wc) sz) ([(u0, .inl (cJ, 1, .inr (.inl fJ)))] ++ Wc)) (va_A ([(u0, .inl (cJ, 1, .inr (.inl fJ)))] ++ Wc) sz)) 1 6 (va_A ([(u0, .inl (cJ, 1, .inr (.inl fJ)))] ++ Wc) sz) := by
  refine va_MetW (cc := cL_scratch) (maxL := 5) (ret := (some .int)) (by decide) rfl ?_
  intro p e s m args below meth c s₁ B hml hv
  obtain ⟨rfl, hsz, hP, hK, hD0, hN, hX, hY⟩ := hv
  have hx := B.exec
  have hb := B.bytes
  have hr := B.returns
  have hts := atoms_spec (ws := wsL_scratch) B.pre
  have hown : s.vm.findClass RL = some m.cls := findClass_of_methodNamed B.named
  have hlocks := B.notSynchronized
  have hTab : c.exceptionTable.toList = tableOf [(0, 7, 10, 19), (0, 7, 14, 25), (0, 7, 18, 13)] := vx_table (x := yL_scratch) B (hts (.codeWith yL_scratch cL_scratch 5 (some .int) [(0, 7, 10, 19), (0, 7, 14, 25), (0, 7, 18, 13)]) (by decide +kernel))
  subst hsz
  have hD := hD0.self (sz := s.heap.size)
  generalize hAe : va_A ([(u0, .inl (cJ, 1, .inr (.inl fJ)))] ++ Wc) s.heap.size = A at hD ⊢
  have hA : ∀ q : Nat, s.heap.size ≤ q → A q := fun q h => by rw [← hAe]; exact Or.inr h
  have hS : va_S A s.heap s.heap [] := va_S.rf
  have hl := lv_entry ([.ref x0, .int a1, .int a2, .int a3]) (n := 5) (Nat.le_of_ble_eq_true rfl)
  rw [lg_entry_eq]
  generalize (lg_sl ([.ref x0, .int a1, .int a2, .int a3]) ++ List.replicate (5 - (lg_sl ([.ref x0, .int a1, .int a2, .int a3])).length) Slot.unset).toArray = ls at hl ⊢
  have hl : lv_has ls 5 [(0, .ref x0), (1, .int a1), (2, .int a2), (3, .int a3)] := hl
  refine qr_nm (fun Q hQ => ?_)
  refine lv_aload_n hx hb dL_scratch_0 rfl (lv_at hl 0 rfl) ?_
  refine lv_iload_n hx hb dL_scratch_1 rfl (lv_at hl 1 rfl) ?_
  refine lv_iload_n hx hb dL_scratch_2 rfl (lv_at hl 2 rfl) ?_
  refine lv_iload_n hx hb dL_scratch_3 rfl (lv_at hl 3 rfl) ?_
  have hPc : va_P (dC, dI) vwCl Wc s.heap := qj_PR hP
  have hDc : va_D A Wc := qj_DR hD
  have hKc := hK.sub (tys' := [(cI, .int), (cZ, .boolean), (cG, .array .int)]) [0, 1, 2] rfl
  refine vx_callv (px := fun _ : Unit => True) (BX := fun E' _ _ => E' = "java/lang/IllegalStateException") (AX := fun q => s.heap.size ≤ q) (vx_runV (As := [.int a1, .int a2, .int a3]) (rest := []) ⟨hx, hb, hml, hown, hts⟩ (hM s.heap.size) (cwV 3 hts gL_scratch_X5_scratch rfl rfl rfl (by decide +kernel) ⟨Nat.le_of_ble_eq_true rfl, Nat.le_of_ble_eq_true rfl⟩) ⟨fun a U g mk q => by obtain ⟨q0, q1, qP, qK, qN, qX⟩ := q; exact ⟨q0, q1, qP, va_K.moved (u := U) (U := U.calling g mk a) (Vm.Alike.refl U.vm) qK, qn_same (u := U) rfl qN, qx_blind qX⟩, va_recv (q0 := 0) (ci := 4) hKc hPc rfl hW0, fun U hU hW => ⟨rfl, by rw [hU], by rw [hU]; exact hPc, va_K.moved hW.alike hKc, qn_warm hW hN, qx_pre (A := fun q => s.heap.size ≤ q) (fun _ h => h) va_S.rf hW hU hX⟩⟩ rfl rfl hl.1 rfl (lv_room (Nat.le_of_ble_eq_true rfl)) dL_scratch_4 ⟨Nat.le_of_ble_eq_true rfl, Nat.le_of_ble_eq_true rfl⟩) hS (fun q _ h => hA q h) hA (fun q _ h => hA q h) (fun E9 ce q9 u t H1 locs ht hvm hw hE hz1 hk1 hS hce hcv hcl => ?_) (fun u t H1 locs ht hvm hw hB hz1 hk1 hS => hw.elim)
  have hE : E9 = "java/lang/IllegalStateException" := hE
  subst hE
  have hP := qj_kept hP (fun q hq => hk1 q hq (Nat.not_le.mpr hq))
  generalize H1 = H at hP hS hce ⊢
  refine vx_catch (own := RL) (name := "java/lang/IllegalStateException") (E := "java/lang/IllegalStateException") hown [⟨0, 7, 10, 19⟩, ⟨0, 7, 14, 25⟩] ⟨0, 7, 18, 13⟩ [] (by rw [hTab]; rfl) (fun z hz => by
      rcases List.mem_cons.mp hz with rfl | hz
      · exact Or.inr ⟨by decide, "java/lang/IndexOutOfBoundsException", hts (.classLink RL 19 "java/lang/IndexOutOfBoundsException") (by decide +kernel), hY.2.2.1⟩
      rcases List.mem_cons.mp hz with rfl | hz
      · exact Or.inr ⟨by decide, "java/lang/IllegalArgumentException", hts (.classLink RL 25 "java/lang/IllegalArgumentException") (by decide +kernel), hY.2.2.2⟩
      exact absurd hz List.not_mem_nil) (by decide) (by decide) (hts (.classLink RL 13 "java/lang/IllegalStateException") (by decide +kernel)) (qx_use hX (by decide +kernel)) hce hcv hcl ?_
  refine W.eq (g2 := F0 m 18 ls [.ref q9]) rfl ?_
  refine lv_astore (lv' := [(4, .ref q9), (0, .ref x0), (1, .int a1), (2, .int a2), (3, .int a3)]) hx hb dL_scratch_18 hl (by decide) rfl (fun ls hl => ?_)
  refine lv_iconst (v := nI 3) hx hb dL_scratch_20 (by decide) ?_
  refine W.widen (k := 1) (n := 6) (by decide) (by decide) ?_
  subst hQ
  exact W.iret hx hb hr (fun t ht hW => ⟨⟨_, (), rfl, ⟨rfl, trivial⟩, by rw [ht]; exact hP, va_K.moved hW.alike hK, hD⟩, hS.F ht⟩) hS.2.2 dL_scratch_21
set_option maxHeartbeats 4000000 in
set_option maxRecDepth 100000 in
theorem ql_burst (l : Launch) (dC : Nat → ClassId) (dI : Nat → Nat → Nat) (cI cZ cG cJ : ClassId) (Wc : va_W) (x0 u0 : Nat) (fx : List Value) (fJ : Nat → Int64) (a1 : Int32) (a2 : Int32) (a3 : Int32) (sz : Nat) (S : Type) (PW : S → Prop) (NW : S → va_W) (rm : Room) (hr9 : rm.cells = 0 ∧ rm.slots = 0 ∧ rm.frames ≤ 8 ∧ rm.locals ≤ 200) (hW0 : Wc[0]? = some (x0, .inr (4, fx))) (hadr : ∀ u, (NW u).map (fun q => q.1) = Wc.map (fun q => q.1)) (hM : ∀ z : Nat, Met l yX5_burst wsX5_burst rm (va_Pc [.ref x0, .int a1, .int a2, .int a3] (fun U => U.heap.size = z ∧ va_P (dC, dI) vwCl Wc U.heap ∧ va_K (dC, dI) vwCl [(cI, .int), (cZ, .boolean), (cG, .array .int)] U ∧ va_D (fun _ => True) Wc ∧ qn_N U)) (va_Qv PW (fun u t => va_P (dC, dI) vwCl (NW u) t.heap ∧ va_K (dC, dI) vwCl [(cI, .int), (cZ, .boolean), (cG, .array .int)] t ∧ va_D (va_A Wc z) (NW u)) (va_A Wc z)) 0 0 (va_A Wc z)) : Met l yL_burst wsL_burst ({ frames := 9, cells := 1, slots := 6, locals := 250 } : Room) (va_Pc [.ref x0, .int a1, .int a2, .int a3] (fun U => U.heap.size = sz ∧ va_P (dC, dI) vwCl ([(u0, .inl (cJ, 1, .inr (.inl fJ)))] ++ Wc) U.heap ∧ va_K (dC, dI) vwCl [(cI, .int), (cZ, .boolean), (cG, .array .int), (cJ, .long)] U ∧ va_D (fun _ => True) ([(u0, .inl (cJ, 1, .inr (.inl fJ)))] ++ Wc) ∧ qn_N U ∧ qx_P U ∧ qy_P U)) (va_Qi (fun (r : Int32) (u : S) => r = nI 0 ∧ PW u) (fun u t => va_P (dC, dI) vwCl ([(u0, .inl (cJ, 1, .inr (.inl fJ)))] ++ NW u) t.heap ∧ va_K (dC, dI) vwCl [(cI, .int), (cZ, .boolean), (cG, .array .int), (cJ, .long)] t ∧ va_D (va_A ([(u0, .inl (cJ, 1, .inr (.inl fJ)))] ++ Wc) sz) ([(u0, .inl (cJ, 1, .inr (.inl fJ)))] ++ NW u)) (va_A ([(u0, .inl (cJ, 1, .inr (.inl fJ)))] ++ Wc) sz)) 1 6 (va_A ([(u0, .inl (cJ, 1, .inr (.inl fJ)))] ++ Wc) sz) := by
  refine va_MetW (cc := cL_burst) (maxL := 5) (ret := (some .int)) (by decide) rfl ?_
  intro p e s m args below meth c s₁ B hml hv
  obtain ⟨rfl, hsz, hP, hK, hD0, hN, hX, hY⟩ := hv
  have hx := B.exec
  have hb := B.bytes
  have hr := B.returns
  have hts := atoms_spec (ws := wsL_burst) B.pre
  have hown : s.vm.findClass RL = some m.cls := findClass_of_methodNamed B.named
  have hlocks := B.notSynchronized
  subst hsz
  have hD := hD0.self (sz := s.heap.size)
  generalize hAe : va_A ([(u0, .inl (cJ, 1, .inr (.inl fJ)))] ++ Wc) s.heap.size = A at hD ⊢
  have hA : ∀ q : Nat, s.heap.size ≤ q → A q := fun q h => by rw [← hAe]; exact Or.inr h
  have hS : va_S A s.heap s.heap [] := va_S.rf
  have hl := lv_entry ([.ref x0, .int a1, .int a2, .int a3]) (n := 5) (Nat.le_of_ble_eq_true rfl)
  rw [lg_entry_eq]
  generalize (lg_sl ([.ref x0, .int a1, .int a2, .int a3]) ++ List.replicate (5 - (lg_sl ([.ref x0, .int a1, .int a2, .int a3])).length) Slot.unset).toArray = ls at hl ⊢
  have hl : lv_has ls 5 [(0, .ref x0), (1, .int a1), (2, .int a2), (3, .int a3)] := hl
  refine qr_nm (fun Q hQ => ?_)
  refine lv_aload_n hx hb dL_burst_0 rfl (lv_at hl 0 rfl) ?_
  refine lv_iload_n hx hb dL_burst_1 rfl (lv_at hl 1 rfl) ?_
  refine lv_iload_n hx hb dL_burst_2 rfl (lv_at hl 2 rfl) ?_
  refine lv_iload_n hx hb dL_burst_3 rfl (lv_at hl 3 rfl) ?_
  have hPc : va_P (dC, dI) vwCl Wc s.heap := qj_PR hP
  have hDc : va_D A Wc := qj_DR hD
  have hKc := hK.sub (tys' := [(cI, .int), (cZ, .boolean), (cG, .array .int)]) [0, 1, 2] rfl
  have hFc := qj_free hDc hS hA
  refine va_callv (va_runV (As := [.int a1, .int a2, .int a3]) (rest := []) ⟨hx, hb, hml, hown, hts⟩ (hM s.heap.size) (cwV 3 hts gL_burst_X5_burst rfl hr9.1 hr9.2.1 (by decide +kernel) ⟨Nat.le_trans (Nat.succ_le_succ hr9.2.2.1) (Nat.le_of_ble_eq_true rfl), Nat.le_trans (Nat.add_le_add_left hr9.2.2.2 _) (Nat.le_of_ble_eq_true rfl)⟩) ⟨fun a U g mk q => by obtain ⟨q0, q1, qP, qK, qD, qN⟩ := q; exact ⟨q0, q1, qP, va_K.moved (u := U) (U := U.calling g mk a) (Vm.Alike.refl U.vm) qK, qD, qn_same (u := U) rfl qN⟩, va_recv (q0 := 0) (ci := 4) hKc hPc rfl hW0, fun U hU hW => ⟨rfl, by rw [hU], by rw [hU]; exact hPc, va_K.moved hW.alike hKc, hDc.weaken (fun _ _ _ _ => trivial), qn_warm hW hN⟩⟩ rfl rfl hl.1 rfl (lv_room (Nat.le_of_ble_eq_true rfl)) dL_burst_4 ⟨Nat.le_of_ble_eq_true rfl, Nat.le_of_ble_eq_true rfl⟩) hS (fun q _ h => hFc q h) hFc (fun u t H1 locs ht hvm hw hB hz1 hk1 hS => ?_)
  obtain ⟨hP1, hK1, hD1⟩ := hB
  rw [ht] at hP1
  obtain ⟨hP, hD⟩ := qj_apR hP hD (hadr u) hk1 hP1
  generalize H1 = H at hP hS ⊢
  refine lv_goto (tgt := 22) hx hb dL_burst_7 rfl ?_
  refine lv_iconst (v := nI 0) hx hb dL_burst_22 (by decide) ?_
  refine W.widen (k := 1) (n := 6) (by decide) (by decide) ?_
  subst hQ
  exact W.iret hx hb hr (fun t ht hW => ⟨⟨_, u, rfl, ⟨rfl, hw⟩, by rw [ht]; exact hP, va_K.moved hW.alike hK, hD⟩, hS.F ht⟩) hS.2.2 dL_burst_23
set_option maxHeartbeats 4000000 in
set_option maxRecDepth 100000 in
theorem ql_burst1 (l : Launch) (dC : Nat → ClassId) (dI : Nat → Nat → Nat) (cI cZ cG cJ : ClassId) (Wc : va_W) (x0 u0 : Nat) (fx : List Value) (fJ : Nat → Int64) (a1 : Int32) (a2 : Int32) (a3 : Int32) (sz : Nat) (hW0 : Wc[0]? = some (x0, .inr (4, fx))) (hM : ∀ z : Nat, vx_Met l yX5_burst wsX5_burst ({ frames := 6, cells := 1, slots := 6, locals := 90 } : Room) (va_Pc [.ref x0, .int a1, .int a2, .int a3] (fun U => U.heap.size = z ∧ va_P (dC, dI) vwCl Wc U.heap ∧ va_K (dC, dI) vwCl [(cI, .int), (cZ, .boolean), (cG, .array .int)] U ∧ qn_N U ∧ qx_P U)) (va_Qv (fun (_ : Unit) => False) (fun _ _ => True) (fun q => z ≤ q)) (qx_X "java/lang/IllegalArgumentException" z) 1 6 (fun q => z ≤ q)) : Met l yL_burst wsL_burst ({ frames := 9, cells := 1, slots := 6, locals := 250 } : Room) (va_Pc [.ref x0, .int a1, .int a2, .int a3] (fun U => U.heap.size = sz ∧ va_P (dC, dI) vwCl ([(u0, .inl (cJ, 1, .inr (.inl fJ)))] ++ Wc) U.heap ∧ va_K (dC, dI) vwCl [(cI, .int), (cZ, .boolean), (cG, .array .int), (cJ, .long)] U ∧ va_D (fun _ => True) ([(u0, .inl (cJ, 1, .inr (.inl fJ)))] ++ Wc) ∧ qn_N U ∧ qx_P U ∧ qy_P U)) (va_Qi (fun (r : Int32) (_ : Unit) => r = nI 1 ∧ True) (fun _ t => va_P (dC, dI) vwCl ([(u0, .inl (cJ, 1, .inr (.inl fJ)))] ++ Wc) t.heap ∧ va_K (dC, dI) vwCl [(cI, .int), (cZ, .boolean), (cG, .array .int), (cJ, .long)] t ∧ va_D (va_A ([(u0, .inl (cJ, 1, .inr (.inl fJ)))] ++ Wc) sz) ([(u0, .inl (cJ, 1, .inr (.inl fJ)))] ++ Wc)) (va_A ([(u0, .inl (cJ, 1, .inr (.inl fJ)))] ++ Wc) sz)) 1 6 (va_A ([(u0, .inl (cJ, 1, .inr (.inl fJ)))] ++ Wc) sz) := by
  refine va_MetW (cc := cL_burst) (maxL := 5) (ret := (some .int)) (by decide) rfl ?_
  intro p e s m args below meth c s₁ B hml hv
  obtain ⟨rfl, hsz, hP, hK, hD0, hN, hX, hY⟩ := hv
  have hx := B.exec
  have hb := B.bytes
  have hr := B.returns
  have hts := atoms_spec (ws := wsL_burst) B.pre
  have hown : s.vm.findClass RL = some m.cls := findClass_of_methodNamed B.named
  have hlocks := B.notSynchronized
  have hTab : c.exceptionTable.toList = tableOf [(0, 7, 10, 25), (0, 7, 14, 19), (0, 7, 18, 13)] := vx_table (x := yL_burst) B (hts (.codeWith yL_burst cL_burst 5 (some .int) [(0, 7, 10, 25), (0, 7, 14, 19), (0, 7, 18, 13)]) (by decide +kernel))
  subst hsz
  have hD := hD0.self (sz := s.heap.size)
  generalize hAe : va_A ([(u0, .inl (cJ, 1, .inr (.inl fJ)))] ++ Wc) s.heap.size = A at hD ⊢
  have hA : ∀ q : Nat, s.heap.size ≤ q → A q := fun q h => by rw [← hAe]; exact Or.inr h
  have hS : va_S A s.heap s.heap [] := va_S.rf
  have hl := lv_entry ([.ref x0, .int a1, .int a2, .int a3]) (n := 5) (Nat.le_of_ble_eq_true rfl)
  rw [lg_entry_eq]
  generalize (lg_sl ([.ref x0, .int a1, .int a2, .int a3]) ++ List.replicate (5 - (lg_sl ([.ref x0, .int a1, .int a2, .int a3])).length) Slot.unset).toArray = ls at hl ⊢
  have hl : lv_has ls 5 [(0, .ref x0), (1, .int a1), (2, .int a2), (3, .int a3)] := hl
  refine qr_nm (fun Q hQ => ?_)
  refine lv_aload_n hx hb dL_burst_0 rfl (lv_at hl 0 rfl) ?_
  refine lv_iload_n hx hb dL_burst_1 rfl (lv_at hl 1 rfl) ?_
  refine lv_iload_n hx hb dL_burst_2 rfl (lv_at hl 2 rfl) ?_
  refine lv_iload_n hx hb dL_burst_3 rfl (lv_at hl 3 rfl) ?_
  have hPc : va_P (dC, dI) vwCl Wc s.heap := qj_PR hP
  have hDc : va_D A Wc := qj_DR hD
  have hKc := hK.sub (tys' := [(cI, .int), (cZ, .boolean), (cG, .array .int)]) [0, 1, 2] rfl
  refine vx_callv (px := fun _ : Unit => True) (BX := fun E' _ _ => E' = "java/lang/IllegalArgumentException") (AX := fun q => s.heap.size ≤ q) (vx_runV (As := [.int a1, .int a2, .int a3]) (rest := []) ⟨hx, hb, hml, hown, hts⟩ (hM s.heap.size) (cwV 3 hts gL_burst_X5_burst rfl rfl rfl (by decide +kernel) ⟨Nat.le_of_ble_eq_true rfl, Nat.le_of_ble_eq_true rfl⟩) ⟨fun a U g mk q => by obtain ⟨q0, q1, qP, qK, qN, qX⟩ := q; exact ⟨q0, q1, qP, va_K.moved (u := U) (U := U.calling g mk a) (Vm.Alike.refl U.vm) qK, qn_same (u := U) rfl qN, qx_blind qX⟩, va_recv (q0 := 0) (ci := 4) hKc hPc rfl hW0, fun U hU hW => ⟨rfl, by rw [hU], by rw [hU]; exact hPc, va_K.moved hW.alike hKc, qn_warm hW hN, qx_pre (A := fun q => s.heap.size ≤ q) (fun _ h => h) va_S.rf hW hU hX⟩⟩ rfl rfl hl.1 rfl (lv_room (Nat.le_of_ble_eq_true rfl)) dL_burst_4 ⟨Nat.le_of_ble_eq_true rfl, Nat.le_of_ble_eq_true rfl⟩) hS (fun q _ h => hA q h) hA (fun q _ h => hA q h) (fun E9 ce q9 u t H1 locs ht hvm hw hE hz1 hk1 hS hce hcv hcl => ?_) (fun u t H1 locs ht hvm hw hB hz1 hk1 hS => hw.elim)
  have hE : E9 = "java/lang/IllegalArgumentException" := hE
  subst hE
  have hP := qj_kept hP (fun q hq => hk1 q hq (Nat.not_le.mpr hq))
  generalize H1 = H at hP hS hce ⊢
  refine vx_catch (own := RL) (name := "java/lang/IllegalArgumentException") (E := "java/lang/IllegalArgumentException") hown [] ⟨0, 7, 10, 25⟩ [⟨0, 7, 14, 19⟩, ⟨0, 7, 18, 13⟩] (by rw [hTab]; rfl) (fun z hz => absurd hz List.not_mem_nil) (by decide) (by decide) (hts (.classLink RL 25 "java/lang/IllegalArgumentException") (by decide +kernel)) (qx_use hX (by decide +kernel)) hce hcv hcl ?_
  refine W.eq (g2 := F0 m 10 ls [.ref q9]) rfl ?_
  refine lv_astore (lv' := [(4, .ref q9), (0, .ref x0), (1, .int a1), (2, .int a2), (3, .int a3)]) hx hb dL_burst_10 hl (by decide) rfl (fun ls hl => ?_)
  refine lv_iconst (v := nI 1) hx hb dL_burst_12 (by decide) ?_
  refine W.widen (k := 1) (n := 6) (by decide) (by decide) ?_
  subst hQ
  exact W.iret hx hb hr (fun t ht hW => ⟨⟨_, (), rfl, ⟨rfl, trivial⟩, by rw [ht]; exact hP, va_K.moved hW.alike hK, hD⟩, hS.F ht⟩) hS.2.2 dL_burst_13
set_option maxHeartbeats 4000000 in
set_option maxRecDepth 100000 in
theorem ql_burst2 (l : Launch) (dC : Nat → ClassId) (dI : Nat → Nat → Nat) (cI cZ cG cJ : ClassId) (Wc : va_W) (x0 u0 : Nat) (fx : List Value) (fJ : Nat → Int64) (a1 : Int32) (a2 : Int32) (a3 : Int32) (sz : Nat) (hW0 : Wc[0]? = some (x0, .inr (4, fx))) (hM : ∀ z : Nat, vx_Met l yX5_burst wsX5_burst ({ frames := 6, cells := 1, slots := 6, locals := 90 } : Room) (va_Pc [.ref x0, .int a1, .int a2, .int a3] (fun U => U.heap.size = z ∧ va_P (dC, dI) vwCl Wc U.heap ∧ va_K (dC, dI) vwCl [(cI, .int), (cZ, .boolean), (cG, .array .int)] U ∧ qn_N U ∧ qx_P U)) (va_Qv (fun (_ : Unit) => False) (fun _ _ => True) (fun q => z ≤ q)) (qx_X "java/lang/IndexOutOfBoundsException" z) 1 6 (fun q => z ≤ q)) : Met l yL_burst wsL_burst ({ frames := 9, cells := 1, slots := 6, locals := 250 } : Room) (va_Pc [.ref x0, .int a1, .int a2, .int a3] (fun U => U.heap.size = sz ∧ va_P (dC, dI) vwCl ([(u0, .inl (cJ, 1, .inr (.inl fJ)))] ++ Wc) U.heap ∧ va_K (dC, dI) vwCl [(cI, .int), (cZ, .boolean), (cG, .array .int), (cJ, .long)] U ∧ va_D (fun _ => True) ([(u0, .inl (cJ, 1, .inr (.inl fJ)))] ++ Wc) ∧ qn_N U ∧ qx_P U ∧ qy_P U)) (va_Qi (fun (r : Int32) (_ : Unit) => r = nI 2 ∧ True) (fun _ t => va_P (dC, dI) vwCl ([(u0, .inl (cJ, 1, .inr (.inl fJ)))] ++ Wc) t.heap ∧ va_K (dC, dI) vwCl [(cI, .int), (cZ, .boolean), (cG, .array .int), (cJ, .long)] t ∧ va_D (va_A ([(u0, .inl (cJ, 1, .inr (.inl fJ)))] ++ Wc) sz) ([(u0, .inl (cJ, 1, .inr (.inl fJ)))] ++ Wc)) (va_A ([(u0, .inl (cJ, 1, .inr (.inl fJ)))] ++ Wc) sz)) 1 6 (va_A ([(u0, .inl (cJ, 1, .inr (.inl fJ)))] ++ Wc) sz) := by
  refine va_MetW (cc := cL_burst) (maxL := 5) (ret := (some .int)) (by decide) rfl ?_
  intro p e s m args below meth c s₁ B hml hv
  obtain ⟨rfl, hsz, hP, hK, hD0, hN, hX, hY⟩ := hv
  have hx := B.exec
  have hb := B.bytes
  have hr := B.returns
  have hts := atoms_spec (ws := wsL_burst) B.pre
  have hown : s.vm.findClass RL = some m.cls := findClass_of_methodNamed B.named
  have hlocks := B.notSynchronized
  have hTab : c.exceptionTable.toList = tableOf [(0, 7, 10, 25), (0, 7, 14, 19), (0, 7, 18, 13)] := vx_table (x := yL_burst) B (hts (.codeWith yL_burst cL_burst 5 (some .int) [(0, 7, 10, 25), (0, 7, 14, 19), (0, 7, 18, 13)]) (by decide +kernel))
  subst hsz
  have hD := hD0.self (sz := s.heap.size)
  generalize hAe : va_A ([(u0, .inl (cJ, 1, .inr (.inl fJ)))] ++ Wc) s.heap.size = A at hD ⊢
  have hA : ∀ q : Nat, s.heap.size ≤ q → A q := fun q h => by rw [← hAe]; exact Or.inr h
  have hS : va_S A s.heap s.heap [] := va_S.rf
  have hl := lv_entry ([.ref x0, .int a1, .int a2, .int a3]) (n := 5) (Nat.le_of_ble_eq_true rfl)
  rw [lg_entry_eq]
  generalize (lg_sl ([.ref x0, .int a1, .int a2, .int a3]) ++ List.replicate (5 - (lg_sl ([.ref x0, .int a1, .int a2, .int a3])).length) Slot.unset).toArray = ls at hl ⊢
  have hl : lv_has ls 5 [(0, .ref x0), (1, .int a1), (2, .int a2), (3, .int a3)] := hl
  refine qr_nm (fun Q hQ => ?_)
  refine lv_aload_n hx hb dL_burst_0 rfl (lv_at hl 0 rfl) ?_
  refine lv_iload_n hx hb dL_burst_1 rfl (lv_at hl 1 rfl) ?_
  refine lv_iload_n hx hb dL_burst_2 rfl (lv_at hl 2 rfl) ?_
  refine lv_iload_n hx hb dL_burst_3 rfl (lv_at hl 3 rfl) ?_
  have hPc : va_P (dC, dI) vwCl Wc s.heap := qj_PR hP
  have hDc : va_D A Wc := qj_DR hD
  have hKc := hK.sub (tys' := [(cI, .int), (cZ, .boolean), (cG, .array .int)]) [0, 1, 2] rfl
  refine vx_callv (px := fun _ : Unit => True) (BX := fun E' _ _ => E' = "java/lang/IndexOutOfBoundsException") (AX := fun q => s.heap.size ≤ q) (vx_runV (As := [.int a1, .int a2, .int a3]) (rest := []) ⟨hx, hb, hml, hown, hts⟩ (hM s.heap.size) (cwV 3 hts gL_burst_X5_burst rfl rfl rfl (by decide +kernel) ⟨Nat.le_of_ble_eq_true rfl, Nat.le_of_ble_eq_true rfl⟩) ⟨fun a U g mk q => by obtain ⟨q0, q1, qP, qK, qN, qX⟩ := q; exact ⟨q0, q1, qP, va_K.moved (u := U) (U := U.calling g mk a) (Vm.Alike.refl U.vm) qK, qn_same (u := U) rfl qN, qx_blind qX⟩, va_recv (q0 := 0) (ci := 4) hKc hPc rfl hW0, fun U hU hW => ⟨rfl, by rw [hU], by rw [hU]; exact hPc, va_K.moved hW.alike hKc, qn_warm hW hN, qx_pre (A := fun q => s.heap.size ≤ q) (fun _ h => h) va_S.rf hW hU hX⟩⟩ rfl rfl hl.1 rfl (lv_room (Nat.le_of_ble_eq_true rfl)) dL_burst_4 ⟨Nat.le_of_ble_eq_true rfl, Nat.le_of_ble_eq_true rfl⟩) hS (fun q _ h => hA q h) hA (fun q _ h => hA q h) (fun E9 ce q9 u t H1 locs ht hvm hw hE hz1 hk1 hS hce hcv hcl => ?_) (fun u t H1 locs ht hvm hw hB hz1 hk1 hS => hw.elim)
  have hE : E9 = "java/lang/IndexOutOfBoundsException" := hE
  subst hE
  have hP := qj_kept hP (fun q hq => hk1 q hq (Nat.not_le.mpr hq))
  generalize H1 = H at hP hS hce ⊢
  refine vx_catch (own := RL) (name := "java/lang/IndexOutOfBoundsException") (E := "java/lang/IndexOutOfBoundsException") hown [⟨0, 7, 10, 25⟩] ⟨0, 7, 14, 19⟩ [⟨0, 7, 18, 13⟩] (by rw [hTab]; rfl) (fun z hz => by
      rcases List.mem_cons.mp hz with rfl | hz
      · exact Or.inr ⟨by decide, "java/lang/IllegalArgumentException", hts (.classLink RL 25 "java/lang/IllegalArgumentException") (by decide +kernel), hY.2.1⟩
      exact absurd hz List.not_mem_nil) (by decide) (by decide) (hts (.classLink RL 19 "java/lang/IndexOutOfBoundsException") (by decide +kernel)) (qx_use hX (by decide +kernel)) hce hcv hcl ?_
  refine W.eq (g2 := F0 m 14 ls [.ref q9]) rfl ?_
  refine lv_astore (lv' := [(4, .ref q9), (0, .ref x0), (1, .int a1), (2, .int a2), (3, .int a3)]) hx hb dL_burst_14 hl (by decide) rfl (fun ls hl => ?_)
  refine lv_iconst (v := nI 2) hx hb dL_burst_16 (by decide) ?_
  refine W.widen (k := 1) (n := 6) (by decide) (by decide) ?_
  subst hQ
  exact W.iret hx hb hr (fun t ht hW => ⟨⟨_, (), rfl, ⟨rfl, trivial⟩, by rw [ht]; exact hP, va_K.moved hW.alike hK, hD⟩, hS.F ht⟩) hS.2.2 dL_burst_17
set_option maxHeartbeats 4000000 in
set_option maxRecDepth 100000 in
theorem ql_burst3 (l : Launch) (dC : Nat → ClassId) (dI : Nat → Nat → Nat) (cI cZ cG cJ : ClassId) (Wc : va_W) (x0 u0 : Nat) (fx : List Value) (fJ : Nat → Int64) (a1 : Int32) (a2 : Int32) (a3 : Int32) (sz : Nat) (hW0 : Wc[0]? = some (x0, .inr (4, fx))) (hM : ∀ z : Nat, vx_Met l yX5_burst wsX5_burst ({ frames := 6, cells := 1, slots := 6, locals := 90 } : Room) (va_Pc [.ref x0, .int a1, .int a2, .int a3] (fun U => U.heap.size = z ∧ va_P (dC, dI) vwCl Wc U.heap ∧ va_K (dC, dI) vwCl [(cI, .int), (cZ, .boolean), (cG, .array .int)] U ∧ qn_N U ∧ qx_P U)) (va_Qv (fun (_ : Unit) => False) (fun _ _ => True) (fun q => z ≤ q)) (qx_X "java/lang/IllegalStateException" z) 1 6 (fun q => z ≤ q)) : Met l yL_burst wsL_burst ({ frames := 9, cells := 1, slots := 6, locals := 250 } : Room) (va_Pc [.ref x0, .int a1, .int a2, .int a3] (fun U => U.heap.size = sz ∧ va_P (dC, dI) vwCl ([(u0, .inl (cJ, 1, .inr (.inl fJ)))] ++ Wc) U.heap ∧ va_K (dC, dI) vwCl [(cI, .int), (cZ, .boolean), (cG, .array .int), (cJ, .long)] U ∧ va_D (fun _ => True) ([(u0, .inl (cJ, 1, .inr (.inl fJ)))] ++ Wc) ∧ qn_N U ∧ qx_P U ∧ qy_P U)) (va_Qi (fun (r : Int32) (_ : Unit) => r = nI 3 ∧ True) (fun _ t => va_P (dC, dI) vwCl ([(u0, .inl (cJ, 1, .inr (.inl fJ)))] ++ Wc) t.heap ∧ va_K (dC, dI) vwCl [(cI, .int), (cZ, .boolean), (cG, .array .int), (cJ, .long)] t ∧ va_D (va_A ([(u0, .inl (cJ, 1, .inr (.inl fJ)))] ++ Wc) sz) ([(u0, .inl (cJ, 1, .inr (.inl fJ)))] ++ Wc)) (va_A ([(u0, .inl (cJ, 1, .inr (.inl fJ)))] ++ Wc) sz)) 1 6 (va_A ([(u0, .inl (cJ, 1, .inr (.inl fJ)))] ++ Wc) sz) := by
  refine va_MetW (cc := cL_burst) (maxL := 5) (ret := (some .int)) (by decide) rfl ?_
  intro p e s m args below meth c s₁ B hml hv
  obtain ⟨rfl, hsz, hP, hK, hD0, hN, hX, hY⟩ := hv
  have hx := B.exec
  have hb := B.bytes
  have hr := B.returns
  have hts := atoms_spec (ws := wsL_burst) B.pre
  have hown : s.vm.findClass RL = some m.cls := findClass_of_methodNamed B.named
  have hlocks := B.notSynchronized
  have hTab : c.exceptionTable.toList = tableOf [(0, 7, 10, 25), (0, 7, 14, 19), (0, 7, 18, 13)] := vx_table (x := yL_burst) B (hts (.codeWith yL_burst cL_burst 5 (some .int) [(0, 7, 10, 25), (0, 7, 14, 19), (0, 7, 18, 13)]) (by decide +kernel))
  subst hsz
  have hD := hD0.self (sz := s.heap.size)
  generalize hAe : va_A ([(u0, .inl (cJ, 1, .inr (.inl fJ)))] ++ Wc) s.heap.size = A at hD ⊢
  have hA : ∀ q : Nat, s.heap.size ≤ q → A q := fun q h => by rw [← hAe]; exact Or.inr h
  have hS : va_S A s.heap s.heap [] := va_S.rf
  have hl := lv_entry ([.ref x0, .int a1, .int a2, .int a3]) (n := 5) (Nat.le_of_ble_eq_true rfl)
  rw [lg_entry_eq]
  generalize (lg_sl ([.ref x0, .int a1, .int a2, .int a3]) ++ List.replicate (5 - (lg_sl ([.ref x0, .int a1, .int a2, .int a3])).length) Slot.unset).toArray = ls at hl ⊢
  have hl : lv_has ls 5 [(0, .ref x0), (1, .int a1), (2, .int a2), (3, .int a3)] := hl
  refine qr_nm (fun Q hQ => ?_)
  refine lv_aload_n hx hb dL_burst_0 rfl (lv_at hl 0 rfl) ?_
  refine lv_iload_n hx hb dL_burst_1 rfl (lv_at hl 1 rfl) ?_
  refine lv_iload_n hx hb dL_burst_2 rfl (lv_at hl 2 rfl) ?_
  refine lv_iload_n hx hb dL_burst_3 rfl (lv_at hl 3 rfl) ?_
  have hPc : va_P (dC, dI) vwCl Wc s.heap := qj_PR hP
  have hDc : va_D A Wc := qj_DR hD
  have hKc := hK.sub (tys' := [(cI, .int), (cZ, .boolean), (cG, .array .int)]) [0, 1, 2] rfl
  refine vx_callv (px := fun _ : Unit => True) (BX := fun E' _ _ => E' = "java/lang/IllegalStateException") (AX := fun q => s.heap.size ≤ q) (vx_runV (As := [.int a1, .int a2, .int a3]) (rest := []) ⟨hx, hb, hml, hown, hts⟩ (hM s.heap.size) (cwV 3 hts gL_burst_X5_burst rfl rfl rfl (by decide +kernel) ⟨Nat.le_of_ble_eq_true rfl, Nat.le_of_ble_eq_true rfl⟩) ⟨fun a U g mk q => by obtain ⟨q0, q1, qP, qK, qN, qX⟩ := q; exact ⟨q0, q1, qP, va_K.moved (u := U) (U := U.calling g mk a) (Vm.Alike.refl U.vm) qK, qn_same (u := U) rfl qN, qx_blind qX⟩, va_recv (q0 := 0) (ci := 4) hKc hPc rfl hW0, fun U hU hW => ⟨rfl, by rw [hU], by rw [hU]; exact hPc, va_K.moved hW.alike hKc, qn_warm hW hN, qx_pre (A := fun q => s.heap.size ≤ q) (fun _ h => h) va_S.rf hW hU hX⟩⟩ rfl rfl hl.1 rfl (lv_room (Nat.le_of_ble_eq_true rfl)) dL_burst_4 ⟨Nat.le_of_ble_eq_true rfl, Nat.le_of_ble_eq_true rfl⟩) hS (fun q _ h => hA q h) hA (fun q _ h => hA q h) (fun E9 ce q9 u t H1 locs ht hvm hw hE hz1 hk1 hS hce hcv hcl => ?_) (fun u t H1 locs ht hvm hw hB hz1 hk1 hS => hw.elim)
  have hE : E9 = "java/lang/IllegalStateException" := hE
  subst hE
  have hP := qj_kept hP (fun q hq => hk1 q hq (Nat.not_le.mpr hq))
  generalize H1 = H at hP hS hce ⊢
  refine vx_catch (own := RL) (name := "java/lang/IllegalStateException") (E := "java/lang/IllegalStateException") hown [⟨0, 7, 10, 25⟩, ⟨0, 7, 14, 19⟩] ⟨0, 7, 18, 13⟩ [] (by rw [hTab]; rfl) (fun z hz => by
      rcases List.mem_cons.mp hz with rfl | hz
      · exact Or.inr ⟨by decide, "java/lang/IllegalArgumentException", hts (.classLink RL 25 "java/lang/IllegalArgumentException") (by decide +kernel), hY.2.2.2⟩
      rcases List.mem_cons.mp hz with rfl | hz
      · exact Or.inr ⟨by decide, "java/lang/IndexOutOfBoundsException", hts (.classLink RL 19 "java/lang/IndexOutOfBoundsException") (by decide +kernel), hY.2.2.1⟩
      exact absurd hz List.not_mem_nil) (by decide) (by decide) (hts (.classLink RL 13 "java/lang/IllegalStateException") (by decide +kernel)) (qx_use hX (by decide +kernel)) hce hcv hcl ?_
  refine W.eq (g2 := F0 m 18 ls [.ref q9]) rfl ?_
  refine lv_astore (lv' := [(4, .ref q9), (0, .ref x0), (1, .int a1), (2, .int a2), (3, .int a3)]) hx hb dL_burst_18 hl (by decide) rfl (fun ls hl => ?_)
  refine lv_iconst (v := nI 3) hx hb dL_burst_20 (by decide) ?_
  refine W.widen (k := 1) (n := 6) (by decide) (by decide) ?_
  subst hQ
  exact W.iret hx hb hr (fun t ht hW => ⟨⟨_, (), rfl, ⟨rfl, trivial⟩, by rw [ht]; exact hP, va_K.moved hW.alike hK, hD⟩, hS.F ht⟩) hS.2.2 dL_burst_21
set_option maxHeartbeats 4000000 in
set_option maxRecDepth 100000 in
theorem ql_read (l : Launch) (dC : Nat → ClassId) (dI : Nat → Nat → Nat) (cI cZ cG cJ : ClassId) (Wc : va_W) (x0 u0 : Nat) (fx : List Value) (fJ : Nat → Int64) (sz : Nat) (S : Type) (PW : Int32 → S → Prop) (NW : S → va_W) (rm : Room) (hr9 : rm.cells = 0 ∧ rm.slots = 0 ∧ rm.frames ≤ 8 ∧ rm.locals ≤ 200) (hW0 : Wc[0]? = some (x0, .inr (4, fx))) (hadr : ∀ u, (NW u).map (fun q => q.1) = Wc.map (fun q => q.1)) (hM : ∀ z : Nat, Met l yX5_read wsX5_read rm (va_Pc [.ref x0] (fun U => U.heap.size = z ∧ va_P (dC, dI) vwCl Wc U.heap ∧ va_K (dC, dI) vwCl [(cI, .int), (cZ, .boolean), (cG, .array .int)] U ∧ va_D (fun _ => True) Wc ∧ qn_N U)) (va_Qi PW (fun u t => va_P (dC, dI) vwCl (NW u) t.heap ∧ va_K (dC, dI) vwCl [(cI, .int), (cZ, .boolean), (cG, .array .int)] t ∧ va_D (va_A Wc z) (NW u)) (va_A Wc z)) 0 0 (va_A Wc z)) : Met l yL_read wsL_read ({ frames := 9, cells := 1, slots := 6, locals := 250 } : Room) (va_Pc [.ref x0, .ref u0] (fun U => U.heap.size = sz ∧ va_P (dC, dI) vwCl ([(u0, .inl (cJ, 1, .inr (.inl fJ)))] ++ Wc) U.heap ∧ va_K (dC, dI) vwCl [(cI, .int), (cZ, .boolean), (cG, .array .int), (cJ, .long)] U ∧ va_D (fun _ => True) ([(u0, .inl (cJ, 1, .inr (.inl fJ)))] ++ Wc) ∧ qn_N U ∧ qx_P U ∧ qy_P U)) (va_Qi (fun (r : Int32) (u : Int32 × S) => r = nI 0 ∧ PW u.1 u.2) (fun u t => va_P (dC, dI) vwCl ([(u0, .inl (cJ, 1, .inr (.inl (vp_updL fJ 0 u.1.toInt64))))] ++ NW u.2) t.heap ∧ va_K (dC, dI) vwCl [(cI, .int), (cZ, .boolean), (cG, .array .int), (cJ, .long)] t ∧ va_D (va_A ([(u0, .inl (cJ, 1, .inr (.inl fJ)))] ++ Wc) sz) ([(u0, .inl (cJ, 1, .inr (.inl (vp_updL fJ 0 u.1.toInt64))))] ++ NW u.2)) (va_A ([(u0, .inl (cJ, 1, .inr (.inl fJ)))] ++ Wc) sz)) 1 6 (va_A ([(u0, .inl (cJ, 1, .inr (.inl fJ)))] ++ Wc) sz) := by
  refine va_MetW (cc := cL_read) (maxL := 3) (ret := (some .int)) (by decide) rfl ?_
  intro p e s m args below meth c s₁ B hml hv
  obtain ⟨rfl, hsz, hP, hK, hD0, hN, hX, hY⟩ := hv
  have hx := B.exec
  have hb := B.bytes
  have hr := B.returns
  have hts := atoms_spec (ws := wsL_read) B.pre
  have hown : s.vm.findClass RL = some m.cls := findClass_of_methodNamed B.named
  have hlocks := B.notSynchronized
  subst hsz
  have hD := hD0.self (sz := s.heap.size)
  generalize hAe : va_A ([(u0, .inl (cJ, 1, .inr (.inl fJ)))] ++ Wc) s.heap.size = A at hD ⊢
  have hA : ∀ q : Nat, s.heap.size ≤ q → A q := fun q h => by rw [← hAe]; exact Or.inr h
  have hS : va_S A s.heap s.heap [] := va_S.rf
  have hl := lv_entry ([.ref x0, .ref u0]) (n := 3) (Nat.le_of_ble_eq_true rfl)
  rw [lg_entry_eq]
  generalize (lg_sl ([.ref x0, .ref u0]) ++ List.replicate (3 - (lg_sl ([.ref x0, .ref u0])).length) Slot.unset).toArray = ls at hl ⊢
  have hl : lv_has ls 3 [(0, .ref x0), (1, .ref u0)] := hl
  refine qr_nm (fun Q hQ => ?_)
  refine lv_aload_n hx hb dL_read_0 rfl (lv_at hl 1 rfl) ?_
  refine lv_iconst (v := nI 0) hx hb dL_read_1 (by decide) ?_
  refine lv_aload_n hx hb dL_read_2 rfl (lv_at hl 0 rfl) ?_
  have hPc : va_P (dC, dI) vwCl Wc s.heap := qj_PR hP
  have hDc : va_D A Wc := qj_DR hD
  have hKc := hK.sub (tys' := [(cI, .int), (cZ, .boolean), (cG, .array .int)]) [0, 1, 2] rfl
  have hFc := qj_free hDc hS hA
  refine va_calli (va_runV (As := []) (rest := [.int (nI 0), .ref u0]) ⟨hx, hb, hml, hown, hts⟩ (hM s.heap.size) (cwV 0 hts gL_read_X5_read rfl hr9.1 hr9.2.1 (by decide +kernel) ⟨Nat.le_trans (Nat.succ_le_succ hr9.2.2.1) (Nat.le_of_ble_eq_true rfl), Nat.le_trans (Nat.add_le_add_left hr9.2.2.2 _) (Nat.le_of_ble_eq_true rfl)⟩) ⟨fun a U g mk q => by obtain ⟨q0, q1, qP, qK, qD, qN⟩ := q; exact ⟨q0, q1, qP, va_K.moved (u := U) (U := U.calling g mk a) (Vm.Alike.refl U.vm) qK, qD, qn_same (u := U) rfl qN⟩, va_recv (q0 := 0) (ci := 4) hKc hPc rfl hW0, fun U hU hW => ⟨rfl, by rw [hU], by rw [hU]; exact hPc, va_K.moved hW.alike hKc, hDc.weaken (fun _ _ _ _ => trivial), qn_warm hW hN⟩⟩ rfl rfl hl.1 rfl (lv_room (Nat.le_of_ble_eq_true rfl)) dL_read_3 ⟨Nat.le_of_ble_eq_true rfl, Nat.le_of_ble_eq_true rfl⟩) hS (fun q _ h => hFc q h) hFc (fun rv u t H1 locs ht hvm hw hB hz1 hk1 hS => ?_)
  obtain ⟨hP1, hK1, hD1⟩ := hB
  rw [ht] at hP1
  obtain ⟨hP, hD⟩ := qj_apR hP hD (hadr u) hk1 hP1
  generalize H1 = H at hP hS ⊢
  refine lv_i2l (v := rv.toInt64) hx hb dL_read_6 rfl ?_
  refine va_last (x := rv.toInt64) hx hb hK hP hD hS 0 3 rfl rfl (vp_in_nI (by decide) (by decide)) dL_read_7 (fun H locs hP hD hS => ?_)
  have e0 : (nI 0).toNatClampNeg = 0 := nI_clamp (by decide)
  rw [e0] at hP hD
  have hP : va_P (dC, dI) vwCl ([(u0, .inl (cJ, 1, .inr (.inl (vp_updL fJ 0 rv.toInt64))))] ++ NW u) H := hP
  have hD : va_D A ([(u0, .inl (cJ, 1, .inr (.inl (vp_updL fJ 0 rv.toInt64))))] ++ NW u) := hD
  refine lv_goto (tgt := 14) hx hb dL_read_8 rfl ?_
  refine lv_iconst (v := nI 0) hx hb dL_read_14 (by decide) ?_
  refine W.widen (k := 1) (n := 6) (by decide) (by decide) ?_
  subst hQ
  exact W.iret hx hb hr (fun t ht hW => ⟨⟨_, (rv, u), rfl, ⟨rfl, hw⟩, by rw [ht]; exact hP, va_K.moved hW.alike hK, hD⟩, hS.F ht⟩) hS.2.2 dL_read_15
set_option maxHeartbeats 4000000 in
set_option maxRecDepth 100000 in
theorem ql_read1 (l : Launch) (dC : Nat → ClassId) (dI : Nat → Nat → Nat) (cI cZ cG cJ : ClassId) (Wc : va_W) (x0 u0 : Nat) (fx : List Value) (fJ : Nat → Int64) (sz : Nat) (hW0 : Wc[0]? = some (x0, .inr (4, fx))) (hM : ∀ z : Nat, vx_Met l yX5_read wsX5_read ({ frames := 6, cells := 1, slots := 6, locals := 90 } : Room) (va_Pc [.ref x0] (fun U => U.heap.size = z ∧ va_P (dC, dI) vwCl Wc U.heap ∧ va_K (dC, dI) vwCl [(cI, .int), (cZ, .boolean), (cG, .array .int)] U ∧ qn_N U ∧ qx_P U)) (va_Qi (fun (_ : Int32) (_ : Unit) => False) (fun _ _ => True) (fun q => z ≤ q)) (qx_X "java/util/NoSuchElementException" z) 1 6 (fun q => z ≤ q)) : Met l yL_read wsL_read ({ frames := 9, cells := 1, slots := 6, locals := 250 } : Room) (va_Pc [.ref x0, .ref u0] (fun U => U.heap.size = sz ∧ va_P (dC, dI) vwCl ([(u0, .inl (cJ, 1, .inr (.inl fJ)))] ++ Wc) U.heap ∧ va_K (dC, dI) vwCl [(cI, .int), (cZ, .boolean), (cG, .array .int), (cJ, .long)] U ∧ va_D (fun _ => True) ([(u0, .inl (cJ, 1, .inr (.inl fJ)))] ++ Wc) ∧ qn_N U ∧ qx_P U ∧ qy_P U)) (va_Qi (fun (r : Int32) (_ : Unit) => r = nI 1 ∧ True) (fun _ t => va_P (dC, dI) vwCl ([(u0, .inl (cJ, 1, .inr (.inl fJ)))] ++ Wc) t.heap ∧ va_K (dC, dI) vwCl [(cI, .int), (cZ, .boolean), (cG, .array .int), (cJ, .long)] t ∧ va_D (va_A ([(u0, .inl (cJ, 1, .inr (.inl fJ)))] ++ Wc) sz) ([(u0, .inl (cJ, 1, .inr (.inl fJ)))] ++ Wc)) (va_A ([(u0, .inl (cJ, 1, .inr (.inl fJ)))] ++ Wc) sz)) 1 6 (va_A ([(u0, .inl (cJ, 1, .inr (.inl fJ)))] ++ Wc) sz) := by
  refine va_MetW (cc := cL_read) (maxL := 3) (ret := (some .int)) (by decide) rfl ?_
  intro p e s m args below meth c s₁ B hml hv
  obtain ⟨rfl, hsz, hP, hK, hD0, hN, hX, hY⟩ := hv
  have hx := B.exec
  have hb := B.bytes
  have hr := B.returns
  have hts := atoms_spec (ws := wsL_read) B.pre
  have hown : s.vm.findClass RL = some m.cls := findClass_of_methodNamed B.named
  have hlocks := B.notSynchronized
  have hTab : c.exceptionTable.toList = tableOf [(0, 8, 11, 34)] := vx_table (x := yL_read) B (hts (.codeWith yL_read cL_read 3 (some .int) [(0, 8, 11, 34)]) (by decide +kernel))
  subst hsz
  have hD := hD0.self (sz := s.heap.size)
  generalize hAe : va_A ([(u0, .inl (cJ, 1, .inr (.inl fJ)))] ++ Wc) s.heap.size = A at hD ⊢
  have hA : ∀ q : Nat, s.heap.size ≤ q → A q := fun q h => by rw [← hAe]; exact Or.inr h
  have hS : va_S A s.heap s.heap [] := va_S.rf
  have hl := lv_entry ([.ref x0, .ref u0]) (n := 3) (Nat.le_of_ble_eq_true rfl)
  rw [lg_entry_eq]
  generalize (lg_sl ([.ref x0, .ref u0]) ++ List.replicate (3 - (lg_sl ([.ref x0, .ref u0])).length) Slot.unset).toArray = ls at hl ⊢
  have hl : lv_has ls 3 [(0, .ref x0), (1, .ref u0)] := hl
  refine qr_nm (fun Q hQ => ?_)
  refine lv_aload_n hx hb dL_read_0 rfl (lv_at hl 1 rfl) ?_
  refine lv_iconst (v := nI 0) hx hb dL_read_1 (by decide) ?_
  refine lv_aload_n hx hb dL_read_2 rfl (lv_at hl 0 rfl) ?_
  have hPc : va_P (dC, dI) vwCl Wc s.heap := qj_PR hP
  have hDc : va_D A Wc := qj_DR hD
  have hKc := hK.sub (tys' := [(cI, .int), (cZ, .boolean), (cG, .array .int)]) [0, 1, 2] rfl
  refine vx_calli (px := fun _ : Unit => True) (BX := fun E' _ _ => E' = "java/util/NoSuchElementException") (AX := fun q => s.heap.size ≤ q) (vx_runV (As := []) (rest := [.int (nI 0), .ref u0]) ⟨hx, hb, hml, hown, hts⟩ (hM s.heap.size) (cwV 0 hts gL_read_X5_read rfl rfl rfl (by decide +kernel) ⟨Nat.le_of_ble_eq_true rfl, Nat.le_of_ble_eq_true rfl⟩) ⟨fun a U g mk q => by obtain ⟨q0, q1, qP, qK, qN, qX⟩ := q; exact ⟨q0, q1, qP, va_K.moved (u := U) (U := U.calling g mk a) (Vm.Alike.refl U.vm) qK, qn_same (u := U) rfl qN, qx_blind qX⟩, va_recv (q0 := 0) (ci := 4) hKc hPc rfl hW0, fun U hU hW => ⟨rfl, by rw [hU], by rw [hU]; exact hPc, va_K.moved hW.alike hKc, qn_warm hW hN, qx_pre (A := fun q => s.heap.size ≤ q) (fun _ h => h) va_S.rf hW hU hX⟩⟩ rfl rfl hl.1 rfl (lv_room (Nat.le_of_ble_eq_true rfl)) dL_read_3 ⟨Nat.le_of_ble_eq_true rfl, Nat.le_of_ble_eq_true rfl⟩) hS (fun q _ h => hA q h) hA (fun q _ h => hA q h) (fun E9 ce q9 u t H1 locs ht hvm hw hE hz1 hk1 hS hce hcv hcl => ?_) (fun rv u t H1 locs ht hvm hw hB hz1 hk1 hS => hw.elim)
  have hE : E9 = "java/util/NoSuchElementException" := hE
  subst hE
  have hP := qj_kept hP (fun q hq => hk1 q hq (Nat.not_le.mpr hq))
  generalize H1 = H at hP hS hce ⊢
  refine vx_catch (own := RL) (name := "java/util/NoSuchElementException") (E := "java/util/NoSuchElementException") hown [] ⟨0, 8, 11, 34⟩ [] (by rw [hTab]; rfl) (fun z hz => absurd hz List.not_mem_nil) (by decide) (by decide) (hts (.classLink RL 34 "java/util/NoSuchElementException") (by decide +kernel)) (qx_use hX (by decide +kernel)) hce hcv hcl ?_
  refine W.eq (g2 := F0 m 11 ls [.ref q9]) rfl ?_
  refine lv_astore_n (lv' := [(2, .ref q9), (0, .ref x0), (1, .ref u0)]) hx hb dL_read_11 rfl hl (by decide) rfl (fun ls hl => ?_)
  refine lv_iconst (v := nI 1) hx hb dL_read_12 (by decide) ?_
  refine W.widen (k := 1) (n := 6) (by decide) (by decide) ?_
  subst hQ
  exact W.iret hx hb hr (fun t ht hW => ⟨⟨_, (), rfl, ⟨rfl, trivial⟩, by rw [ht]; exact hP, va_K.moved hW.alike hK, hD⟩, hS.F ht⟩) hS.2.2 dL_read_13
set_option maxHeartbeats 4000000 in
set_option maxRecDepth 100000 in
theorem ql_out (l : Launch) (dC : Nat → ClassId) (dI : Nat → Nat → Nat) (cI cZ cG cJ : ClassId) (Wc : va_W) (x0 u0 : Nat) (fx : List Value) (fJ : Nat → Int64) (a1 : Int32) (sz : Nat) (S : Type) (PW : Int32 → S → Prop) (NW : S → va_W) (rm : Room) (hr9 : rm.cells = 0 ∧ rm.slots = 0 ∧ rm.frames ≤ 8 ∧ rm.locals ≤ 200) (hW0 : Wc[0]? = some (x0, .inr (4, fx))) (hadr : ∀ u, (NW u).map (fun q => q.1) = Wc.map (fun q => q.1)) (hM : ∀ z : Nat, Met l yX5_out wsX5_out rm (va_Pc [.ref x0, .int a1] (fun U => U.heap.size = z ∧ va_P (dC, dI) vwCl Wc U.heap ∧ va_K (dC, dI) vwCl [(cI, .int), (cZ, .boolean), (cG, .array .int)] U ∧ va_D (fun _ => True) Wc ∧ qn_N U)) (va_Qi PW (fun u t => va_P (dC, dI) vwCl (NW u) t.heap ∧ va_K (dC, dI) vwCl [(cI, .int), (cZ, .boolean), (cG, .array .int)] t ∧ va_D (va_A Wc z) (NW u)) (va_A Wc z)) 0 0 (va_A Wc z)) : Met l yL_out wsL_out ({ frames := 9, cells := 1, slots := 6, locals := 250 } : Room) (va_Pc [.ref x0, .int a1, .ref u0] (fun U => U.heap.size = sz ∧ va_P (dC, dI) vwCl ([(u0, .inl (cJ, 1, .inr (.inl fJ)))] ++ Wc) U.heap ∧ va_K (dC, dI) vwCl [(cI, .int), (cZ, .boolean), (cG, .array .int), (cJ, .long)] U ∧ va_D (fun _ => True) ([(u0, .inl (cJ, 1, .inr (.inl fJ)))] ++ Wc) ∧ qn_N U ∧ qx_P U ∧ qy_P U)) (va_Qi (fun (r : Int32) (u : Int32 × S) => r = nI 0 ∧ PW u.1 u.2) (fun u t => va_P (dC, dI) vwCl ([(u0, .inl (cJ, 1, .inr (.inl (vp_updL fJ 0 u.1.toInt64))))] ++ NW u.2) t.heap ∧ va_K (dC, dI) vwCl [(cI, .int), (cZ, .boolean), (cG, .array .int), (cJ, .long)] t ∧ va_D (va_A ([(u0, .inl (cJ, 1, .inr (.inl fJ)))] ++ Wc) sz) ([(u0, .inl (cJ, 1, .inr (.inl (vp_updL fJ 0 u.1.toInt64))))] ++ NW u.2)) (va_A ([(u0, .inl (cJ, 1, .inr (.inl fJ)))] ++ Wc) sz)) 1 6 (va_A ([(u0, .inl (cJ, 1, .inr (.inl fJ)))] ++ Wc) sz) := by
  refine va_MetW (cc := cL_out) (maxL := 4) (ret := (some .int)) (by decide) rfl ?_
  intro p e s m args below meth c s₁ B hml hv
  obtain ⟨rfl, hsz, hP, hK, hD0, hN, hX, hY⟩ := hv
  have hx := B.exec
  have hb := B.bytes
  have hr := B.returns
  have hts := atoms_spec (ws := wsL_out) B.pre
  have hown : s.vm.findClass RL = some m.cls := findClass_of_methodNamed B.named
  have hlocks := B.notSynchronized
  subst hsz
  have hD := hD0.self (sz := s.heap.size)
  generalize hAe : va_A ([(u0, .inl (cJ, 1, .inr (.inl fJ)))] ++ Wc) s.heap.size = A at hD ⊢
  have hA : ∀ q : Nat, s.heap.size ≤ q → A q := fun q h => by rw [← hAe]; exact Or.inr h
  have hS : va_S A s.heap s.heap [] := va_S.rf
  have hl := lv_entry ([.ref x0, .int a1, .ref u0]) (n := 4) (Nat.le_of_ble_eq_true rfl)
  rw [lg_entry_eq]
  generalize (lg_sl ([.ref x0, .int a1, .ref u0]) ++ List.replicate (4 - (lg_sl ([.ref x0, .int a1, .ref u0])).length) Slot.unset).toArray = ls at hl ⊢
  have hl : lv_has ls 4 [(0, .ref x0), (1, .int a1), (2, .ref u0)] := hl
  refine qr_nm (fun Q hQ => ?_)
  refine lv_aload_n hx hb dL_out_0 rfl (lv_at hl 2 rfl) ?_
  refine lv_iconst (v := nI 0) hx hb dL_out_1 (by decide) ?_
  refine lv_aload_n hx hb dL_out_2 rfl (lv_at hl 0 rfl) ?_
  refine lv_iload_n hx hb dL_out_3 rfl (lv_at hl 1 rfl) ?_
  have hPc : va_P (dC, dI) vwCl Wc s.heap := qj_PR hP
  have hDc : va_D A Wc := qj_DR hD
  have hKc := hK.sub (tys' := [(cI, .int), (cZ, .boolean), (cG, .array .int)]) [0, 1, 2] rfl
  have hFc := qj_free hDc hS hA
  refine va_calli (va_runV (As := [.int a1]) (rest := [.int (nI 0), .ref u0]) ⟨hx, hb, hml, hown, hts⟩ (hM s.heap.size) (cwV 1 hts gL_out_X5_out rfl hr9.1 hr9.2.1 (by decide +kernel) ⟨Nat.le_trans (Nat.succ_le_succ hr9.2.2.1) (Nat.le_of_ble_eq_true rfl), Nat.le_trans (Nat.add_le_add_left hr9.2.2.2 _) (Nat.le_of_ble_eq_true rfl)⟩) ⟨fun a U g mk q => by obtain ⟨q0, q1, qP, qK, qD, qN⟩ := q; exact ⟨q0, q1, qP, va_K.moved (u := U) (U := U.calling g mk a) (Vm.Alike.refl U.vm) qK, qD, qn_same (u := U) rfl qN⟩, va_recv (q0 := 0) (ci := 4) hKc hPc rfl hW0, fun U hU hW => ⟨rfl, by rw [hU], by rw [hU]; exact hPc, va_K.moved hW.alike hKc, hDc.weaken (fun _ _ _ _ => trivial), qn_warm hW hN⟩⟩ rfl rfl hl.1 rfl (lv_room (Nat.le_of_ble_eq_true rfl)) dL_out_4 ⟨Nat.le_of_ble_eq_true rfl, Nat.le_of_ble_eq_true rfl⟩) hS (fun q _ h => hFc q h) hFc (fun rv u t H1 locs ht hvm hw hB hz1 hk1 hS => ?_)
  obtain ⟨hP1, hK1, hD1⟩ := hB
  rw [ht] at hP1
  obtain ⟨hP, hD⟩ := qj_apR hP hD (hadr u) hk1 hP1
  generalize H1 = H at hP hS ⊢
  refine lv_i2l (v := rv.toInt64) hx hb dL_out_7 rfl ?_
  refine va_last (x := rv.toInt64) hx hb hK hP hD hS 0 3 rfl rfl (vp_in_nI (by decide) (by decide)) dL_out_8 (fun H locs hP hD hS => ?_)
  have e0 : (nI 0).toNatClampNeg = 0 := nI_clamp (by decide)
  rw [e0] at hP hD
  have hP : va_P (dC, dI) vwCl ([(u0, .inl (cJ, 1, .inr (.inl (vp_updL fJ 0 rv.toInt64))))] ++ NW u) H := hP
  have hD : va_D A ([(u0, .inl (cJ, 1, .inr (.inl (vp_updL fJ 0 rv.toInt64))))] ++ NW u) := hD
  refine lv_goto (tgt := 15) hx hb dL_out_9 rfl ?_
  refine lv_iconst (v := nI 0) hx hb dL_out_15 (by decide) ?_
  refine W.widen (k := 1) (n := 6) (by decide) (by decide) ?_
  subst hQ
  exact W.iret hx hb hr (fun t ht hW => ⟨⟨_, (rv, u), rfl, ⟨rfl, hw⟩, by rw [ht]; exact hP, va_K.moved hW.alike hK, hD⟩, hS.F ht⟩) hS.2.2 dL_out_16
set_option maxHeartbeats 4000000 in
set_option maxRecDepth 100000 in
theorem ql_out1 (l : Launch) (dC : Nat → ClassId) (dI : Nat → Nat → Nat) (cI cZ cG cJ : ClassId) (Wc : va_W) (x0 u0 : Nat) (fx : List Value) (fJ : Nat → Int64) (a1 : Int32) (sz : Nat) (hW0 : Wc[0]? = some (x0, .inr (4, fx))) (hM : ∀ z : Nat, vx_Met l yX5_out wsX5_out ({ frames := 6, cells := 1, slots := 6, locals := 90 } : Room) (va_Pc [.ref x0, .int a1] (fun U => U.heap.size = z ∧ va_P (dC, dI) vwCl Wc U.heap ∧ va_K (dC, dI) vwCl [(cI, .int), (cZ, .boolean), (cG, .array .int)] U ∧ qn_N U ∧ qx_P U)) (va_Qi (fun (_ : Int32) (_ : Unit) => False) (fun _ _ => True) (fun q => z ≤ q)) (qx_X "java/lang/IndexOutOfBoundsException" z) 1 6 (fun q => z ≤ q)) : Met l yL_out wsL_out ({ frames := 9, cells := 1, slots := 6, locals := 250 } : Room) (va_Pc [.ref x0, .int a1, .ref u0] (fun U => U.heap.size = sz ∧ va_P (dC, dI) vwCl ([(u0, .inl (cJ, 1, .inr (.inl fJ)))] ++ Wc) U.heap ∧ va_K (dC, dI) vwCl [(cI, .int), (cZ, .boolean), (cG, .array .int), (cJ, .long)] U ∧ va_D (fun _ => True) ([(u0, .inl (cJ, 1, .inr (.inl fJ)))] ++ Wc) ∧ qn_N U ∧ qx_P U ∧ qy_P U)) (va_Qi (fun (r : Int32) (_ : Unit) => r = nI 1 ∧ True) (fun _ t => va_P (dC, dI) vwCl ([(u0, .inl (cJ, 1, .inr (.inl fJ)))] ++ Wc) t.heap ∧ va_K (dC, dI) vwCl [(cI, .int), (cZ, .boolean), (cG, .array .int), (cJ, .long)] t ∧ va_D (va_A ([(u0, .inl (cJ, 1, .inr (.inl fJ)))] ++ Wc) sz) ([(u0, .inl (cJ, 1, .inr (.inl fJ)))] ++ Wc)) (va_A ([(u0, .inl (cJ, 1, .inr (.inl fJ)))] ++ Wc) sz)) 1 6 (va_A ([(u0, .inl (cJ, 1, .inr (.inl fJ)))] ++ Wc) sz) := by
  refine va_MetW (cc := cL_out) (maxL := 4) (ret := (some .int)) (by decide) rfl ?_
  intro p e s m args below meth c s₁ B hml hv
  obtain ⟨rfl, hsz, hP, hK, hD0, hN, hX, hY⟩ := hv
  have hx := B.exec
  have hb := B.bytes
  have hr := B.returns
  have hts := atoms_spec (ws := wsL_out) B.pre
  have hown : s.vm.findClass RL = some m.cls := findClass_of_methodNamed B.named
  have hlocks := B.notSynchronized
  have hTab : c.exceptionTable.toList = tableOf [(0, 9, 12, 19)] := vx_table (x := yL_out) B (hts (.codeWith yL_out cL_out 4 (some .int) [(0, 9, 12, 19)]) (by decide +kernel))
  subst hsz
  have hD := hD0.self (sz := s.heap.size)
  generalize hAe : va_A ([(u0, .inl (cJ, 1, .inr (.inl fJ)))] ++ Wc) s.heap.size = A at hD ⊢
  have hA : ∀ q : Nat, s.heap.size ≤ q → A q := fun q h => by rw [← hAe]; exact Or.inr h
  have hS : va_S A s.heap s.heap [] := va_S.rf
  have hl := lv_entry ([.ref x0, .int a1, .ref u0]) (n := 4) (Nat.le_of_ble_eq_true rfl)
  rw [lg_entry_eq]
  generalize (lg_sl ([.ref x0, .int a1, .ref u0]) ++ List.replicate (4 - (lg_sl ([.ref x0, .int a1, .ref u0])).length) Slot.unset).toArray = ls at hl ⊢
  have hl : lv_has ls 4 [(0, .ref x0), (1, .int a1), (2, .ref u0)] := hl
  refine qr_nm (fun Q hQ => ?_)
  refine lv_aload_n hx hb dL_out_0 rfl (lv_at hl 2 rfl) ?_
  refine lv_iconst (v := nI 0) hx hb dL_out_1 (by decide) ?_
  refine lv_aload_n hx hb dL_out_2 rfl (lv_at hl 0 rfl) ?_
  refine lv_iload_n hx hb dL_out_3 rfl (lv_at hl 1 rfl) ?_
  have hPc : va_P (dC, dI) vwCl Wc s.heap := qj_PR hP
  have hDc : va_D A Wc := qj_DR hD
  have hKc := hK.sub (tys' := [(cI, .int), (cZ, .boolean), (cG, .array .int)]) [0, 1, 2] rfl
  refine vx_calli (px := fun _ : Unit => True) (BX := fun E' _ _ => E' = "java/lang/IndexOutOfBoundsException") (AX := fun q => s.heap.size ≤ q) (vx_runV (As := [.int a1]) (rest := [.int (nI 0), .ref u0]) ⟨hx, hb, hml, hown, hts⟩ (hM s.heap.size) (cwV 1 hts gL_out_X5_out rfl rfl rfl (by decide +kernel) ⟨Nat.le_of_ble_eq_true rfl, Nat.le_of_ble_eq_true rfl⟩) ⟨fun a U g mk q => by obtain ⟨q0, q1, qP, qK, qN, qX⟩ := q; exact ⟨q0, q1, qP, va_K.moved (u := U) (U := U.calling g mk a) (Vm.Alike.refl U.vm) qK, qn_same (u := U) rfl qN, qx_blind qX⟩, va_recv (q0 := 0) (ci := 4) hKc hPc rfl hW0, fun U hU hW => ⟨rfl, by rw [hU], by rw [hU]; exact hPc, va_K.moved hW.alike hKc, qn_warm hW hN, qx_pre (A := fun q => s.heap.size ≤ q) (fun _ h => h) va_S.rf hW hU hX⟩⟩ rfl rfl hl.1 rfl (lv_room (Nat.le_of_ble_eq_true rfl)) dL_out_4 ⟨Nat.le_of_ble_eq_true rfl, Nat.le_of_ble_eq_true rfl⟩) hS (fun q _ h => hA q h) hA (fun q _ h => hA q h) (fun E9 ce q9 u t H1 locs ht hvm hw hE hz1 hk1 hS hce hcv hcl => ?_) (fun rv u t H1 locs ht hvm hw hB hz1 hk1 hS => hw.elim)
  have hE : E9 = "java/lang/IndexOutOfBoundsException" := hE
  subst hE
  have hP := qj_kept hP (fun q hq => hk1 q hq (Nat.not_le.mpr hq))
  generalize H1 = H at hP hS hce ⊢
  refine vx_catch (own := RL) (name := "java/lang/IndexOutOfBoundsException") (E := "java/lang/IndexOutOfBoundsException") hown [] ⟨0, 9, 12, 19⟩ [] (by rw [hTab]; rfl) (fun z hz => absurd hz List.not_mem_nil) (by decide) (by decide) (hts (.classLink RL 19 "java/lang/IndexOutOfBoundsException") (by decide +kernel)) (qx_use hX (by decide +kernel)) hce hcv hcl ?_
  refine W.eq (g2 := F0 m 12 ls [.ref q9]) rfl ?_
  refine lv_astore_n (lv' := [(3, .ref q9), (0, .ref x0), (1, .int a1), (2, .ref u0)]) hx hb dL_out_12 rfl hl (by decide) rfl (fun ls hl => ?_)
  refine lv_iconst (v := nI 1) hx hb dL_out_13 (by decide) ?_
  refine W.widen (k := 1) (n := 6) (by decide) (by decide) ?_
  subst hQ
  exact W.iret hx hb hr (fun t ht hW => ⟨⟨_, (), rfl, ⟨rfl, trivial⟩, by rw [ht]; exact hP, va_K.moved hW.alike hK, hD⟩, hS.F ht⟩) hS.2.2 dL_out_14
set_option maxHeartbeats 4000000 in
set_option maxRecDepth 100000 in
theorem ql_flagged (l : Launch) (dC : Nat → ClassId) (dI : Nat → Nat → Nat) (cI cZ cG cJ : ClassId) (Wc : va_W) (x0 u0 : Nat) (fx : List Value) (fJ : Nat → Int64) (a1 : Int32) (sz : Nat) (bb : Bool) (rm : Room) (hr9 : rm.cells = 0 ∧ rm.slots = 0 ∧ rm.frames ≤ 8 ∧ rm.locals ≤ 200) (hW0 : Wc[0]? = some (x0, .inr (4, fx))) (hM : ∀ z : Nat, Met l yX5_flagged wsX5_flagged rm (va_Pc [.ref x0, .int a1] (fun U => U.heap.size = z ∧ va_P (dC, dI) vwCl Wc U.heap ∧ va_K (dC, dI) vwCl [(cI, .int), (cZ, .boolean), (cG, .array .int)] U ∧ va_D (fun _ => True) Wc ∧ qn_N U)) (va_Qi (fun (r : Int32) (_ : Unit) => r = zI bb) (fun _ t => va_P (dC, dI) vwCl Wc t.heap ∧ va_K (dC, dI) vwCl [(cI, .int), (cZ, .boolean), (cG, .array .int)] t ∧ va_D (va_A Wc z) Wc) (va_A Wc z)) 0 0 (va_A Wc z)) : Met l yL_flagged wsL_flagged ({ frames := 9, cells := 1, slots := 6, locals := 250 } : Room) (va_Pc [.ref x0, .int a1, .ref u0] (fun U => U.heap.size = sz ∧ va_P (dC, dI) vwCl ([(u0, .inl (cJ, 1, .inr (.inl fJ)))] ++ Wc) U.heap ∧ va_K (dC, dI) vwCl [(cI, .int), (cZ, .boolean), (cG, .array .int), (cJ, .long)] U ∧ va_D (fun _ => True) ([(u0, .inl (cJ, 1, .inr (.inl fJ)))] ++ Wc) ∧ qn_N U ∧ qx_P U ∧ qy_P U)) (va_Qi (fun (r : Int32) (_ : Unit) => r = nI 0 ∧ True) (fun _ t => va_P (dC, dI) vwCl ([(u0, .inl (cJ, 1, .inr (.inl (vp_updL fJ 0 (cond bb 1 0)))))] ++ Wc) t.heap ∧ va_K (dC, dI) vwCl [(cI, .int), (cZ, .boolean), (cG, .array .int), (cJ, .long)] t ∧ va_D (va_A ([(u0, .inl (cJ, 1, .inr (.inl fJ)))] ++ Wc) sz) ([(u0, .inl (cJ, 1, .inr (.inl (vp_updL fJ 0 (cond bb 1 0)))))] ++ Wc)) (va_A ([(u0, .inl (cJ, 1, .inr (.inl fJ)))] ++ Wc) sz)) 1 6 (va_A ([(u0, .inl (cJ, 1, .inr (.inl fJ)))] ++ Wc) sz) := by
  refine va_MetW (cc := cL_flagged) (maxL := 4) (ret := (some .int)) (by decide) rfl ?_
  intro p e s m args below meth c s₁ B hml hv
  obtain ⟨rfl, hsz, hP, hK, hD0, hN, hX, hY⟩ := hv
  have hx := B.exec
  have hb := B.bytes
  have hr := B.returns
  have hts := atoms_spec (ws := wsL_flagged) B.pre
  have hown : s.vm.findClass RL = some m.cls := findClass_of_methodNamed B.named
  have hlocks := B.notSynchronized
  subst hsz
  have hD := hD0.self (sz := s.heap.size)
  generalize hAe : va_A ([(u0, .inl (cJ, 1, .inr (.inl fJ)))] ++ Wc) s.heap.size = A at hD ⊢
  have hA : ∀ q : Nat, s.heap.size ≤ q → A q := fun q h => by rw [← hAe]; exact Or.inr h
  have hS : va_S A s.heap s.heap [] := va_S.rf
  have hl := lv_entry ([.ref x0, .int a1, .ref u0]) (n := 4) (Nat.le_of_ble_eq_true rfl)
  rw [lg_entry_eq]
  generalize (lg_sl ([.ref x0, .int a1, .ref u0]) ++ List.replicate (4 - (lg_sl ([.ref x0, .int a1, .ref u0])).length) Slot.unset).toArray = ls at hl ⊢
  have hl : lv_has ls 4 [(0, .ref x0), (1, .int a1), (2, .ref u0)] := hl
  refine qr_nm (fun Q hQ => ?_)
  refine lv_aload_n hx hb dL_flagged_0 rfl (lv_at hl 2 rfl) ?_
  refine lv_iconst (v := nI 0) hx hb dL_flagged_1 (by decide) ?_
  refine lv_aload_n hx hb dL_flagged_2 rfl (lv_at hl 0 rfl) ?_
  refine lv_iload_n hx hb dL_flagged_3 rfl (lv_at hl 1 rfl) ?_
  have hPc : va_P (dC, dI) vwCl Wc s.heap := qj_PR hP
  have hDc : va_D A Wc := qj_DR hD
  have hKc := hK.sub (tys' := [(cI, .int), (cZ, .boolean), (cG, .array .int)]) [0, 1, 2] rfl
  have hFc := qj_free hDc hS hA
  refine va_calli (va_runV (As := [.int a1]) (rest := [.int (nI 0), .ref u0]) ⟨hx, hb, hml, hown, hts⟩ (hM s.heap.size) (cwV 1 hts gL_flagged_X5_flagged rfl hr9.1 hr9.2.1 (by decide +kernel) ⟨Nat.le_trans (Nat.succ_le_succ hr9.2.2.1) (Nat.le_of_ble_eq_true rfl), Nat.le_trans (Nat.add_le_add_left hr9.2.2.2 _) (Nat.le_of_ble_eq_true rfl)⟩) ⟨fun a U g mk q => by obtain ⟨q0, q1, qP, qK, qD, qN⟩ := q; exact ⟨q0, q1, qP, va_K.moved (u := U) (U := U.calling g mk a) (Vm.Alike.refl U.vm) qK, qD, qn_same (u := U) rfl qN⟩, va_recv (q0 := 0) (ci := 4) hKc hPc rfl hW0, fun U hU hW => ⟨rfl, by rw [hU], by rw [hU]; exact hPc, va_K.moved hW.alike hKc, hDc.weaken (fun _ _ _ _ => trivial), qn_warm hW hN⟩⟩ rfl rfl hl.1 rfl (lv_room (Nat.le_of_ble_eq_true rfl)) dL_flagged_4 ⟨Nat.le_of_ble_eq_true rfl, Nat.le_of_ble_eq_true rfl⟩) hS (fun q _ h => hFc q h) hFc (fun rv u t H1 locs ht hvm hw hB hz1 hk1 hS => ?_)
  obtain ⟨hP1, hK1, hD1⟩ := hB
  rw [ht] at hP1
  obtain ⟨hP, hD⟩ := qj_apR hP hD rfl hk1 hP1
  generalize H1 = H at hP hS ⊢
  have hw : rv = zI bb := hw
  subst hw
  cases bb with
  | true =>
    refine qr_ifeqZ (tgt := 14) hx hb dL_flagged_7 rfl (fun h => Bool.noConfusion h) (fun _ => ?_)
    refine lv_lconst (v := 1) hx hb dL_flagged_10 rfl ?_
    refine lv_goto (tgt := 15) hx hb dL_flagged_11 rfl ?_
    refine va_last (x := (cond true 1 0)) hx hb hK hP hD hS 0 3 rfl rfl (vp_in_nI (by decide) (by decide)) dL_flagged_15 (fun H locs hP hD hS => ?_)
    have e0 : (nI 0).toNatClampNeg = 0 := nI_clamp (by decide)
    rw [e0] at hP hD
    have hP : va_P (dC, dI) vwCl ([(u0, .inl (cJ, 1, .inr (.inl (vp_updL fJ 0 (cond true 1 0)))))] ++ Wc) H := hP
    have hD : va_D A ([(u0, .inl (cJ, 1, .inr (.inl (vp_updL fJ 0 (cond true 1 0)))))] ++ Wc) := hD
    refine lv_goto (tgt := 22) hx hb dL_flagged_16 rfl ?_
    refine lv_iconst (v := nI 0) hx hb dL_flagged_22 (by decide) ?_
    refine W.widen (k := 1) (n := 6) (by decide) (by decide) ?_
    subst hQ
    exact W.iret hx hb hr (fun t ht hW => ⟨⟨_, (), rfl, ⟨rfl, trivial⟩, by rw [ht]; exact hP, va_K.moved hW.alike hK, hD⟩, hS.F ht⟩) hS.2.2 dL_flagged_23
  | false =>
    refine qr_ifeqZ (tgt := 14) hx hb dL_flagged_7 rfl (fun _ => ?_) (fun h => Bool.noConfusion h)
    refine lv_lconst (v := 0) hx hb dL_flagged_14 rfl ?_
    refine va_last (x := (cond false 1 0)) hx hb hK hP hD hS 0 3 rfl rfl (vp_in_nI (by decide) (by decide)) dL_flagged_15 (fun H locs hP hD hS => ?_)
    have e0 : (nI 0).toNatClampNeg = 0 := nI_clamp (by decide)
    rw [e0] at hP hD
    have hP : va_P (dC, dI) vwCl ([(u0, .inl (cJ, 1, .inr (.inl (vp_updL fJ 0 (cond false 1 0)))))] ++ Wc) H := hP
    have hD : va_D A ([(u0, .inl (cJ, 1, .inr (.inl (vp_updL fJ 0 (cond false 1 0)))))] ++ Wc) := hD
    refine lv_goto (tgt := 22) hx hb dL_flagged_16 rfl ?_
    refine lv_iconst (v := nI 0) hx hb dL_flagged_22 (by decide) ?_
    refine W.widen (k := 1) (n := 6) (by decide) (by decide) ?_
    subst hQ
    exact W.iret hx hb hr (fun t ht hW => ⟨⟨_, (), rfl, ⟨rfl, trivial⟩, by rw [ht]; exact hP, va_K.moved hW.alike hK, hD⟩, hS.F ht⟩) hS.2.2 dL_flagged_23
set_option maxHeartbeats 4000000 in
set_option maxRecDepth 100000 in
theorem ql_flagged1 (l : Launch) (dC : Nat → ClassId) (dI : Nat → Nat → Nat) (cI cZ cG cJ : ClassId) (Wc : va_W) (x0 u0 : Nat) (fx : List Value) (fJ : Nat → Int64) (a1 : Int32) (sz : Nat) (hW0 : Wc[0]? = some (x0, .inr (4, fx))) (hM : ∀ z : Nat, vx_Met l yX5_flagged wsX5_flagged ({ frames := 6, cells := 1, slots := 6, locals := 90 } : Room) (va_Pc [.ref x0, .int a1] (fun U => U.heap.size = z ∧ va_P (dC, dI) vwCl Wc U.heap ∧ va_K (dC, dI) vwCl [(cI, .int), (cZ, .boolean), (cG, .array .int)] U ∧ qn_N U ∧ qx_P U)) (va_Qi (fun (_ : Int32) (_ : Unit) => False) (fun _ _ => True) (fun q => z ≤ q)) (qx_X "java/lang/IndexOutOfBoundsException" z) 1 6 (fun q => z ≤ q)) : Met l yL_flagged wsL_flagged ({ frames := 9, cells := 1, slots := 6, locals := 250 } : Room) (va_Pc [.ref x0, .int a1, .ref u0] (fun U => U.heap.size = sz ∧ va_P (dC, dI) vwCl ([(u0, .inl (cJ, 1, .inr (.inl fJ)))] ++ Wc) U.heap ∧ va_K (dC, dI) vwCl [(cI, .int), (cZ, .boolean), (cG, .array .int), (cJ, .long)] U ∧ va_D (fun _ => True) ([(u0, .inl (cJ, 1, .inr (.inl fJ)))] ++ Wc) ∧ qn_N U ∧ qx_P U ∧ qy_P U)) (va_Qi (fun (r : Int32) (_ : Unit) => r = nI 1 ∧ True) (fun _ t => va_P (dC, dI) vwCl ([(u0, .inl (cJ, 1, .inr (.inl fJ)))] ++ Wc) t.heap ∧ va_K (dC, dI) vwCl [(cI, .int), (cZ, .boolean), (cG, .array .int), (cJ, .long)] t ∧ va_D (va_A ([(u0, .inl (cJ, 1, .inr (.inl fJ)))] ++ Wc) sz) ([(u0, .inl (cJ, 1, .inr (.inl fJ)))] ++ Wc)) (va_A ([(u0, .inl (cJ, 1, .inr (.inl fJ)))] ++ Wc) sz)) 1 6 (va_A ([(u0, .inl (cJ, 1, .inr (.inl fJ)))] ++ Wc) sz) := by
  refine va_MetW (cc := cL_flagged) (maxL := 4) (ret := (some .int)) (by decide) rfl ?_
  intro p e s m args below meth c s₁ B hml hv
  obtain ⟨rfl, hsz, hP, hK, hD0, hN, hX, hY⟩ := hv
  have hx := B.exec
  have hb := B.bytes
  have hr := B.returns
  have hts := atoms_spec (ws := wsL_flagged) B.pre
  have hown : s.vm.findClass RL = some m.cls := findClass_of_methodNamed B.named
  have hlocks := B.notSynchronized
  have hTab : c.exceptionTable.toList = tableOf [(0, 16, 19, 19)] := vx_table (x := yL_flagged) B (hts (.codeWith yL_flagged cL_flagged 4 (some .int) [(0, 16, 19, 19)]) (by decide +kernel))
  subst hsz
  have hD := hD0.self (sz := s.heap.size)
  generalize hAe : va_A ([(u0, .inl (cJ, 1, .inr (.inl fJ)))] ++ Wc) s.heap.size = A at hD ⊢
  have hA : ∀ q : Nat, s.heap.size ≤ q → A q := fun q h => by rw [← hAe]; exact Or.inr h
  have hS : va_S A s.heap s.heap [] := va_S.rf
  have hl := lv_entry ([.ref x0, .int a1, .ref u0]) (n := 4) (Nat.le_of_ble_eq_true rfl)
  rw [lg_entry_eq]
  generalize (lg_sl ([.ref x0, .int a1, .ref u0]) ++ List.replicate (4 - (lg_sl ([.ref x0, .int a1, .ref u0])).length) Slot.unset).toArray = ls at hl ⊢
  have hl : lv_has ls 4 [(0, .ref x0), (1, .int a1), (2, .ref u0)] := hl
  refine qr_nm (fun Q hQ => ?_)
  refine lv_aload_n hx hb dL_flagged_0 rfl (lv_at hl 2 rfl) ?_
  refine lv_iconst (v := nI 0) hx hb dL_flagged_1 (by decide) ?_
  refine lv_aload_n hx hb dL_flagged_2 rfl (lv_at hl 0 rfl) ?_
  refine lv_iload_n hx hb dL_flagged_3 rfl (lv_at hl 1 rfl) ?_
  have hPc : va_P (dC, dI) vwCl Wc s.heap := qj_PR hP
  have hDc : va_D A Wc := qj_DR hD
  have hKc := hK.sub (tys' := [(cI, .int), (cZ, .boolean), (cG, .array .int)]) [0, 1, 2] rfl
  refine vx_calli (px := fun _ : Unit => True) (BX := fun E' _ _ => E' = "java/lang/IndexOutOfBoundsException") (AX := fun q => s.heap.size ≤ q) (vx_runV (As := [.int a1]) (rest := [.int (nI 0), .ref u0]) ⟨hx, hb, hml, hown, hts⟩ (hM s.heap.size) (cwV 1 hts gL_flagged_X5_flagged rfl rfl rfl (by decide +kernel) ⟨Nat.le_of_ble_eq_true rfl, Nat.le_of_ble_eq_true rfl⟩) ⟨fun a U g mk q => by obtain ⟨q0, q1, qP, qK, qN, qX⟩ := q; exact ⟨q0, q1, qP, va_K.moved (u := U) (U := U.calling g mk a) (Vm.Alike.refl U.vm) qK, qn_same (u := U) rfl qN, qx_blind qX⟩, va_recv (q0 := 0) (ci := 4) hKc hPc rfl hW0, fun U hU hW => ⟨rfl, by rw [hU], by rw [hU]; exact hPc, va_K.moved hW.alike hKc, qn_warm hW hN, qx_pre (A := fun q => s.heap.size ≤ q) (fun _ h => h) va_S.rf hW hU hX⟩⟩ rfl rfl hl.1 rfl (lv_room (Nat.le_of_ble_eq_true rfl)) dL_flagged_4 ⟨Nat.le_of_ble_eq_true rfl, Nat.le_of_ble_eq_true rfl⟩) hS (fun q _ h => hA q h) hA (fun q _ h => hA q h) (fun E9 ce q9 u t H1 locs ht hvm hw hE hz1 hk1 hS hce hcv hcl => ?_) (fun rv u t H1 locs ht hvm hw hB hz1 hk1 hS => hw.elim)
  have hE : E9 = "java/lang/IndexOutOfBoundsException" := hE
  subst hE
  have hP := qj_kept hP (fun q hq => hk1 q hq (Nat.not_le.mpr hq))
  generalize H1 = H at hP hS hce ⊢
  refine vx_catch (own := RL) (name := "java/lang/IndexOutOfBoundsException") (E := "java/lang/IndexOutOfBoundsException") hown [] ⟨0, 16, 19, 19⟩ [] (by rw [hTab]; rfl) (fun z hz => absurd hz List.not_mem_nil) (by decide) (by decide) (hts (.classLink RL 19 "java/lang/IndexOutOfBoundsException") (by decide +kernel)) (qx_use hX (by decide +kernel)) hce hcv hcl ?_
  refine W.eq (g2 := F0 m 19 ls [.ref q9]) rfl ?_
  refine lv_astore_n (lv' := [(3, .ref q9), (0, .ref x0), (1, .int a1), (2, .ref u0)]) hx hb dL_flagged_19 rfl hl (by decide) rfl (fun ls hl => ?_)
  refine lv_iconst (v := nI 1) hx hb dL_flagged_20 (by decide) ?_
  refine W.widen (k := 1) (n := 6) (by decide) (by decide) ?_
  subst hQ
  exact W.iret hx hb hr (fun t ht hW => ⟨⟨_, (), rfl, ⟨rfl, trivial⟩, by rw [ht]; exact hP, va_K.moved hW.alike hK, hD⟩, hS.F ht⟩) hS.2.2 dL_flagged_21
set_option maxHeartbeats 4000000 in
set_option maxRecDepth 100000 in
theorem ql_figure (l : Launch) (dC : Nat → ClassId) (dI : Nat → Nat → Nat) (cI cZ cG cJ : ClassId) (Wc : va_W) (x0 u0 : Nat) (fx : List Value) (fJ : Nat → Int64) (a1 : Int32) (sz : Nat) (S : Type) (PW : Int32 → S → Prop) (NW : S → va_W) (rm : Room) (hr9 : rm.cells = 0 ∧ rm.slots = 0 ∧ rm.frames ≤ 8 ∧ rm.locals ≤ 200) (hW0 : Wc[0]? = some (x0, .inr (4, fx))) (hadr : ∀ u, (NW u).map (fun q => q.1) = Wc.map (fun q => q.1)) (hM : ∀ z : Nat, Met l yX5_figure wsX5_figure rm (va_Pc [.ref x0, .int a1] (fun U => U.heap.size = z ∧ va_P (dC, dI) vwCl Wc U.heap ∧ va_K (dC, dI) vwCl [(cI, .int), (cZ, .boolean), (cG, .array .int)] U ∧ va_D (fun _ => True) Wc ∧ qn_N U)) (va_Qi PW (fun u t => va_P (dC, dI) vwCl (NW u) t.heap ∧ va_K (dC, dI) vwCl [(cI, .int), (cZ, .boolean), (cG, .array .int)] t ∧ va_D (va_A Wc z) (NW u)) (va_A Wc z)) 0 0 (va_A Wc z)) : Met l yL_figure wsL_figure ({ frames := 9, cells := 1, slots := 6, locals := 250 } : Room) (va_Pc [.ref x0, .int a1, .ref u0] (fun U => U.heap.size = sz ∧ va_P (dC, dI) vwCl ([(u0, .inl (cJ, 1, .inr (.inl fJ)))] ++ Wc) U.heap ∧ va_K (dC, dI) vwCl [(cI, .int), (cZ, .boolean), (cG, .array .int), (cJ, .long)] U ∧ va_D (fun _ => True) ([(u0, .inl (cJ, 1, .inr (.inl fJ)))] ++ Wc) ∧ qn_N U ∧ qx_P U ∧ qy_P U)) (va_Qi (fun (r : Int32) (u : Int32 × S) => r = nI 0 ∧ PW u.1 u.2) (fun u t => va_P (dC, dI) vwCl ([(u0, .inl (cJ, 1, .inr (.inl (vp_updL fJ 0 u.1.toInt64))))] ++ NW u.2) t.heap ∧ va_K (dC, dI) vwCl [(cI, .int), (cZ, .boolean), (cG, .array .int), (cJ, .long)] t ∧ va_D (va_A ([(u0, .inl (cJ, 1, .inr (.inl fJ)))] ++ Wc) sz) ([(u0, .inl (cJ, 1, .inr (.inl (vp_updL fJ 0 u.1.toInt64))))] ++ NW u.2)) (va_A ([(u0, .inl (cJ, 1, .inr (.inl fJ)))] ++ Wc) sz)) 1 6 (va_A ([(u0, .inl (cJ, 1, .inr (.inl fJ)))] ++ Wc) sz) := by
  refine va_MetW (cc := cL_figure) (maxL := 4) (ret := (some .int)) (by decide) rfl ?_
  intro p e s m args below meth c s₁ B hml hv
  obtain ⟨rfl, hsz, hP, hK, hD0, hN, hX, hY⟩ := hv
  have hx := B.exec
  have hb := B.bytes
  have hr := B.returns
  have hts := atoms_spec (ws := wsL_figure) B.pre
  have hown : s.vm.findClass RL = some m.cls := findClass_of_methodNamed B.named
  have hlocks := B.notSynchronized
  subst hsz
  have hD := hD0.self (sz := s.heap.size)
  generalize hAe : va_A ([(u0, .inl (cJ, 1, .inr (.inl fJ)))] ++ Wc) s.heap.size = A at hD ⊢
  have hA : ∀ q : Nat, s.heap.size ≤ q → A q := fun q h => by rw [← hAe]; exact Or.inr h
  have hS : va_S A s.heap s.heap [] := va_S.rf
  have hl := lv_entry ([.ref x0, .int a1, .ref u0]) (n := 4) (Nat.le_of_ble_eq_true rfl)
  rw [lg_entry_eq]
  generalize (lg_sl ([.ref x0, .int a1, .ref u0]) ++ List.replicate (4 - (lg_sl ([.ref x0, .int a1, .ref u0])).length) Slot.unset).toArray = ls at hl ⊢
  have hl : lv_has ls 4 [(0, .ref x0), (1, .int a1), (2, .ref u0)] := hl
  refine qr_nm (fun Q hQ => ?_)
  refine lv_aload_n hx hb dL_figure_0 rfl (lv_at hl 2 rfl) ?_
  refine lv_iconst (v := nI 0) hx hb dL_figure_1 (by decide) ?_
  refine lv_aload_n hx hb dL_figure_2 rfl (lv_at hl 0 rfl) ?_
  refine lv_iload_n hx hb dL_figure_3 rfl (lv_at hl 1 rfl) ?_
  have hPc : va_P (dC, dI) vwCl Wc s.heap := qj_PR hP
  have hDc : va_D A Wc := qj_DR hD
  have hKc := hK.sub (tys' := [(cI, .int), (cZ, .boolean), (cG, .array .int)]) [0, 1, 2] rfl
  have hFc := qj_free hDc hS hA
  refine va_calli (va_runV (As := [.int a1]) (rest := [.int (nI 0), .ref u0]) ⟨hx, hb, hml, hown, hts⟩ (hM s.heap.size) (cwV 1 hts gL_figure_X5_figure rfl hr9.1 hr9.2.1 (by decide +kernel) ⟨Nat.le_trans (Nat.succ_le_succ hr9.2.2.1) (Nat.le_of_ble_eq_true rfl), Nat.le_trans (Nat.add_le_add_left hr9.2.2.2 _) (Nat.le_of_ble_eq_true rfl)⟩) ⟨fun a U g mk q => by obtain ⟨q0, q1, qP, qK, qD, qN⟩ := q; exact ⟨q0, q1, qP, va_K.moved (u := U) (U := U.calling g mk a) (Vm.Alike.refl U.vm) qK, qD, qn_same (u := U) rfl qN⟩, va_recv (q0 := 0) (ci := 4) hKc hPc rfl hW0, fun U hU hW => ⟨rfl, by rw [hU], by rw [hU]; exact hPc, va_K.moved hW.alike hKc, hDc.weaken (fun _ _ _ _ => trivial), qn_warm hW hN⟩⟩ rfl rfl hl.1 rfl (lv_room (Nat.le_of_ble_eq_true rfl)) dL_figure_4 ⟨Nat.le_of_ble_eq_true rfl, Nat.le_of_ble_eq_true rfl⟩) hS (fun q _ h => hFc q h) hFc (fun rv u t H1 locs ht hvm hw hB hz1 hk1 hS => ?_)
  obtain ⟨hP1, hK1, hD1⟩ := hB
  rw [ht] at hP1
  obtain ⟨hP, hD⟩ := qj_apR hP hD (hadr u) hk1 hP1
  generalize H1 = H at hP hS ⊢
  refine lv_i2l (v := rv.toInt64) hx hb dL_figure_7 rfl ?_
  refine va_last (x := rv.toInt64) hx hb hK hP hD hS 0 3 rfl rfl (vp_in_nI (by decide) (by decide)) dL_figure_8 (fun H locs hP hD hS => ?_)
  have e0 : (nI 0).toNatClampNeg = 0 := nI_clamp (by decide)
  rw [e0] at hP hD
  have hP : va_P (dC, dI) vwCl ([(u0, .inl (cJ, 1, .inr (.inl (vp_updL fJ 0 rv.toInt64))))] ++ NW u) H := hP
  have hD : va_D A ([(u0, .inl (cJ, 1, .inr (.inl (vp_updL fJ 0 rv.toInt64))))] ++ NW u) := hD
  refine lv_goto (tgt := 15) hx hb dL_figure_9 rfl ?_
  refine lv_iconst (v := nI 0) hx hb dL_figure_15 (by decide) ?_
  refine W.widen (k := 1) (n := 6) (by decide) (by decide) ?_
  subst hQ
  exact W.iret hx hb hr (fun t ht hW => ⟨⟨_, (rv, u), rfl, ⟨rfl, hw⟩, by rw [ht]; exact hP, va_K.moved hW.alike hK, hD⟩, hS.F ht⟩) hS.2.2 dL_figure_16
set_option maxHeartbeats 4000000 in
set_option maxRecDepth 100000 in
theorem ql_figure1 (l : Launch) (dC : Nat → ClassId) (dI : Nat → Nat → Nat) (cI cZ cG cJ : ClassId) (Wc : va_W) (x0 u0 : Nat) (fx : List Value) (fJ : Nat → Int64) (a1 : Int32) (sz : Nat) (hW0 : Wc[0]? = some (x0, .inr (4, fx))) (hM : ∀ z : Nat, vx_Met l yX5_figure wsX5_figure ({ frames := 6, cells := 1, slots := 6, locals := 90 } : Room) (va_Pc [.ref x0, .int a1] (fun U => U.heap.size = z ∧ va_P (dC, dI) vwCl Wc U.heap ∧ va_K (dC, dI) vwCl [(cI, .int), (cZ, .boolean), (cG, .array .int)] U ∧ qn_N U ∧ qx_P U)) (va_Qi (fun (_ : Int32) (_ : Unit) => False) (fun _ _ => True) (fun q => z ≤ q)) (qx_X "java/lang/IllegalArgumentException" z) 1 6 (fun q => z ≤ q)) : Met l yL_figure wsL_figure ({ frames := 9, cells := 1, slots := 6, locals := 250 } : Room) (va_Pc [.ref x0, .int a1, .ref u0] (fun U => U.heap.size = sz ∧ va_P (dC, dI) vwCl ([(u0, .inl (cJ, 1, .inr (.inl fJ)))] ++ Wc) U.heap ∧ va_K (dC, dI) vwCl [(cI, .int), (cZ, .boolean), (cG, .array .int), (cJ, .long)] U ∧ va_D (fun _ => True) ([(u0, .inl (cJ, 1, .inr (.inl fJ)))] ++ Wc) ∧ qn_N U ∧ qx_P U ∧ qy_P U)) (va_Qi (fun (r : Int32) (_ : Unit) => r = nI 1 ∧ True) (fun _ t => va_P (dC, dI) vwCl ([(u0, .inl (cJ, 1, .inr (.inl fJ)))] ++ Wc) t.heap ∧ va_K (dC, dI) vwCl [(cI, .int), (cZ, .boolean), (cG, .array .int), (cJ, .long)] t ∧ va_D (va_A ([(u0, .inl (cJ, 1, .inr (.inl fJ)))] ++ Wc) sz) ([(u0, .inl (cJ, 1, .inr (.inl fJ)))] ++ Wc)) (va_A ([(u0, .inl (cJ, 1, .inr (.inl fJ)))] ++ Wc) sz)) 1 6 (va_A ([(u0, .inl (cJ, 1, .inr (.inl fJ)))] ++ Wc) sz) := by
  refine va_MetW (cc := cL_figure) (maxL := 4) (ret := (some .int)) (by decide) rfl ?_
  intro p e s m args below meth c s₁ B hml hv
  obtain ⟨rfl, hsz, hP, hK, hD0, hN, hX, hY⟩ := hv
  have hx := B.exec
  have hb := B.bytes
  have hr := B.returns
  have hts := atoms_spec (ws := wsL_figure) B.pre
  have hown : s.vm.findClass RL = some m.cls := findClass_of_methodNamed B.named
  have hlocks := B.notSynchronized
  have hTab : c.exceptionTable.toList = tableOf [(0, 9, 12, 25)] := vx_table (x := yL_figure) B (hts (.codeWith yL_figure cL_figure 4 (some .int) [(0, 9, 12, 25)]) (by decide +kernel))
  subst hsz
  have hD := hD0.self (sz := s.heap.size)
  generalize hAe : va_A ([(u0, .inl (cJ, 1, .inr (.inl fJ)))] ++ Wc) s.heap.size = A at hD ⊢
  have hA : ∀ q : Nat, s.heap.size ≤ q → A q := fun q h => by rw [← hAe]; exact Or.inr h
  have hS : va_S A s.heap s.heap [] := va_S.rf
  have hl := lv_entry ([.ref x0, .int a1, .ref u0]) (n := 4) (Nat.le_of_ble_eq_true rfl)
  rw [lg_entry_eq]
  generalize (lg_sl ([.ref x0, .int a1, .ref u0]) ++ List.replicate (4 - (lg_sl ([.ref x0, .int a1, .ref u0])).length) Slot.unset).toArray = ls at hl ⊢
  have hl : lv_has ls 4 [(0, .ref x0), (1, .int a1), (2, .ref u0)] := hl
  refine qr_nm (fun Q hQ => ?_)
  refine lv_aload_n hx hb dL_figure_0 rfl (lv_at hl 2 rfl) ?_
  refine lv_iconst (v := nI 0) hx hb dL_figure_1 (by decide) ?_
  refine lv_aload_n hx hb dL_figure_2 rfl (lv_at hl 0 rfl) ?_
  refine lv_iload_n hx hb dL_figure_3 rfl (lv_at hl 1 rfl) ?_
  have hPc : va_P (dC, dI) vwCl Wc s.heap := qj_PR hP
  have hDc : va_D A Wc := qj_DR hD
  have hKc := hK.sub (tys' := [(cI, .int), (cZ, .boolean), (cG, .array .int)]) [0, 1, 2] rfl
  refine vx_calli (px := fun _ : Unit => True) (BX := fun E' _ _ => E' = "java/lang/IllegalArgumentException") (AX := fun q => s.heap.size ≤ q) (vx_runV (As := [.int a1]) (rest := [.int (nI 0), .ref u0]) ⟨hx, hb, hml, hown, hts⟩ (hM s.heap.size) (cwV 1 hts gL_figure_X5_figure rfl rfl rfl (by decide +kernel) ⟨Nat.le_of_ble_eq_true rfl, Nat.le_of_ble_eq_true rfl⟩) ⟨fun a U g mk q => by obtain ⟨q0, q1, qP, qK, qN, qX⟩ := q; exact ⟨q0, q1, qP, va_K.moved (u := U) (U := U.calling g mk a) (Vm.Alike.refl U.vm) qK, qn_same (u := U) rfl qN, qx_blind qX⟩, va_recv (q0 := 0) (ci := 4) hKc hPc rfl hW0, fun U hU hW => ⟨rfl, by rw [hU], by rw [hU]; exact hPc, va_K.moved hW.alike hKc, qn_warm hW hN, qx_pre (A := fun q => s.heap.size ≤ q) (fun _ h => h) va_S.rf hW hU hX⟩⟩ rfl rfl hl.1 rfl (lv_room (Nat.le_of_ble_eq_true rfl)) dL_figure_4 ⟨Nat.le_of_ble_eq_true rfl, Nat.le_of_ble_eq_true rfl⟩) hS (fun q _ h => hA q h) hA (fun q _ h => hA q h) (fun E9 ce q9 u t H1 locs ht hvm hw hE hz1 hk1 hS hce hcv hcl => ?_) (fun rv u t H1 locs ht hvm hw hB hz1 hk1 hS => hw.elim)
  have hE : E9 = "java/lang/IllegalArgumentException" := hE
  subst hE
  have hP := qj_kept hP (fun q hq => hk1 q hq (Nat.not_le.mpr hq))
  generalize H1 = H at hP hS hce ⊢
  refine vx_catch (own := RL) (name := "java/lang/IllegalArgumentException") (E := "java/lang/IllegalArgumentException") hown [] ⟨0, 9, 12, 25⟩ [] (by rw [hTab]; rfl) (fun z hz => absurd hz List.not_mem_nil) (by decide) (by decide) (hts (.classLink RL 25 "java/lang/IllegalArgumentException") (by decide +kernel)) (qx_use hX (by decide +kernel)) hce hcv hcl ?_
  refine W.eq (g2 := F0 m 12 ls [.ref q9]) rfl ?_
  refine lv_astore_n (lv' := [(3, .ref q9), (0, .ref x0), (1, .int a1), (2, .ref u0)]) hx hb dL_figure_12 rfl hl (by decide) rfl (fun ls hl => ?_)
  refine lv_iconst (v := nI 1) hx hb dL_figure_13 (by decide) ?_
  refine W.widen (k := 1) (n := 6) (by decide) (by decide) ?_
  subst hQ
  exact W.iret hx hb hr (fun t ht hW => ⟨⟨_, (), rfl, ⟨rfl, trivial⟩, by rw [ht]; exact hP, va_K.moved hW.alike hK, hD⟩, hS.F ht⟩) hS.2.2 dL_figure_14
set_option maxHeartbeats 4000000 in
set_option maxRecDepth 100000 in
theorem ql_check (l : Launch) (dC : Nat → ClassId) (dI : Nat → Nat → Nat) (cI cZ cG cJ : ClassId) (Wc : va_W) (x0 u0 : Nat) (fx : List Value) (fJ : Nat → Int64) (v : Int64) (a1 : Int32) (sz : Nat) (S : Type) (PW : Int32 → S → Prop) (NW : S → va_W) (rm : Room) (hr9 : rm.cells = 0 ∧ rm.slots = 0 ∧ rm.frames ≤ 8 ∧ rm.locals ≤ 200) (hW0 : Wc[0]? = some (x0, .inr (4, fx))) (hadr : ∀ u, (NW u).map (fun q => q.1) = Wc.map (fun q => q.1)) (hM : ∀ z : Nat, Met l yX5_check wsX5_check rm (va_Pc [.ref x0, .long v, .int a1] (fun U => U.heap.size = z ∧ va_P (dC, dI) vwCl Wc U.heap ∧ va_K (dC, dI) vwCl [(cI, .int), (cZ, .boolean), (cG, .array .int)] U ∧ va_D (fun _ => True) Wc ∧ qn_N U)) (va_Qi PW (fun u t => va_P (dC, dI) vwCl (NW u) t.heap ∧ va_K (dC, dI) vwCl [(cI, .int), (cZ, .boolean), (cG, .array .int)] t ∧ va_D (va_A Wc z) (NW u)) (va_A Wc z)) 0 0 (va_A Wc z)) : Met l yL_check wsL_check ({ frames := 9, cells := 1, slots := 6, locals := 250 } : Room) (va_Pc [.ref x0, .long v, .int a1, .ref u0] (fun U => U.heap.size = sz ∧ va_P (dC, dI) vwCl ([(u0, .inl (cJ, 1, .inr (.inl fJ)))] ++ Wc) U.heap ∧ va_K (dC, dI) vwCl [(cI, .int), (cZ, .boolean), (cG, .array .int), (cJ, .long)] U ∧ va_D (fun _ => True) ([(u0, .inl (cJ, 1, .inr (.inl fJ)))] ++ Wc) ∧ qn_N U ∧ qx_P U ∧ qy_P U)) (va_Qi (fun (r : Int32) (u : Int32 × S) => r = nI 0 ∧ PW u.1 u.2) (fun u t => va_P (dC, dI) vwCl ([(u0, .inl (cJ, 1, .inr (.inl (vp_updL fJ 0 u.1.toInt64))))] ++ NW u.2) t.heap ∧ va_K (dC, dI) vwCl [(cI, .int), (cZ, .boolean), (cG, .array .int), (cJ, .long)] t ∧ va_D (va_A ([(u0, .inl (cJ, 1, .inr (.inl fJ)))] ++ Wc) sz) ([(u0, .inl (cJ, 1, .inr (.inl (vp_updL fJ 0 u.1.toInt64))))] ++ NW u.2)) (va_A ([(u0, .inl (cJ, 1, .inr (.inl fJ)))] ++ Wc) sz)) 1 6 (va_A ([(u0, .inl (cJ, 1, .inr (.inl fJ)))] ++ Wc) sz) := by
  refine va_MetW (cc := cL_check) (maxL := 6) (ret := (some .int)) (by decide) rfl ?_
  intro p e s m args below meth c s₁ B hml hv
  obtain ⟨rfl, hsz, hP, hK, hD0, hN, hX, hY⟩ := hv
  have hx := B.exec
  have hb := B.bytes
  have hr := B.returns
  have hts := atoms_spec (ws := wsL_check) B.pre
  have hown : s.vm.findClass RL = some m.cls := findClass_of_methodNamed B.named
  have hlocks := B.notSynchronized
  subst hsz
  have hD := hD0.self (sz := s.heap.size)
  generalize hAe : va_A ([(u0, .inl (cJ, 1, .inr (.inl fJ)))] ++ Wc) s.heap.size = A at hD ⊢
  have hA : ∀ q : Nat, s.heap.size ≤ q → A q := fun q h => by rw [← hAe]; exact Or.inr h
  have hS : va_S A s.heap s.heap [] := va_S.rf
  have hl := lv_entry ([.ref x0, .long v, .int a1, .ref u0]) (n := 6) (Nat.le_of_ble_eq_true rfl)
  rw [lg_entry_eq]
  generalize (lg_sl ([.ref x0, .long v, .int a1, .ref u0]) ++ List.replicate (6 - (lg_sl ([.ref x0, .long v, .int a1, .ref u0])).length) Slot.unset).toArray = ls at hl ⊢
  have hl : lv_has ls 6 [(0, .ref x0), (1, .long v), (3, .int a1), (4, .ref u0)] := hl
  refine qr_nm (fun Q hQ => ?_)
  refine lv_aload hx hb dL_check_0 (lv_at hl 3 rfl) ?_
  refine lv_iconst (v := nI 0) hx hb dL_check_2 (by decide) ?_
  refine lv_aload_n hx hb dL_check_3 rfl (lv_at hl 0 rfl) ?_
  refine lv_lload_n hx hb dL_check_4 rfl (lv_at hl 1 rfl) ?_
  refine lv_iload_n hx hb dL_check_5 rfl (lv_at hl 2 rfl) ?_
  have hPc : va_P (dC, dI) vwCl Wc s.heap := qj_PR hP
  have hDc : va_D A Wc := qj_DR hD
  have hKc := hK.sub (tys' := [(cI, .int), (cZ, .boolean), (cG, .array .int)]) [0, 1, 2] rfl
  have hFc := qj_free hDc hS hA
  refine va_calli (va_runV (As := [.long v, .int a1]) (rest := [.int (nI 0), .ref u0]) ⟨hx, hb, hml, hown, hts⟩ (hM s.heap.size) (cwV 2 hts gL_check_X5_check rfl hr9.1 hr9.2.1 (by decide +kernel) ⟨Nat.le_trans (Nat.succ_le_succ hr9.2.2.1) (Nat.le_of_ble_eq_true rfl), Nat.le_trans (Nat.add_le_add_left hr9.2.2.2 _) (Nat.le_of_ble_eq_true rfl)⟩) ⟨fun a U g mk q => by obtain ⟨q0, q1, qP, qK, qD, qN⟩ := q; exact ⟨q0, q1, qP, va_K.moved (u := U) (U := U.calling g mk a) (Vm.Alike.refl U.vm) qK, qD, qn_same (u := U) rfl qN⟩, va_recv (q0 := 0) (ci := 4) hKc hPc rfl hW0, fun U hU hW => ⟨rfl, by rw [hU], by rw [hU]; exact hPc, va_K.moved hW.alike hKc, hDc.weaken (fun _ _ _ _ => trivial), qn_warm hW hN⟩⟩ rfl rfl hl.1 rfl (lv_room (Nat.le_of_ble_eq_true rfl)) dL_check_6 ⟨Nat.le_of_ble_eq_true rfl, Nat.le_of_ble_eq_true rfl⟩) hS (fun q _ h => hFc q h) hFc (fun rv u t H1 locs ht hvm hw hB hz1 hk1 hS => ?_)
  obtain ⟨hP1, hK1, hD1⟩ := hB
  rw [ht] at hP1
  obtain ⟨hP, hD⟩ := qj_apR hP hD (hadr u) hk1 hP1
  generalize H1 = H at hP hS ⊢
  refine lv_i2l (v := rv.toInt64) hx hb dL_check_9 rfl ?_
  refine va_last (x := rv.toInt64) hx hb hK hP hD hS 0 3 rfl rfl (vp_in_nI (by decide) (by decide)) dL_check_10 (fun H locs hP hD hS => ?_)
  have e0 : (nI 0).toNatClampNeg = 0 := nI_clamp (by decide)
  rw [e0] at hP hD
  have hP : va_P (dC, dI) vwCl ([(u0, .inl (cJ, 1, .inr (.inl (vp_updL fJ 0 rv.toInt64))))] ++ NW u) H := hP
  have hD : va_D A ([(u0, .inl (cJ, 1, .inr (.inl (vp_updL fJ 0 rv.toInt64))))] ++ NW u) := hD
  refine lv_goto (tgt := 18) hx hb dL_check_11 rfl ?_
  refine lv_iconst (v := nI 0) hx hb dL_check_18 (by decide) ?_
  refine W.widen (k := 1) (n := 6) (by decide) (by decide) ?_
  subst hQ
  exact W.iret hx hb hr (fun t ht hW => ⟨⟨_, (rv, u), rfl, ⟨rfl, hw⟩, by rw [ht]; exact hP, va_K.moved hW.alike hK, hD⟩, hS.F ht⟩) hS.2.2 dL_check_19
set_option maxHeartbeats 4000000 in
set_option maxRecDepth 100000 in
theorem ql_check1 (l : Launch) (dC : Nat → ClassId) (dI : Nat → Nat → Nat) (cI cZ cG cJ : ClassId) (Wc : va_W) (x0 u0 : Nat) (fx : List Value) (fJ : Nat → Int64) (v : Int64) (a1 : Int32) (sz : Nat) (hW0 : Wc[0]? = some (x0, .inr (4, fx))) (hM : ∀ z : Nat, vx_Met l yX5_check wsX5_check ({ frames := 6, cells := 1, slots := 6, locals := 90 } : Room) (va_Pc [.ref x0, .long v, .int a1] (fun U => U.heap.size = z ∧ va_P (dC, dI) vwCl Wc U.heap ∧ va_K (dC, dI) vwCl [(cI, .int), (cZ, .boolean), (cG, .array .int)] U ∧ qn_N U ∧ qx_P U)) (va_Qi (fun (_ : Int32) (_ : Unit) => False) (fun _ _ => True) (fun q => z ≤ q)) (qx_X "java/lang/IllegalArgumentException" z) 1 6 (fun q => z ≤ q)) : Met l yL_check wsL_check ({ frames := 9, cells := 1, slots := 6, locals := 250 } : Room) (va_Pc [.ref x0, .long v, .int a1, .ref u0] (fun U => U.heap.size = sz ∧ va_P (dC, dI) vwCl ([(u0, .inl (cJ, 1, .inr (.inl fJ)))] ++ Wc) U.heap ∧ va_K (dC, dI) vwCl [(cI, .int), (cZ, .boolean), (cG, .array .int), (cJ, .long)] U ∧ va_D (fun _ => True) ([(u0, .inl (cJ, 1, .inr (.inl fJ)))] ++ Wc) ∧ qn_N U ∧ qx_P U ∧ qy_P U)) (va_Qi (fun (r : Int32) (_ : Unit) => r = nI 1 ∧ True) (fun _ t => va_P (dC, dI) vwCl ([(u0, .inl (cJ, 1, .inr (.inl fJ)))] ++ Wc) t.heap ∧ va_K (dC, dI) vwCl [(cI, .int), (cZ, .boolean), (cG, .array .int), (cJ, .long)] t ∧ va_D (va_A ([(u0, .inl (cJ, 1, .inr (.inl fJ)))] ++ Wc) sz) ([(u0, .inl (cJ, 1, .inr (.inl fJ)))] ++ Wc)) (va_A ([(u0, .inl (cJ, 1, .inr (.inl fJ)))] ++ Wc) sz)) 1 6 (va_A ([(u0, .inl (cJ, 1, .inr (.inl fJ)))] ++ Wc) sz) := by
  refine va_MetW (cc := cL_check) (maxL := 6) (ret := (some .int)) (by decide) rfl ?_
  intro p e s m args below meth c s₁ B hml hv
  obtain ⟨rfl, hsz, hP, hK, hD0, hN, hX, hY⟩ := hv
  have hx := B.exec
  have hb := B.bytes
  have hr := B.returns
  have hts := atoms_spec (ws := wsL_check) B.pre
  have hown : s.vm.findClass RL = some m.cls := findClass_of_methodNamed B.named
  have hlocks := B.notSynchronized
  have hTab : c.exceptionTable.toList = tableOf [(0, 11, 14, 25)] := vx_table (x := yL_check) B (hts (.codeWith yL_check cL_check 6 (some .int) [(0, 11, 14, 25)]) (by decide +kernel))
  subst hsz
  have hD := hD0.self (sz := s.heap.size)
  generalize hAe : va_A ([(u0, .inl (cJ, 1, .inr (.inl fJ)))] ++ Wc) s.heap.size = A at hD ⊢
  have hA : ∀ q : Nat, s.heap.size ≤ q → A q := fun q h => by rw [← hAe]; exact Or.inr h
  have hS : va_S A s.heap s.heap [] := va_S.rf
  have hl := lv_entry ([.ref x0, .long v, .int a1, .ref u0]) (n := 6) (Nat.le_of_ble_eq_true rfl)
  rw [lg_entry_eq]
  generalize (lg_sl ([.ref x0, .long v, .int a1, .ref u0]) ++ List.replicate (6 - (lg_sl ([.ref x0, .long v, .int a1, .ref u0])).length) Slot.unset).toArray = ls at hl ⊢
  have hl : lv_has ls 6 [(0, .ref x0), (1, .long v), (3, .int a1), (4, .ref u0)] := hl
  refine qr_nm (fun Q hQ => ?_)
  refine lv_aload hx hb dL_check_0 (lv_at hl 3 rfl) ?_
  refine lv_iconst (v := nI 0) hx hb dL_check_2 (by decide) ?_
  refine lv_aload_n hx hb dL_check_3 rfl (lv_at hl 0 rfl) ?_
  refine lv_lload_n hx hb dL_check_4 rfl (lv_at hl 1 rfl) ?_
  refine lv_iload_n hx hb dL_check_5 rfl (lv_at hl 2 rfl) ?_
  have hPc : va_P (dC, dI) vwCl Wc s.heap := qj_PR hP
  have hDc : va_D A Wc := qj_DR hD
  have hKc := hK.sub (tys' := [(cI, .int), (cZ, .boolean), (cG, .array .int)]) [0, 1, 2] rfl
  refine vx_calli (px := fun _ : Unit => True) (BX := fun E' _ _ => E' = "java/lang/IllegalArgumentException") (AX := fun q => s.heap.size ≤ q) (vx_runV (As := [.long v, .int a1]) (rest := [.int (nI 0), .ref u0]) ⟨hx, hb, hml, hown, hts⟩ (hM s.heap.size) (cwV 2 hts gL_check_X5_check rfl rfl rfl (by decide +kernel) ⟨Nat.le_of_ble_eq_true rfl, Nat.le_of_ble_eq_true rfl⟩) ⟨fun a U g mk q => by obtain ⟨q0, q1, qP, qK, qN, qX⟩ := q; exact ⟨q0, q1, qP, va_K.moved (u := U) (U := U.calling g mk a) (Vm.Alike.refl U.vm) qK, qn_same (u := U) rfl qN, qx_blind qX⟩, va_recv (q0 := 0) (ci := 4) hKc hPc rfl hW0, fun U hU hW => ⟨rfl, by rw [hU], by rw [hU]; exact hPc, va_K.moved hW.alike hKc, qn_warm hW hN, qx_pre (A := fun q => s.heap.size ≤ q) (fun _ h => h) va_S.rf hW hU hX⟩⟩ rfl rfl hl.1 rfl (lv_room (Nat.le_of_ble_eq_true rfl)) dL_check_6 ⟨Nat.le_of_ble_eq_true rfl, Nat.le_of_ble_eq_true rfl⟩) hS (fun q _ h => hA q h) hA (fun q _ h => hA q h) (fun E9 ce q9 u t H1 locs ht hvm hw hE hz1 hk1 hS hce hcv hcl => ?_) (fun rv u t H1 locs ht hvm hw hB hz1 hk1 hS => hw.elim)
  have hE : E9 = "java/lang/IllegalArgumentException" := hE
  subst hE
  have hP := qj_kept hP (fun q hq => hk1 q hq (Nat.not_le.mpr hq))
  generalize H1 = H at hP hS hce ⊢
  refine vx_catch (own := RL) (name := "java/lang/IllegalArgumentException") (E := "java/lang/IllegalArgumentException") hown [] ⟨0, 11, 14, 25⟩ [] (by rw [hTab]; rfl) (fun z hz => absurd hz List.not_mem_nil) (by decide) (by decide) (hts (.classLink RL 25 "java/lang/IllegalArgumentException") (by decide +kernel)) (qx_use hX (by decide +kernel)) hce hcv hcl ?_
  refine W.eq (g2 := F0 m 14 ls [.ref q9]) rfl ?_
  refine lv_astore (lv' := [(5, .ref q9), (0, .ref x0), (1, .long v), (3, .int a1), (4, .ref u0)]) hx hb dL_check_14 hl (by decide) rfl (fun ls hl => ?_)
  refine lv_iconst (v := nI 1) hx hb dL_check_16 (by decide) ?_
  refine W.widen (k := 1) (n := 6) (by decide) (by decide) ?_
  subst hQ
  exact W.iret hx hb hr (fun t ht hW => ⟨⟨_, (), rfl, ⟨rfl, trivial⟩, by rw [ht]; exact hP, va_K.moved hW.alike hK, hD⟩, hS.F ht⟩) hS.2.2 dL_check_17
set_option maxHeartbeats 4000000 in
set_option maxRecDepth 100000 in
theorem ql_product (l : Launch) (dC : Nat → ClassId) (dI : Nat → Nat → Nat) (cI cZ cG cJ : ClassId) (Wc : va_W) (x0 u0 : Nat) (fx : List Value) (fJ : Nat → Int64) (a1 : Int32) (a2 : Int32) (sz : Nat) (S : Type) (PW : Int32 → S → Prop) (NW : S → va_W) (rm : Room) (hr9 : rm.cells = 0 ∧ rm.slots = 0 ∧ rm.frames ≤ 8 ∧ rm.locals ≤ 200) (hW0 : Wc[0]? = some (x0, .inr (4, fx))) (hadr : ∀ u, (NW u).map (fun q => q.1) = Wc.map (fun q => q.1)) (hM : ∀ z : Nat, Met l yX5_product wsX5_product rm (va_Pc [.ref x0, .int a1, .int a2] (fun U => U.heap.size = z ∧ va_P (dC, dI) vwCl Wc U.heap ∧ va_K (dC, dI) vwCl [(cI, .int), (cZ, .boolean), (cG, .array .int)] U ∧ va_D (fun _ => True) Wc ∧ qn_N U)) (va_Qi PW (fun u t => va_P (dC, dI) vwCl (NW u) t.heap ∧ va_K (dC, dI) vwCl [(cI, .int), (cZ, .boolean), (cG, .array .int)] t ∧ va_D (va_A Wc z) (NW u)) (va_A Wc z)) 0 0 (va_A Wc z)) : Met l yL_product wsL_product ({ frames := 9, cells := 1, slots := 6, locals := 250 } : Room) (va_Pc [.ref x0, .int a1, .int a2, .ref u0] (fun U => U.heap.size = sz ∧ va_P (dC, dI) vwCl ([(u0, .inl (cJ, 1, .inr (.inl fJ)))] ++ Wc) U.heap ∧ va_K (dC, dI) vwCl [(cI, .int), (cZ, .boolean), (cG, .array .int), (cJ, .long)] U ∧ va_D (fun _ => True) ([(u0, .inl (cJ, 1, .inr (.inl fJ)))] ++ Wc) ∧ qn_N U ∧ qx_P U ∧ qy_P U)) (va_Qi (fun (r : Int32) (u : Int32 × S) => r = nI 0 ∧ PW u.1 u.2) (fun u t => va_P (dC, dI) vwCl ([(u0, .inl (cJ, 1, .inr (.inl (vp_updL fJ 0 u.1.toInt64))))] ++ NW u.2) t.heap ∧ va_K (dC, dI) vwCl [(cI, .int), (cZ, .boolean), (cG, .array .int), (cJ, .long)] t ∧ va_D (va_A ([(u0, .inl (cJ, 1, .inr (.inl fJ)))] ++ Wc) sz) ([(u0, .inl (cJ, 1, .inr (.inl (vp_updL fJ 0 u.1.toInt64))))] ++ NW u.2)) (va_A ([(u0, .inl (cJ, 1, .inr (.inl fJ)))] ++ Wc) sz)) 1 6 (va_A ([(u0, .inl (cJ, 1, .inr (.inl fJ)))] ++ Wc) sz) := by
  refine va_MetW (cc := cL_product) (maxL := 5) (ret := (some .int)) (by decide) rfl ?_
  intro p e s m args below meth c s₁ B hml hv
  obtain ⟨rfl, hsz, hP, hK, hD0, hN, hX, hY⟩ := hv
  have hx := B.exec
  have hb := B.bytes
  have hr := B.returns
  have hts := atoms_spec (ws := wsL_product) B.pre
  have hown : s.vm.findClass RL = some m.cls := findClass_of_methodNamed B.named
  have hlocks := B.notSynchronized
  subst hsz
  have hD := hD0.self (sz := s.heap.size)
  generalize hAe : va_A ([(u0, .inl (cJ, 1, .inr (.inl fJ)))] ++ Wc) s.heap.size = A at hD ⊢
  have hA : ∀ q : Nat, s.heap.size ≤ q → A q := fun q h => by rw [← hAe]; exact Or.inr h
  have hS : va_S A s.heap s.heap [] := va_S.rf
  have hl := lv_entry ([.ref x0, .int a1, .int a2, .ref u0]) (n := 5) (Nat.le_of_ble_eq_true rfl)
  rw [lg_entry_eq]
  generalize (lg_sl ([.ref x0, .int a1, .int a2, .ref u0]) ++ List.replicate (5 - (lg_sl ([.ref x0, .int a1, .int a2, .ref u0])).length) Slot.unset).toArray = ls at hl ⊢
  have hl : lv_has ls 5 [(0, .ref x0), (1, .int a1), (2, .int a2), (3, .ref u0)] := hl
  refine qr_nm (fun Q hQ => ?_)
  refine lv_aload_n hx hb dL_product_0 rfl (lv_at hl 3 rfl) ?_
  refine lv_iconst (v := nI 0) hx hb dL_product_1 (by decide) ?_
  refine lv_aload_n hx hb dL_product_2 rfl (lv_at hl 0 rfl) ?_
  refine lv_iload_n hx hb dL_product_3 rfl (lv_at hl 1 rfl) ?_
  refine lv_iload_n hx hb dL_product_4 rfl (lv_at hl 2 rfl) ?_
  have hPc : va_P (dC, dI) vwCl Wc s.heap := qj_PR hP
  have hDc : va_D A Wc := qj_DR hD
  have hKc := hK.sub (tys' := [(cI, .int), (cZ, .boolean), (cG, .array .int)]) [0, 1, 2] rfl
  have hFc := qj_free hDc hS hA
  refine va_calli (va_runV (As := [.int a1, .int a2]) (rest := [.int (nI 0), .ref u0]) ⟨hx, hb, hml, hown, hts⟩ (hM s.heap.size) (cwV 2 hts gL_product_X5_product rfl hr9.1 hr9.2.1 (by decide +kernel) ⟨Nat.le_trans (Nat.succ_le_succ hr9.2.2.1) (Nat.le_of_ble_eq_true rfl), Nat.le_trans (Nat.add_le_add_left hr9.2.2.2 _) (Nat.le_of_ble_eq_true rfl)⟩) ⟨fun a U g mk q => by obtain ⟨q0, q1, qP, qK, qD, qN⟩ := q; exact ⟨q0, q1, qP, va_K.moved (u := U) (U := U.calling g mk a) (Vm.Alike.refl U.vm) qK, qD, qn_same (u := U) rfl qN⟩, va_recv (q0 := 0) (ci := 4) hKc hPc rfl hW0, fun U hU hW => ⟨rfl, by rw [hU], by rw [hU]; exact hPc, va_K.moved hW.alike hKc, hDc.weaken (fun _ _ _ _ => trivial), qn_warm hW hN⟩⟩ rfl rfl hl.1 rfl (lv_room (Nat.le_of_ble_eq_true rfl)) dL_product_5 ⟨Nat.le_of_ble_eq_true rfl, Nat.le_of_ble_eq_true rfl⟩) hS (fun q _ h => hFc q h) hFc (fun rv u t H1 locs ht hvm hw hB hz1 hk1 hS => ?_)
  obtain ⟨hP1, hK1, hD1⟩ := hB
  rw [ht] at hP1
  obtain ⟨hP, hD⟩ := qj_apR hP hD (hadr u) hk1 hP1
  generalize H1 = H at hP hS ⊢
  refine lv_i2l (v := rv.toInt64) hx hb dL_product_8 rfl ?_
  refine va_last (x := rv.toInt64) hx hb hK hP hD hS 0 3 rfl rfl (vp_in_nI (by decide) (by decide)) dL_product_9 (fun H locs hP hD hS => ?_)
  have e0 : (nI 0).toNatClampNeg = 0 := nI_clamp (by decide)
  rw [e0] at hP hD
  have hP : va_P (dC, dI) vwCl ([(u0, .inl (cJ, 1, .inr (.inl (vp_updL fJ 0 rv.toInt64))))] ++ NW u) H := hP
  have hD : va_D A ([(u0, .inl (cJ, 1, .inr (.inl (vp_updL fJ 0 rv.toInt64))))] ++ NW u) := hD
  refine lv_goto (tgt := 17) hx hb dL_product_10 rfl ?_
  refine lv_iconst (v := nI 0) hx hb dL_product_17 (by decide) ?_
  refine W.widen (k := 1) (n := 6) (by decide) (by decide) ?_
  subst hQ
  exact W.iret hx hb hr (fun t ht hW => ⟨⟨_, (rv, u), rfl, ⟨rfl, hw⟩, by rw [ht]; exact hP, va_K.moved hW.alike hK, hD⟩, hS.F ht⟩) hS.2.2 dL_product_18
set_option maxHeartbeats 4000000 in
set_option maxRecDepth 100000 in
theorem ql_product1 (l : Launch) (dC : Nat → ClassId) (dI : Nat → Nat → Nat) (cI cZ cG cJ : ClassId) (Wc : va_W) (x0 u0 : Nat) (fx : List Value) (fJ : Nat → Int64) (a1 : Int32) (a2 : Int32) (sz : Nat) (hW0 : Wc[0]? = some (x0, .inr (4, fx))) (hM : ∀ z : Nat, vx_Met l yX5_product wsX5_product ({ frames := 6, cells := 1, slots := 6, locals := 90 } : Room) (va_Pc [.ref x0, .int a1, .int a2] (fun U => U.heap.size = z ∧ va_P (dC, dI) vwCl Wc U.heap ∧ va_K (dC, dI) vwCl [(cI, .int), (cZ, .boolean), (cG, .array .int)] U ∧ qn_N U ∧ qx_P U)) (va_Qi (fun (_ : Int32) (_ : Unit) => False) (fun _ _ => True) (fun q => z ≤ q)) (qx_X "java/lang/IllegalArgumentException" z) 1 6 (fun q => z ≤ q)) : Met l yL_product wsL_product ({ frames := 9, cells := 1, slots := 6, locals := 250 } : Room) (va_Pc [.ref x0, .int a1, .int a2, .ref u0] (fun U => U.heap.size = sz ∧ va_P (dC, dI) vwCl ([(u0, .inl (cJ, 1, .inr (.inl fJ)))] ++ Wc) U.heap ∧ va_K (dC, dI) vwCl [(cI, .int), (cZ, .boolean), (cG, .array .int), (cJ, .long)] U ∧ va_D (fun _ => True) ([(u0, .inl (cJ, 1, .inr (.inl fJ)))] ++ Wc) ∧ qn_N U ∧ qx_P U ∧ qy_P U)) (va_Qi (fun (r : Int32) (_ : Unit) => r = nI 1 ∧ True) (fun _ t => va_P (dC, dI) vwCl ([(u0, .inl (cJ, 1, .inr (.inl fJ)))] ++ Wc) t.heap ∧ va_K (dC, dI) vwCl [(cI, .int), (cZ, .boolean), (cG, .array .int), (cJ, .long)] t ∧ va_D (va_A ([(u0, .inl (cJ, 1, .inr (.inl fJ)))] ++ Wc) sz) ([(u0, .inl (cJ, 1, .inr (.inl fJ)))] ++ Wc)) (va_A ([(u0, .inl (cJ, 1, .inr (.inl fJ)))] ++ Wc) sz)) 1 6 (va_A ([(u0, .inl (cJ, 1, .inr (.inl fJ)))] ++ Wc) sz) := by
  refine va_MetW (cc := cL_product) (maxL := 5) (ret := (some .int)) (by decide) rfl ?_
  intro p e s m args below meth c s₁ B hml hv
  obtain ⟨rfl, hsz, hP, hK, hD0, hN, hX, hY⟩ := hv
  have hx := B.exec
  have hb := B.bytes
  have hr := B.returns
  have hts := atoms_spec (ws := wsL_product) B.pre
  have hown : s.vm.findClass RL = some m.cls := findClass_of_methodNamed B.named
  have hlocks := B.notSynchronized
  have hTab : c.exceptionTable.toList = tableOf [(0, 10, 13, 25)] := vx_table (x := yL_product) B (hts (.codeWith yL_product cL_product 5 (some .int) [(0, 10, 13, 25)]) (by decide +kernel))
  subst hsz
  have hD := hD0.self (sz := s.heap.size)
  generalize hAe : va_A ([(u0, .inl (cJ, 1, .inr (.inl fJ)))] ++ Wc) s.heap.size = A at hD ⊢
  have hA : ∀ q : Nat, s.heap.size ≤ q → A q := fun q h => by rw [← hAe]; exact Or.inr h
  have hS : va_S A s.heap s.heap [] := va_S.rf
  have hl := lv_entry ([.ref x0, .int a1, .int a2, .ref u0]) (n := 5) (Nat.le_of_ble_eq_true rfl)
  rw [lg_entry_eq]
  generalize (lg_sl ([.ref x0, .int a1, .int a2, .ref u0]) ++ List.replicate (5 - (lg_sl ([.ref x0, .int a1, .int a2, .ref u0])).length) Slot.unset).toArray = ls at hl ⊢
  have hl : lv_has ls 5 [(0, .ref x0), (1, .int a1), (2, .int a2), (3, .ref u0)] := hl
  refine qr_nm (fun Q hQ => ?_)
  refine lv_aload_n hx hb dL_product_0 rfl (lv_at hl 3 rfl) ?_
  refine lv_iconst (v := nI 0) hx hb dL_product_1 (by decide) ?_
  refine lv_aload_n hx hb dL_product_2 rfl (lv_at hl 0 rfl) ?_
  refine lv_iload_n hx hb dL_product_3 rfl (lv_at hl 1 rfl) ?_
  refine lv_iload_n hx hb dL_product_4 rfl (lv_at hl 2 rfl) ?_
  have hPc : va_P (dC, dI) vwCl Wc s.heap := qj_PR hP
  have hDc : va_D A Wc := qj_DR hD
  have hKc := hK.sub (tys' := [(cI, .int), (cZ, .boolean), (cG, .array .int)]) [0, 1, 2] rfl
  refine vx_calli (px := fun _ : Unit => True) (BX := fun E' _ _ => E' = "java/lang/IllegalArgumentException") (AX := fun q => s.heap.size ≤ q) (vx_runV (As := [.int a1, .int a2]) (rest := [.int (nI 0), .ref u0]) ⟨hx, hb, hml, hown, hts⟩ (hM s.heap.size) (cwV 2 hts gL_product_X5_product rfl rfl rfl (by decide +kernel) ⟨Nat.le_of_ble_eq_true rfl, Nat.le_of_ble_eq_true rfl⟩) ⟨fun a U g mk q => by obtain ⟨q0, q1, qP, qK, qN, qX⟩ := q; exact ⟨q0, q1, qP, va_K.moved (u := U) (U := U.calling g mk a) (Vm.Alike.refl U.vm) qK, qn_same (u := U) rfl qN, qx_blind qX⟩, va_recv (q0 := 0) (ci := 4) hKc hPc rfl hW0, fun U hU hW => ⟨rfl, by rw [hU], by rw [hU]; exact hPc, va_K.moved hW.alike hKc, qn_warm hW hN, qx_pre (A := fun q => s.heap.size ≤ q) (fun _ h => h) va_S.rf hW hU hX⟩⟩ rfl rfl hl.1 rfl (lv_room (Nat.le_of_ble_eq_true rfl)) dL_product_5 ⟨Nat.le_of_ble_eq_true rfl, Nat.le_of_ble_eq_true rfl⟩) hS (fun q _ h => hA q h) hA (fun q _ h => hA q h) (fun E9 ce q9 u t H1 locs ht hvm hw hE hz1 hk1 hS hce hcv hcl => ?_) (fun rv u t H1 locs ht hvm hw hB hz1 hk1 hS => hw.elim)
  have hE : E9 = "java/lang/IllegalArgumentException" := hE
  subst hE
  have hP := qj_kept hP (fun q hq => hk1 q hq (Nat.not_le.mpr hq))
  generalize H1 = H at hP hS hce ⊢
  refine vx_catch (own := RL) (name := "java/lang/IllegalArgumentException") (E := "java/lang/IllegalArgumentException") hown [] ⟨0, 10, 13, 25⟩ [] (by rw [hTab]; rfl) (fun z hz => absurd hz List.not_mem_nil) (by decide) (by decide) (hts (.classLink RL 25 "java/lang/IllegalArgumentException") (by decide +kernel)) (qx_use hX (by decide +kernel)) hce hcv hcl ?_
  refine W.eq (g2 := F0 m 13 ls [.ref q9]) rfl ?_
  refine lv_astore (lv' := [(4, .ref q9), (0, .ref x0), (1, .int a1), (2, .int a2), (3, .ref u0)]) hx hb dL_product_13 hl (by decide) rfl (fun ls hl => ?_)
  refine lv_iconst (v := nI 1) hx hb dL_product_15 (by decide) ?_
  refine W.widen (k := 1) (n := 6) (by decide) (by decide) ?_
  subst hQ
  exact W.iret hx hb hr (fun t ht hW => ⟨⟨_, (), rfl, ⟨rfl, trivial⟩, by rw [ht]; exact hP, va_K.moved hW.alike hK, hD⟩, hS.F ht⟩) hS.2.2 dL_product_16
