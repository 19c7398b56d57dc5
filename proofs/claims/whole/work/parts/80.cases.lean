theorem qj_cons1 {u0 : Nat} {e0 e1 : va_E} {X X1 : va_W} (h : X1.map (fun q => q.1) = X.map (fun q => q.1)) : ([(u0, e1)] ++ X1).map (fun q => q.1) = ([(u0, e0)] ++ X).map (fun q => q.1) := congrArg (List.cons u0) h
def qz_C (p : Program) (s : State) (m : MethodId) (c : Code) (dC : Nat → ClassId) (dI : Nat → Nat → Nat) (cI cZ cG cJ : ClassId) (b L : Nat) (xs : Nat → Int32) : Prop :=
  p.tables.exec = Jvm.exec ∧ c.code = code ∧ c.maxLocals = 7 ∧ s.vm.findClass RL = some m.cls ∧ (∀ w ∈ wsL_law, w.before #[Value.ref b] s = true) ∧ va_X b L xs s s.heap ∧ b < s.heap.size ∧ va_K (dC, dI) vwCl [(cI, .int), (cZ, .boolean), (cG, .array .int), (cJ, .long)] s ∧ qn_N s ∧ qx_P s ∧ qy_P s ∧ L ≤ 2048
def qz_lg (a b : Int32) : Int64 := (a.toInt64 <<< ((nI 32).toInt64 &&& 63)) ||| (b.toInt64 &&& 4294967295)
section QZ
variable {p : Program} {l : Launch} {e : Env} {R : Room} {s : State} {m : MethodId} {args : Array Value} {below : List Frame} {meth : Method} {c : Code} {H : Heap} {locs : List Loc} {cells slots : Nat} {Q : State → Prop} {cc : ByteArray} {pc : Nat} {ls : Array Slot} {rest : List Value}
theorem qz_sld (hexec : p.tables.exec = Jvm.exec) (hb : c.code = cc) {b L : Nat} {xs : Nat → Int32} (hX : va_X b L xs s s.heap) (hbl : b < s.heap.size) (hS : va_S (fun q => s.heap.size ≤ q) s.heap H locs) {i : Nat} (hi : i < L) (hL : L ≤ 2048) (hdg : decode cc pc = .ok (.iaload, 1))
    (kk : W p l e R s m args below meth c H locs cells slots Q (F0 m (pc + 1) ls (.int (xs i) :: rest))) : W p l e R s m args below meth c H locs cells slots Q (F0 m pc ls (.int (nI i) :: .ref b :: rest)) := by
  refine va_sld hexec hb hX hbl (Nat.not_le.mpr hbl) hS (vp_in_nI hi (by omega)) hdg ?_
  rw [nI_clamp (by omega)]
  exact kk
end QZ

set_option maxHeartbeats 4000000 in
set_option maxRecDepth 100000 in
theorem qz_feed {p : Program} {l : Launch} {e : Env} {s : State} {m : MethodId} {below : List Frame} {meth : Method} {c : Code} {dC : Nat → ClassId} {dI : Nat → Nat → Nat} {cI cZ cG cJ : ClassId} {b L : Nat} {xs : Nat → Int32} (C : qz_C p s m c dC dI cI cZ cG cJ b L xs) {Q : State → Prop} {H : Heap} {locs : List Loc} {cells slots : Nat} {ls : Array Slot} {x0 h0 u0 i : Nat} {fJ : Nat → Int64} {Wc Wm : va_W} {fm : List Value} (hi : i + 4 ≤ L) (hrm : cells + 1 ≤ room_1.cells ∧ slots + 6 ≤ room_1.slots) (hl : lv_has ls 7 [(4, .int (nI i)), (3, .ref u0), (2, .ref h0), (1, .ref x0), (0, .ref b)]) (hP : va_P (dC, dI) vwCl (([(u0, .inl (cJ, 1, .inr (.inl fJ)))] ++ Wc) ++ Wm) H) (hD : va_D (fun q => s.heap.size ≤ q) (([(u0, .inl (cJ, 1, .inr (.inl fJ)))] ++ Wc) ++ Wm)) (hS : va_S (fun q => s.heap.size ≤ q) s.heap H locs) (kk : Nat) (hkk : kk < 4) (S : Type) (PX : S → Prop) (fN : S → Nat → Int64) (NW : S → va_W) (hadw : ∀ u, (NW u).map (fun q => q.1) = Wc.map (fun q => q.1)) (hMw : ∀ z : Nat, Met l yL_feed wsL_feed ({ frames := 9, cells := 1, slots := 6, locals := 250 } : Room) (va_Pc [.ref x0, .long (qz_lg (xs (i + 1)) (xs (i + 2))), .ref u0] (fun U => U.heap.size = z ∧ va_P (dC, dI) vwCl ([(u0, .inl (cJ, 1, .inr (.inl fJ)))] ++ Wc) U.heap ∧ va_K (dC, dI) vwCl [(cI, .int), (cZ, .boolean), (cG, .array .int), (cJ, .long)] U ∧ va_D (fun _ => True) ([(u0, .inl (cJ, 1, .inr (.inl fJ)))] ++ Wc) ∧ qn_N U ∧ qx_P U ∧ qy_P U)) (va_Qi (fun (r : Int32) (u : S) => r = nI kk ∧ PX u) (fun u t => va_P (dC, dI) vwCl ([(u0, .inl (cJ, 1, .inr (.inl (fN u))))] ++ NW u) t.heap ∧ va_K (dC, dI) vwCl [(cI, .int), (cZ, .boolean), (cG, .array .int), (cJ, .long)] t ∧ va_D (va_A ([(u0, .inl (cJ, 1, .inr (.inl fJ)))] ++ Wc) z) ([(u0, .inl (cJ, 1, .inr (.inl (fN u))))] ++ NW u)) (va_A ([(u0, .inl (cJ, 1, .inr (.inl fJ)))] ++ Wc) z)) 1 6 (va_A ([(u0, .inl (cJ, 1, .inr (.inl fJ)))] ++ Wc) z)) (S2 : Type) (PM : Int32 → S2 → Prop) (NM : S2 → va_W) (hadm : ∀ u, (NM u).map (fun q => q.1) = Wm.map (fun q => q.1)) (rm : Room) (hr9 : rm.cells = 0 ∧ rm.slots = 0 ∧ rm.frames ≤ 8 ∧ rm.locals ≤ 200) (hm0 : Wm[0]? = some (h0, .inr (5, fm))) (hm1 : ∀ u, ∃ fs, (NM u)[0]? = some (h0, .inr (5, fs))) (hMm : ∀ z : Nat, Met l yX6_feed wsX6_feed rm (va_Pc [.ref h0, .long (qz_lg (xs (i + 1)) (xs (i + 2)))] (fun U => U.heap.size = z ∧ va_P (dC, dI) vwCl Wm U.heap ∧ va_K (dC, dI) vwCl [(cI, .int), (cZ, .boolean)] U ∧ va_D (fun _ => True) Wm)) (va_Qi PM (fun u t => va_P (dC, dI) vwCl (NM u) t.heap ∧ va_K (dC, dI) vwCl [(cI, .int), (cZ, .boolean)] t ∧ va_D (va_A Wm z) (NM u)) (va_A Wm z)) 0 0 (va_A Wm z)) (hMt : ∀ (r : Int32) (u : S2), PM r u → Met l yX6_thrown wsX6_thrown ({ frames := 0, cells := 0, slots := 0, locals := 0 } : Room) (va_Pc [.ref h0] (fun U => va_P (dC, dI) vwCl (NM u) U.heap ∧ va_K (dC, dI) vwCl [(cI, .int), (cZ, .boolean)] U)) (vp_Si (fun r => r = nI kk)) 0 0 (fun _ => False)) (heq : kk = 0 → ∀ (u : S) (r : Int32) (u2 : S2), PX u → PM r u2 → fN u 0 = r.toInt64) (kc : ∀ (u : S) (r : Int32) (u2 : S2) (H : Heap) (locs : List Loc) (ls : Array Slot), PX u → PM r u2 → lv_has ls 7 [(4, .int (nI i)), (3, .ref u0), (2, .ref h0), (1, .ref x0), (0, .ref b)] → va_P (dC, dI) vwCl (([(u0, .inl (cJ, 1, .inr (.inl (fN u))))] ++ NW u) ++ NM u2) H → va_D (fun q => s.heap.size ≤ q) (([(u0, .inl (cJ, 1, .inr (.inl (fN u))))] ++ NW u) ++ NM u2) → va_S (fun q => s.heap.size ≤ q) s.heap H locs → W p l e room_1 s m #[Value.ref b] below meth c H locs (cells + 1) (slots + 6) Q (F0 m 772 ls [])) : W p l e room_1 s m #[Value.ref b] below meth c H locs cells slots Q (F0 m 96 ls []) := by
  obtain ⟨hx, hb, hml, hown, hts, hX, hbl, hK, hN, hXx, hY, hL⟩ := C
  have hKm := hK.sub (tys' := [(cI, .int), (cZ, .boolean)]) [0, 1] rfl
  refine lv_aload_n hx hb dL_law_96 rfl (lv_at hl 3 rfl) ?_
  refine lv_aload_n hx hb dL_law_97 rfl (lv_at hl 4 rfl) ?_
  refine lv_iload hx hb dL_law_98 (lv_at hl 0 rfl) ?_
  refine lv_iconst (v := nI 1) hx hb dL_law_100 (by decide) ?_
  refine qr_iadd (z := nI (i + 1)) hx hb dL_law_101 (nI_add _ _) ?_
  refine qz_sld hx hb hX hbl hS (by omega) hL dL_law_102 ?_
  refine lv_i2l (v := (xs (i + 1)).toInt64) hx hb dL_law_103 rfl ?_
  refine lv_bipush (v := nI 32) hx hb dL_law_104 (by decide) ?_
  refine lv_lshl (v := (xs (i + 1)).toInt64 <<< ((nI 32).toInt64 &&& 63)) hx hb dL_law_106 rfl ?_
  refine lv_aload_n hx hb dL_law_107 rfl (lv_at hl 4 rfl) ?_
  refine lv_iload hx hb dL_law_108 (lv_at hl 0 rfl) ?_
  refine lv_iconst (v := nI 2) hx hb dL_law_110 (by decide) ?_
  refine qr_iadd (z := nI (i + 2)) hx hb dL_law_111 (nI_add _ _) ?_
  refine qz_sld hx hb hX hbl hS (by omega) hL dL_law_112 ?_
  refine lv_i2l (v := (xs (i + 2)).toInt64) hx hb dL_law_113 rfl ?_
  refine lv_ldc2 (v := 4294967295) hx hb hown (hts (.constantLong RL 58 4294967295) (by decide +kernel)) dL_law_114 ?_
  refine lv_land hx hb dL_law_117 ?_
  refine lv_lor hx hb dL_law_118 ?_
  refine lv_aload_n hx hb dL_law_119 rfl (lv_at hl 1 rfl) ?_
  have hPc : va_P (dC, dI) vwCl ([(u0, .inl (cJ, 1, .inr (.inl fJ)))] ++ Wc) H := qj_PL hP
  have hDc : va_D (fun q => s.heap.size ≤ q) ([(u0, .inl (cJ, 1, .inr (.inl fJ)))] ++ Wc) := qj_DL hD
  have hFc := qj_free hDc hS (fun _ h => h)
  refine va_calli (vx_runSW (As := [.ref x0, .long (qz_lg (xs (i + 1)) (xs (i + 2))), .ref u0]) (rest := []) ⟨hx, hb, hml, hown, hts⟩ (hMw H.size) (vx_cwSW 3 hts gL_law_L_feed rfl rfl rfl (by decide +kernel) ⟨Nat.le_of_ble_eq_true rfl, Nat.le_of_ble_eq_true rfl⟩) ⟨fun a U g mk q => by obtain ⟨q0, q1, qP, qK, qD, qN, qX, qY⟩ := q; exact ⟨q0, q1, qP, va_K.moved (u := U) (U := U.calling g mk a) (Vm.Alike.refl U.vm) qK, qD, qn_same (u := U) rfl qN, qx_blind qX, qy_moved (u := U) (U := U.calling g mk a) (Vm.Alike.refl U.vm) qY⟩, fun U hU hW => ⟨rfl, by rw [hU], by rw [hU]; exact hPc, va_K.moved hW.alike hK, hDc.weaken (fun _ _ _ _ => trivial), qn_warm hW hN, qx_pre (A := (fun q => s.heap.size ≤ q)) (fun _ h => h) hS hW hU hXx, qy_moved hW.alike hY⟩⟩ rfl rfl hl.1 rfl (lv_room (Nat.le_of_ble_eq_true rfl)) dL_law_120 hrm) hS (fun q _ h => hFc q h) hFc (fun rv u t H1 locs ht hvm hw hB hz1 hk1 hS => ?_)
  obtain ⟨hP1, -, hD1⟩ := hB
  rw [ht] at hP1
  obtain ⟨hw1, hw2⟩ := hw
  subst hw1
  obtain ⟨hP, hD⟩ := qj_apL (X1 := ([(u0, .inl (cJ, 1, .inr (.inl (fN u))))] ++ NW u)) hP hD (qj_cons1 (hadw u)) hk1 hP1
  clear hz1 hk1 hPc hDc hFc hP1 hD1
  generalize H1 = H at hP hS ⊢
  refine lv_istore (lv' := [(5, .int (nI kk)), (4, .int (nI i)), (3, .ref u0), (2, .ref h0), (1, .ref x0), (0, .ref b)]) hx hb dL_law_123 hl (by decide) rfl (fun ls hl => ?_)
  refine lv_aload_n hx hb dL_law_125 rfl (lv_at hl 3 rfl) ?_
  refine lv_aload_n hx hb dL_law_126 rfl (lv_at hl 5 rfl) ?_
  refine lv_iload hx hb dL_law_127 (lv_at hl 1 rfl) ?_
  refine lv_iconst (v := nI 1) hx hb dL_law_129 (by decide) ?_
  refine qr_iadd (z := nI (i + 1)) hx hb dL_law_130 (nI_add _ _) ?_
  refine qz_sld hx hb hX hbl hS (by omega) hL dL_law_131 ?_
  refine lv_i2l (v := (xs (i + 1)).toInt64) hx hb dL_law_132 rfl ?_
  refine lv_bipush (v := nI 32) hx hb dL_law_133 (by decide) ?_
  refine lv_lshl (v := (xs (i + 1)).toInt64 <<< ((nI 32).toInt64 &&& 63)) hx hb dL_law_135 rfl ?_
  refine lv_aload_n hx hb dL_law_136 rfl (lv_at hl 5 rfl) ?_
  refine lv_iload hx hb dL_law_137 (lv_at hl 1 rfl) ?_
  refine lv_iconst (v := nI 2) hx hb dL_law_139 (by decide) ?_
  refine qr_iadd (z := nI (i + 2)) hx hb dL_law_140 (nI_add _ _) ?_
  refine qz_sld hx hb hX hbl hS (by omega) hL dL_law_141 ?_
  refine lv_i2l (v := (xs (i + 2)).toInt64) hx hb dL_law_142 rfl ?_
  refine lv_ldc2 (v := 4294967295) hx hb hown (hts (.constantLong RL 58 4294967295) (by decide +kernel)) dL_law_143 ?_
  refine lv_land hx hb dL_law_146 ?_
  refine lv_lor hx hb dL_law_147 ?_
  have hPc : va_P (dC, dI) vwCl Wm H := qj_PR hP
  have hDc : va_D (fun q => s.heap.size ≤ q) Wm := qj_DR hD
  have hFc := qj_free hDc hS (fun _ h => h)
  refine va_calli (va_runV (As := [.long (qz_lg (xs (i + 1)) (xs (i + 2)))]) (rest := []) ⟨hx, hb, hml, hown, hts⟩ (hMm H.size) (cwV 1 hts gL_law_X6_feed rfl hr9.1 hr9.2.1 (by decide +kernel) ⟨Nat.le_trans (Nat.succ_le_succ hr9.2.2.1) (Nat.le_of_ble_eq_true rfl), Nat.le_trans (Nat.add_le_add_left hr9.2.2.2 _) (Nat.le_of_ble_eq_true rfl)⟩) ⟨fun a U g mk q => by obtain ⟨q0, q1, qP, qK, qD⟩ := q; exact ⟨q0, q1, qP, va_K.moved (u := U) (U := U.calling g mk a) (Vm.Alike.refl U.vm) qK, qD⟩, va_recv (q0 := 0) (ci := 5) hKm hPc rfl hm0, fun U hU hW => ⟨rfl, by rw [hU], by rw [hU]; exact hPc, va_K.moved hW.alike hKm, hDc.weaken (fun _ _ _ _ => trivial)⟩⟩ rfl rfl hl.1 rfl (lv_room (Nat.le_of_ble_eq_true rfl)) dL_law_148 hrm) hS (fun q _ h => hFc q h) hFc (fun r u2 t H1 locs ht hvm hpm hB hz1 hk1 hS => ?_)
  obtain ⟨hP1, -, hD1⟩ := hB
  rw [ht] at hP1
  obtain ⟨hP, hD⟩ := qj_apR hP hD (hadm u2) hk1 hP1
  clear hz1 hk1 hPc hDc hFc hP1 hD1
  generalize H1 = H at hP hS ⊢
  refine lv_istore (lv' := [(6, .int r), (5, .int (nI kk)), (4, .int (nI i)), (3, .ref u0), (2, .ref h0), (1, .ref x0), (0, .ref b)]) hx hb dL_law_151 hl (by decide) rfl (fun ls hl => ?_)
  refine lv_aload_n hx hb dL_law_153 rfl (lv_at hl 4 rfl) ?_
  obtain ⟨fs1, hf1⟩ := hm1 u2
  have hPc : va_P (dC, dI) vwCl (NM u2) H := qj_PR hP
  refine vp_callSi (va_Run.run (va_runV (As := []) (rest := []) ⟨hx, hb, hml, hown, hts⟩ (hMt r u2 hpm) (cwV 0 hts gL_law_X6_thrown rfl rfl rfl (by decide +kernel) ⟨Nat.le_of_ble_eq_true rfl, Nat.le_of_ble_eq_true rfl⟩) ⟨fun a U g mk q => by obtain ⟨q0, qP, qK⟩ := q; exact ⟨q0, qP, va_K.moved (u := U) (U := U.calling g mk a) (Vm.Alike.refl U.vm) qK⟩, va_recv (q0 := 0) (ci := 5) hKm hPc rfl hf1, fun U hU hW => ⟨rfl, by rw [hU]; exact hPc, va_K.moved hW.alike hKm⟩⟩ rfl rfl hl.1 rfl (lv_room (Nat.le_of_ble_eq_true rfl)) dL_law_154 hrm)) (fun rt hrt => ?_)
  have hrt : rt = nI kk := hrt
  subst hrt
  refine lv_iload hx hb dL_law_157 (lv_at hl 1 rfl) ?_
  refine qr_eqN (tgt := 164) hx hb dL_law_159 rfl (by omega) (by omega) (fun _ => ?_) (fun h => absurd rfl h)
  refine lv_iload hx hb dL_law_164 (lv_at hl 1 rfl) ?_
  refine qr_ifneN (tgt := 181) hx hb dL_law_166 rfl (by omega) (fun _ => ?_) (fun hk0 => ?_)
  · refine lv_goto (tgt := 772) hx hb dL_law_181 rfl ?_
    have hl := lv_sub (l' := [(4, .int (nI i)), (3, .ref u0), (2, .ref h0), (1, .ref x0), (0, .ref b)]) hl [2, 3, 4, 5, 6] rfl
    exact kc u _ u2 H _ ls hw2 hpm hl hP hD hS
  · refine lv_aload_n hx hb dL_law_169 rfl (lv_at hl 3 rfl) ?_
    refine lv_iconst (v := nI 0) hx hb dL_law_170 (by decide) ?_
    refine va_lald hx hb hK hP 0 3 rfl rfl (vp_in_nI (by decide) (by decide)) dL_law_171 ?_
    rw [show (nI 0).toNatClampNeg = 0 from nI_clamp (by decide)]
    refine lv_iload hx hb dL_law_172 (lv_at hl 0 rfl) ?_
    refine lv_i2l (v := r.toInt64) hx hb dL_law_174 rfl ?_
    refine W.lcmp hx hb dL_law_175 ?_
    refine lv_if_eq (tgt := 181) hx hb dL_law_176 rfl (fun _ => ?_) (fun h => absurd ((lg_cmp_eq _ _).mpr (heq hk0 u r u2 hw2 hpm)) h)
    refine lv_goto (tgt := 772) hx hb dL_law_181 rfl ?_
    have hl := lv_sub (l' := [(4, .int (nI i)), (3, .ref u0), (2, .ref h0), (1, .ref x0), (0, .ref b)]) hl [2, 3, 4, 5, 6] rfl
    exact kc u _ u2 H _ ls hw2 hpm hl hP hD hS
set_option maxHeartbeats 4000000 in
set_option maxRecDepth 100000 in
theorem qz_symbol {p : Program} {l : Launch} {e : Env} {s : State} {m : MethodId} {below : List Frame} {meth : Method} {c : Code} {dC : Nat → ClassId} {dI : Nat → Nat → Nat} {cI cZ cG cJ : ClassId} {b L : Nat} {xs : Nat → Int32} (C : qz_C p s m c dC dI cI cZ cG cJ b L xs) {Q : State → Prop} {H : Heap} {locs : List Loc} {cells slots : Nat} {ls : Array Slot} {x0 h0 u0 i : Nat} {fJ : Nat → Int64} {Wc Wm : va_W} {fm : List Value} (hi : i + 4 ≤ L) (hrm : cells + 1 ≤ room_1.cells ∧ slots + 6 ≤ room_1.slots) (hl : lv_has ls 7 [(4, .int (nI i)), (3, .ref u0), (2, .ref h0), (1, .ref x0), (0, .ref b)]) (hP : va_P (dC, dI) vwCl (([(u0, .inl (cJ, 1, .inr (.inl fJ)))] ++ Wc) ++ Wm) H) (hD : va_D (fun q => s.heap.size ≤ q) (([(u0, .inl (cJ, 1, .inr (.inl fJ)))] ++ Wc) ++ Wm)) (hS : va_S (fun q => s.heap.size ≤ q) s.heap H locs) (a1 : Int32) (ha1 : xs (i + 1) = a1) (a2 : Int32) (ha2 : xs (i + 2) = a2) (kk : Nat) (hkk : kk < 4) (S : Type) (PX : S → Prop) (fN : S → Nat → Int64) (NW : S → va_W) (hadw : ∀ u, (NW u).map (fun q => q.1) = Wc.map (fun q => q.1)) (hMw : ∀ z : Nat, Met l yL_symbol wsL_symbol ({ frames := 9, cells := 1, slots := 6, locals := 250 } : Room) (va_Pc [.ref x0, .int a1, .int a2, .ref u0] (fun U => U.heap.size = z ∧ va_P (dC, dI) vwCl ([(u0, .inl (cJ, 1, .inr (.inl fJ)))] ++ Wc) U.heap ∧ va_K (dC, dI) vwCl [(cI, .int), (cZ, .boolean), (cG, .array .int), (cJ, .long)] U ∧ va_D (fun _ => True) ([(u0, .inl (cJ, 1, .inr (.inl fJ)))] ++ Wc) ∧ qn_N U ∧ qx_P U ∧ qy_P U)) (va_Qi (fun (r : Int32) (u : S) => r = nI kk ∧ PX u) (fun u t => va_P (dC, dI) vwCl ([(u0, .inl (cJ, 1, .inr (.inl (fN u))))] ++ NW u) t.heap ∧ va_K (dC, dI) vwCl [(cI, .int), (cZ, .boolean), (cG, .array .int), (cJ, .long)] t ∧ va_D (va_A ([(u0, .inl (cJ, 1, .inr (.inl fJ)))] ++ Wc) z) ([(u0, .inl (cJ, 1, .inr (.inl (fN u))))] ++ NW u)) (va_A ([(u0, .inl (cJ, 1, .inr (.inl fJ)))] ++ Wc) z)) 1 6 (va_A ([(u0, .inl (cJ, 1, .inr (.inl fJ)))] ++ Wc) z)) (S2 : Type) (PM : Int32 → S2 → Prop) (NM : S2 → va_W) (hadm : ∀ u, (NM u).map (fun q => q.1) = Wm.map (fun q => q.1)) (rm : Room) (hr9 : rm.cells = 0 ∧ rm.slots = 0 ∧ rm.frames ≤ 8 ∧ rm.locals ≤ 200) (hm0 : Wm[0]? = some (h0, .inr (5, fm))) (hm1 : ∀ u, ∃ fs, (NM u)[0]? = some (h0, .inr (5, fs))) (hMm : ∀ z : Nat, Met l yX6_symbol wsX6_symbol rm (va_Pc [.ref h0, .int a1, .int a2] (fun U => U.heap.size = z ∧ va_P (dC, dI) vwCl Wm U.heap ∧ va_K (dC, dI) vwCl [(cI, .int), (cZ, .boolean)] U ∧ va_D (fun _ => True) Wm)) (va_Qi PM (fun u t => va_P (dC, dI) vwCl (NM u) t.heap ∧ va_K (dC, dI) vwCl [(cI, .int), (cZ, .boolean)] t ∧ va_D (va_A Wm z) (NM u)) (va_A Wm z)) 0 0 (va_A Wm z)) (hMt : ∀ (r : Int32) (u : S2), PM r u → Met l yX6_thrown wsX6_thrown ({ frames := 0, cells := 0, slots := 0, locals := 0 } : Room) (va_Pc [.ref h0] (fun U => va_P (dC, dI) vwCl (NM u) U.heap ∧ va_K (dC, dI) vwCl [(cI, .int), (cZ, .boolean)] U)) (vp_Si (fun r => r = nI kk)) 0 0 (fun _ => False)) (heq : kk = 0 → ∀ (u : S) (r : Int32) (u2 : S2), PX u → PM r u2 → fN u 0 = r.toInt64) (kc : ∀ (u : S) (r : Int32) (u2 : S2) (H : Heap) (locs : List Loc) (ls : Array Slot), PX u → PM r u2 → lv_has ls 7 [(4, .int (nI i)), (3, .ref u0), (2, .ref h0), (1, .ref x0), (0, .ref b)] → va_P (dC, dI) vwCl (([(u0, .inl (cJ, 1, .inr (.inl (fN u))))] ++ NW u) ++ NM u2) H → va_D (fun q => s.heap.size ≤ q) (([(u0, .inl (cJ, 1, .inr (.inl (fN u))))] ++ NW u) ++ NM u2) → va_S (fun q => s.heap.size ≤ q) s.heap H locs → W p l e room_1 s m #[Value.ref b] below meth c H locs (cells + 1) (slots + 6) Q (F0 m 772 ls [])) : W p l e room_1 s m #[Value.ref b] below meth c H locs cells slots Q (F0 m 197 ls []) := by
  obtain ⟨hx, hb, hml, hown, hts, hX, hbl, hK, hN, hXx, hY, hL⟩ := C
  have hKm := hK.sub (tys' := [(cI, .int), (cZ, .boolean)]) [0, 1] rfl
  refine lv_aload_n hx hb dL_law_197 rfl (lv_at hl 3 rfl) ?_
  refine lv_aload_n hx hb dL_law_198 rfl (lv_at hl 4 rfl) ?_
  refine lv_iload hx hb dL_law_199 (lv_at hl 0 rfl) ?_
  refine lv_iconst (v := nI 1) hx hb dL_law_201 (by decide) ?_
  refine qr_iadd (z := nI (i + 1)) hx hb dL_law_202 (nI_add _ _) ?_
  refine qz_sld hx hb hX hbl hS (by omega) hL dL_law_203 ?_
  rw [ha1]
  refine lv_aload_n hx hb dL_law_204 rfl (lv_at hl 4 rfl) ?_
  refine lv_iload hx hb dL_law_205 (lv_at hl 0 rfl) ?_
  refine lv_iconst (v := nI 2) hx hb dL_law_207 (by decide) ?_
  refine qr_iadd (z := nI (i + 2)) hx hb dL_law_208 (nI_add _ _) ?_
  refine qz_sld hx hb hX hbl hS (by omega) hL dL_law_209 ?_
  rw [ha2]
  refine lv_aload_n hx hb dL_law_210 rfl (lv_at hl 1 rfl) ?_
  have hPc : va_P (dC, dI) vwCl ([(u0, .inl (cJ, 1, .inr (.inl fJ)))] ++ Wc) H := qj_PL hP
  have hDc : va_D (fun q => s.heap.size ≤ q) ([(u0, .inl (cJ, 1, .inr (.inl fJ)))] ++ Wc) := qj_DL hD
  have hFc := qj_free hDc hS (fun _ h => h)
  refine va_calli (vx_runSW (As := [.ref x0, .int a1, .int a2, .ref u0]) (rest := []) ⟨hx, hb, hml, hown, hts⟩ (hMw H.size) (vx_cwSW 4 hts gL_law_L_symbol rfl rfl rfl (by decide +kernel) ⟨Nat.le_of_ble_eq_true rfl, Nat.le_of_ble_eq_true rfl⟩) ⟨fun a U g mk q => by obtain ⟨q0, q1, qP, qK, qD, qN, qX, qY⟩ := q; exact ⟨q0, q1, qP, va_K.moved (u := U) (U := U.calling g mk a) (Vm.Alike.refl U.vm) qK, qD, qn_same (u := U) rfl qN, qx_blind qX, qy_moved (u := U) (U := U.calling g mk a) (Vm.Alike.refl U.vm) qY⟩, fun U hU hW => ⟨rfl, by rw [hU], by rw [hU]; exact hPc, va_K.moved hW.alike hK, hDc.weaken (fun _ _ _ _ => trivial), qn_warm hW hN, qx_pre (A := (fun q => s.heap.size ≤ q)) (fun _ h => h) hS hW hU hXx, qy_moved hW.alike hY⟩⟩ rfl rfl hl.1 rfl (lv_room (Nat.le_of_ble_eq_true rfl)) dL_law_211 hrm) hS (fun q _ h => hFc q h) hFc (fun rv u t H1 locs ht hvm hw hB hz1 hk1 hS => ?_)
  obtain ⟨hP1, -, hD1⟩ := hB
  rw [ht] at hP1
  obtain ⟨hw1, hw2⟩ := hw
  subst hw1
  obtain ⟨hP, hD⟩ := qj_apL (X1 := ([(u0, .inl (cJ, 1, .inr (.inl (fN u))))] ++ NW u)) hP hD (qj_cons1 (hadw u)) hk1 hP1
  clear hz1 hk1 hPc hDc hFc hP1 hD1
  generalize H1 = H at hP hS ⊢
  refine lv_istore (lv' := [(5, .int (nI kk)), (4, .int (nI i)), (3, .ref u0), (2, .ref h0), (1, .ref x0), (0, .ref b)]) hx hb dL_law_214 hl (by decide) rfl (fun ls hl => ?_)
  refine lv_aload_n hx hb dL_law_216 rfl (lv_at hl 3 rfl) ?_
  refine lv_aload_n hx hb dL_law_217 rfl (lv_at hl 5 rfl) ?_
  refine lv_iload hx hb dL_law_218 (lv_at hl 1 rfl) ?_
  refine lv_iconst (v := nI 1) hx hb dL_law_220 (by decide) ?_
  refine qr_iadd (z := nI (i + 1)) hx hb dL_law_221 (nI_add _ _) ?_
  refine qz_sld hx hb hX hbl hS (by omega) hL dL_law_222 ?_
  rw [ha1]
  refine lv_aload_n hx hb dL_law_223 rfl (lv_at hl 5 rfl) ?_
  refine lv_iload hx hb dL_law_224 (lv_at hl 1 rfl) ?_
  refine lv_iconst (v := nI 2) hx hb dL_law_226 (by decide) ?_
  refine qr_iadd (z := nI (i + 2)) hx hb dL_law_227 (nI_add _ _) ?_
  refine qz_sld hx hb hX hbl hS (by omega) hL dL_law_228 ?_
  rw [ha2]
  have hPc : va_P (dC, dI) vwCl Wm H := qj_PR hP
  have hDc : va_D (fun q => s.heap.size ≤ q) Wm := qj_DR hD
  have hFc := qj_free hDc hS (fun _ h => h)
  refine va_calli (va_runV (As := [.int a1, .int a2]) (rest := []) ⟨hx, hb, hml, hown, hts⟩ (hMm H.size) (cwV 2 hts gL_law_X6_symbol rfl hr9.1 hr9.2.1 (by decide +kernel) ⟨Nat.le_trans (Nat.succ_le_succ hr9.2.2.1) (Nat.le_of_ble_eq_true rfl), Nat.le_trans (Nat.add_le_add_left hr9.2.2.2 _) (Nat.le_of_ble_eq_true rfl)⟩) ⟨fun a U g mk q => by obtain ⟨q0, q1, qP, qK, qD⟩ := q; exact ⟨q0, q1, qP, va_K.moved (u := U) (U := U.calling g mk a) (Vm.Alike.refl U.vm) qK, qD⟩, va_recv (q0 := 0) (ci := 5) hKm hPc rfl hm0, fun U hU hW => ⟨rfl, by rw [hU], by rw [hU]; exact hPc, va_K.moved hW.alike hKm, hDc.weaken (fun _ _ _ _ => trivial)⟩⟩ rfl rfl hl.1 rfl (lv_room (Nat.le_of_ble_eq_true rfl)) dL_law_229 hrm) hS (fun q _ h => hFc q h) hFc (fun r u2 t H1 locs ht hvm hpm hB hz1 hk1 hS => ?_)
  obtain ⟨hP1, -, hD1⟩ := hB
  rw [ht] at hP1
  obtain ⟨hP, hD⟩ := qj_apR hP hD (hadm u2) hk1 hP1
  clear hz1 hk1 hPc hDc hFc hP1 hD1
  generalize H1 = H at hP hS ⊢
  refine lv_istore (lv' := [(6, .int r), (5, .int (nI kk)), (4, .int (nI i)), (3, .ref u0), (2, .ref h0), (1, .ref x0), (0, .ref b)]) hx hb dL_law_232 hl (by decide) rfl (fun ls hl => ?_)
  refine lv_aload_n hx hb dL_law_234 rfl (lv_at hl 4 rfl) ?_
  obtain ⟨fs1, hf1⟩ := hm1 u2
  have hPc : va_P (dC, dI) vwCl (NM u2) H := qj_PR hP
  refine vp_callSi (va_Run.run (va_runV (As := []) (rest := []) ⟨hx, hb, hml, hown, hts⟩ (hMt r u2 hpm) (cwV 0 hts gL_law_X6_thrown rfl rfl rfl (by decide +kernel) ⟨Nat.le_of_ble_eq_true rfl, Nat.le_of_ble_eq_true rfl⟩) ⟨fun a U g mk q => by obtain ⟨q0, qP, qK⟩ := q; exact ⟨q0, qP, va_K.moved (u := U) (U := U.calling g mk a) (Vm.Alike.refl U.vm) qK⟩, va_recv (q0 := 0) (ci := 5) hKm hPc rfl hf1, fun U hU hW => ⟨rfl, by rw [hU]; exact hPc, va_K.moved hW.alike hKm⟩⟩ rfl rfl hl.1 rfl (lv_room (Nat.le_of_ble_eq_true rfl)) dL_law_235 hrm)) (fun rt hrt => ?_)
  have hrt : rt = nI kk := hrt
  subst hrt
  refine lv_iload hx hb dL_law_238 (lv_at hl 1 rfl) ?_
  refine qr_eqN (tgt := 245) hx hb dL_law_240 rfl (by omega) (by omega) (fun _ => ?_) (fun h => absurd rfl h)
  refine lv_iload hx hb dL_law_245 (lv_at hl 1 rfl) ?_
  refine qr_ifneN (tgt := 262) hx hb dL_law_247 rfl (by omega) (fun _ => ?_) (fun hk0 => ?_)
  · refine lv_goto (tgt := 772) hx hb dL_law_262 rfl ?_
    have hl := lv_sub (l' := [(4, .int (nI i)), (3, .ref u0), (2, .ref h0), (1, .ref x0), (0, .ref b)]) hl [2, 3, 4, 5, 6] rfl
    exact kc u _ u2 H _ ls hw2 hpm hl hP hD hS
  · refine lv_aload_n hx hb dL_law_250 rfl (lv_at hl 3 rfl) ?_
    refine lv_iconst (v := nI 0) hx hb dL_law_251 (by decide) ?_
    refine va_lald hx hb hK hP 0 3 rfl rfl (vp_in_nI (by decide) (by decide)) dL_law_252 ?_
    rw [show (nI 0).toNatClampNeg = 0 from nI_clamp (by decide)]
    refine lv_iload hx hb dL_law_253 (lv_at hl 0 rfl) ?_
    refine lv_i2l (v := r.toInt64) hx hb dL_law_255 rfl ?_
    refine W.lcmp hx hb dL_law_256 ?_
    refine lv_if_eq (tgt := 262) hx hb dL_law_257 rfl (fun _ => ?_) (fun h => absurd ((lg_cmp_eq _ _).mpr (heq hk0 u r u2 hw2 hpm)) h)
    refine lv_goto (tgt := 772) hx hb dL_law_262 rfl ?_
    have hl := lv_sub (l' := [(4, .int (nI i)), (3, .ref u0), (2, .ref h0), (1, .ref x0), (0, .ref b)]) hl [2, 3, 4, 5, 6] rfl
    exact kc u _ u2 H _ ls hw2 hpm hl hP hD hS
set_option maxHeartbeats 4000000 in
set_option maxRecDepth 100000 in
theorem qz_scratch {p : Program} {l : Launch} {e : Env} {s : State} {m : MethodId} {below : List Frame} {meth : Method} {c : Code} {dC : Nat → ClassId} {dI : Nat → Nat → Nat} {cI cZ cG cJ : ClassId} {b L : Nat} {xs : Nat → Int32} (C : qz_C p s m c dC dI cI cZ cG cJ b L xs) {Q : State → Prop} {H : Heap} {locs : List Loc} {cells slots : Nat} {ls : Array Slot} {x0 h0 u0 i : Nat} {fJ : Nat → Int64} {Wc Wm : va_W} {fm : List Value} (hi : i + 4 ≤ L) (hrm : cells + 1 ≤ room_1.cells ∧ slots + 6 ≤ room_1.slots) (hl : lv_has ls 7 [(4, .int (nI i)), (3, .ref u0), (2, .ref h0), (1, .ref x0), (0, .ref b)]) (hP : va_P (dC, dI) vwCl (([(u0, .inl (cJ, 1, .inr (.inl fJ)))] ++ Wc) ++ Wm) H) (hD : va_D (fun q => s.heap.size ≤ q) (([(u0, .inl (cJ, 1, .inr (.inl fJ)))] ++ Wc) ++ Wm)) (hS : va_S (fun q => s.heap.size ≤ q) s.heap H locs) (a1 : Int32) (ha1 : xs (i + 1) = a1) (a2 : Int32) (ha2 : xs (i + 2) = a2) (a3 : Int32) (ha3 : xs (i + 3) = a3) (kk : Nat) (hkk : kk < 4) (S : Type) (PX : S → Prop) (fN : S → Nat → Int64) (NW : S → va_W) (hadw : ∀ u, (NW u).map (fun q => q.1) = Wc.map (fun q => q.1)) (hMw : ∀ z : Nat, Met l yL_scratch wsL_scratch ({ frames := 9, cells := 1, slots := 6, locals := 250 } : Room) (va_Pc [.ref x0, .int a1, .int a2, .int a3] (fun U => U.heap.size = z ∧ va_P (dC, dI) vwCl ([(u0, .inl (cJ, 1, .inr (.inl fJ)))] ++ Wc) U.heap ∧ va_K (dC, dI) vwCl [(cI, .int), (cZ, .boolean), (cG, .array .int), (cJ, .long)] U ∧ va_D (fun _ => True) ([(u0, .inl (cJ, 1, .inr (.inl fJ)))] ++ Wc) ∧ qn_N U ∧ qx_P U ∧ qy_P U)) (va_Qi (fun (r : Int32) (u : S) => r = nI kk ∧ PX u) (fun u t => va_P (dC, dI) vwCl ([(u0, .inl (cJ, 1, .inr (.inl (fN u))))] ++ NW u) t.heap ∧ va_K (dC, dI) vwCl [(cI, .int), (cZ, .boolean), (cG, .array .int), (cJ, .long)] t ∧ va_D (va_A ([(u0, .inl (cJ, 1, .inr (.inl fJ)))] ++ Wc) z) ([(u0, .inl (cJ, 1, .inr (.inl (fN u))))] ++ NW u)) (va_A ([(u0, .inl (cJ, 1, .inr (.inl fJ)))] ++ Wc) z)) 1 6 (va_A ([(u0, .inl (cJ, 1, .inr (.inl fJ)))] ++ Wc) z)) (S2 : Type) (PM : S2 → Prop) (NM : S2 → va_W) (hadm : ∀ u, (NM u).map (fun q => q.1) = Wm.map (fun q => q.1)) (rm : Room) (hr9 : rm.cells = 0 ∧ rm.slots = 0 ∧ rm.frames ≤ 8 ∧ rm.locals ≤ 200) (hm0 : Wm[0]? = some (h0, .inr (5, fm))) (hm1 : ∀ u, ∃ fs, (NM u)[0]? = some (h0, .inr (5, fs))) (hMm : ∀ z : Nat, Met l yX6_scratch wsX6_scratch rm (va_Pc [.ref h0, .int a1, .int a2, .int a3] (fun U => U.heap.size = z ∧ va_P (dC, dI) vwCl Wm U.heap ∧ va_K (dC, dI) vwCl [(cI, .int), (cZ, .boolean)] U ∧ va_D (fun _ => True) Wm)) (va_Qv PM (fun u t => va_P (dC, dI) vwCl (NM u) t.heap ∧ va_K (dC, dI) vwCl [(cI, .int), (cZ, .boolean)] t ∧ va_D (va_A Wm z) (NM u)) (va_A Wm z)) 0 0 (va_A Wm z)) (hMt : ∀ (u : S2), PM u → Met l yX6_thrown wsX6_thrown ({ frames := 0, cells := 0, slots := 0, locals := 0 } : Room) (va_Pc [.ref h0] (fun U => va_P (dC, dI) vwCl (NM u) U.heap ∧ va_K (dC, dI) vwCl [(cI, .int), (cZ, .boolean)] U)) (vp_Si (fun r => r = nI kk)) 0 0 (fun _ => False)) (kc : ∀ (u : S) (u2 : S2) (H : Heap) (locs : List Loc) (ls : Array Slot), PX u → PM u2 → lv_has ls 7 [(4, .int (nI i)), (3, .ref u0), (2, .ref h0), (1, .ref x0), (0, .ref b)] → va_P (dC, dI) vwCl (([(u0, .inl (cJ, 1, .inr (.inl (fN u))))] ++ NW u) ++ NM u2) H → va_D (fun q => s.heap.size ≤ q) (([(u0, .inl (cJ, 1, .inr (.inl (fN u))))] ++ NW u) ++ NM u2) → va_S (fun q => s.heap.size ≤ q) s.heap H locs → W p l e room_1 s m #[Value.ref b] below meth c H locs (cells + 1) (slots + 6) Q (F0 m 772 ls [])) : W p l e room_1 s m #[Value.ref b] below meth c H locs cells slots Q (F0 m 265 ls []) := by
  obtain ⟨hx, hb, hml, hown, hts, hX, hbl, hK, hN, hXx, hY, hL⟩ := C
  have hKm := hK.sub (tys' := [(cI, .int), (cZ, .boolean)]) [0, 1] rfl
  refine lv_aload_n hx hb dL_law_265 rfl (lv_at hl 3 rfl) ?_
  refine lv_aload_n hx hb dL_law_266 rfl (lv_at hl 4 rfl) ?_
  refine lv_iload hx hb dL_law_267 (lv_at hl 0 rfl) ?_
  refine lv_iconst (v := nI 1) hx hb dL_law_269 (by decide) ?_
  refine qr_iadd (z := nI (i + 1)) hx hb dL_law_270 (nI_add _ _) ?_
  refine qz_sld hx hb hX hbl hS (by omega) hL dL_law_271 ?_
  rw [ha1]
  refine lv_aload_n hx hb dL_law_272 rfl (lv_at hl 4 rfl) ?_
  refine lv_iload hx hb dL_law_273 (lv_at hl 0 rfl) ?_
  refine lv_iconst (v := nI 2) hx hb dL_law_275 (by decide) ?_
  refine qr_iadd (z := nI (i + 2)) hx hb dL_law_276 (nI_add _ _) ?_
  refine qz_sld hx hb hX hbl hS (by omega) hL dL_law_277 ?_
  rw [ha2]
  refine lv_aload_n hx hb dL_law_278 rfl (lv_at hl 4 rfl) ?_
  refine lv_iload hx hb dL_law_279 (lv_at hl 0 rfl) ?_
  refine lv_iconst (v := nI 3) hx hb dL_law_281 (by decide) ?_
  refine qr_iadd (z := nI (i + 3)) hx hb dL_law_282 (nI_add _ _) ?_
  refine qz_sld hx hb hX hbl hS (by omega) hL dL_law_283 ?_
  rw [ha3]
  have hPc : va_P (dC, dI) vwCl ([(u0, .inl (cJ, 1, .inr (.inl fJ)))] ++ Wc) H := qj_PL hP
  have hDc : va_D (fun q => s.heap.size ≤ q) ([(u0, .inl (cJ, 1, .inr (.inl fJ)))] ++ Wc) := qj_DL hD
  have hFc := qj_free hDc hS (fun _ h => h)
  refine va_calli (vx_runSW (As := [.ref x0, .int a1, .int a2, .int a3]) (rest := []) ⟨hx, hb, hml, hown, hts⟩ (hMw H.size) (vx_cwSW 4 hts gL_law_L_scratch rfl rfl rfl (by decide +kernel) ⟨Nat.le_of_ble_eq_true rfl, Nat.le_of_ble_eq_true rfl⟩) ⟨fun a U g mk q => by obtain ⟨q0, q1, qP, qK, qD, qN, qX, qY⟩ := q; exact ⟨q0, q1, qP, va_K.moved (u := U) (U := U.calling g mk a) (Vm.Alike.refl U.vm) qK, qD, qn_same (u := U) rfl qN, qx_blind qX, qy_moved (u := U) (U := U.calling g mk a) (Vm.Alike.refl U.vm) qY⟩, fun U hU hW => ⟨rfl, by rw [hU], by rw [hU]; exact hPc, va_K.moved hW.alike hK, hDc.weaken (fun _ _ _ _ => trivial), qn_warm hW hN, qx_pre (A := (fun q => s.heap.size ≤ q)) (fun _ h => h) hS hW hU hXx, qy_moved hW.alike hY⟩⟩ rfl rfl hl.1 rfl (lv_room (Nat.le_of_ble_eq_true rfl)) dL_law_284 hrm) hS (fun q _ h => hFc q h) hFc (fun rv u t H1 locs ht hvm hw hB hz1 hk1 hS => ?_)
  obtain ⟨hP1, -, hD1⟩ := hB
  rw [ht] at hP1
  obtain ⟨hw1, hw2⟩ := hw
  subst hw1
  obtain ⟨hP, hD⟩ := qj_apL (X1 := ([(u0, .inl (cJ, 1, .inr (.inl (fN u))))] ++ NW u)) hP hD (qj_cons1 (hadw u)) hk1 hP1
  clear hz1 hk1 hPc hDc hFc hP1 hD1
  generalize H1 = H at hP hS ⊢
  refine lv_istore (lv' := [(5, .int (nI kk)), (4, .int (nI i)), (3, .ref u0), (2, .ref h0), (1, .ref x0), (0, .ref b)]) hx hb dL_law_287 hl (by decide) rfl (fun ls hl => ?_)
  refine lv_aload_n hx hb dL_law_289 rfl (lv_at hl 3 rfl) ?_
  refine lv_aload_n hx hb dL_law_290 rfl (lv_at hl 5 rfl) ?_
  refine lv_iload hx hb dL_law_291 (lv_at hl 1 rfl) ?_
  refine lv_iconst (v := nI 1) hx hb dL_law_293 (by decide) ?_
  refine qr_iadd (z := nI (i + 1)) hx hb dL_law_294 (nI_add _ _) ?_
  refine qz_sld hx hb hX hbl hS (by omega) hL dL_law_295 ?_
  rw [ha1]
  refine lv_aload_n hx hb dL_law_296 rfl (lv_at hl 5 rfl) ?_
  refine lv_iload hx hb dL_law_297 (lv_at hl 1 rfl) ?_
  refine lv_iconst (v := nI 2) hx hb dL_law_299 (by decide) ?_
  refine qr_iadd (z := nI (i + 2)) hx hb dL_law_300 (nI_add _ _) ?_
  refine qz_sld hx hb hX hbl hS (by omega) hL dL_law_301 ?_
  rw [ha2]
  refine lv_aload_n hx hb dL_law_302 rfl (lv_at hl 5 rfl) ?_
  refine lv_iload hx hb dL_law_303 (lv_at hl 1 rfl) ?_
  refine lv_iconst (v := nI 3) hx hb dL_law_305 (by decide) ?_
  refine qr_iadd (z := nI (i + 3)) hx hb dL_law_306 (nI_add _ _) ?_
  refine qz_sld hx hb hX hbl hS (by omega) hL dL_law_307 ?_
  rw [ha3]
  have hPc : va_P (dC, dI) vwCl Wm H := qj_PR hP
  have hDc : va_D (fun q => s.heap.size ≤ q) Wm := qj_DR hD
  have hFc := qj_free hDc hS (fun _ h => h)
  refine va_callv (va_runV (As := [.int a1, .int a2, .int a3]) (rest := []) ⟨hx, hb, hml, hown, hts⟩ (hMm H.size) (cwV 3 hts gL_law_X6_scratch rfl hr9.1 hr9.2.1 (by decide +kernel) ⟨Nat.le_trans (Nat.succ_le_succ hr9.2.2.1) (Nat.le_of_ble_eq_true rfl), Nat.le_trans (Nat.add_le_add_left hr9.2.2.2 _) (Nat.le_of_ble_eq_true rfl)⟩) ⟨fun a U g mk q => by obtain ⟨q0, q1, qP, qK, qD⟩ := q; exact ⟨q0, q1, qP, va_K.moved (u := U) (U := U.calling g mk a) (Vm.Alike.refl U.vm) qK, qD⟩, va_recv (q0 := 0) (ci := 5) hKm hPc rfl hm0, fun U hU hW => ⟨rfl, by rw [hU], by rw [hU]; exact hPc, va_K.moved hW.alike hKm, hDc.weaken (fun _ _ _ _ => trivial)⟩⟩ rfl rfl hl.1 rfl (lv_room (Nat.le_of_ble_eq_true rfl)) dL_law_308 hrm) hS (fun q _ h => hFc q h) hFc (fun u2 t H1 locs ht hvm hpm hB hz1 hk1 hS => ?_)
  obtain ⟨hP1, -, hD1⟩ := hB
  rw [ht] at hP1
  obtain ⟨hP, hD⟩ := qj_apR hP hD (hadm u2) hk1 hP1
  clear hz1 hk1 hPc hDc hFc hP1 hD1
  generalize H1 = H at hP hS ⊢
  refine lv_aload_n hx hb dL_law_311 rfl (lv_at hl 3 rfl) ?_
  obtain ⟨fs1, hf1⟩ := hm1 u2
  have hPc : va_P (dC, dI) vwCl (NM u2) H := qj_PR hP
  refine vp_callSi (va_Run.run (va_runV (As := []) (rest := []) ⟨hx, hb, hml, hown, hts⟩ (hMt u2 hpm) (cwV 0 hts gL_law_X6_thrown rfl rfl rfl (by decide +kernel) ⟨Nat.le_of_ble_eq_true rfl, Nat.le_of_ble_eq_true rfl⟩) ⟨fun a U g mk q => by obtain ⟨q0, qP, qK⟩ := q; exact ⟨q0, qP, va_K.moved (u := U) (U := U.calling g mk a) (Vm.Alike.refl U.vm) qK⟩, va_recv (q0 := 0) (ci := 5) hKm hPc rfl hf1, fun U hU hW => ⟨rfl, by rw [hU]; exact hPc, va_K.moved hW.alike hKm⟩⟩ rfl rfl hl.1 rfl (lv_room (Nat.le_of_ble_eq_true rfl)) dL_law_312 hrm)) (fun rt hrt => ?_)
  have hrt : rt = nI kk := hrt
  subst hrt
  refine lv_iload hx hb dL_law_315 (lv_at hl 0 rfl) ?_
  refine qr_eqN (tgt := 322) hx hb dL_law_317 rfl (by omega) (by omega) (fun _ => ?_) (fun h => absurd rfl h)
  refine lv_goto (tgt := 772) hx hb dL_law_322 rfl ?_
  have hl := lv_sub (l' := [(4, .int (nI i)), (3, .ref u0), (2, .ref h0), (1, .ref x0), (0, .ref b)]) hl [1, 2, 3, 4, 5] rfl
  exact kc u u2 H _ ls hw2 hpm hl hP hD hS
set_option maxHeartbeats 4000000 in
set_option maxRecDepth 100000 in
theorem qz_burst {p : Program} {l : Launch} {e : Env} {s : State} {m : MethodId} {below : List Frame} {meth : Method} {c : Code} {dC : Nat → ClassId} {dI : Nat → Nat → Nat} {cI cZ cG cJ : ClassId} {b L : Nat} {xs : Nat → Int32} (C : qz_C p s m c dC dI cI cZ cG cJ b L xs) {Q : State → Prop} {H : Heap} {locs : List Loc} {cells slots : Nat} {ls : Array Slot} {x0 h0 u0 i : Nat} {fJ : Nat → Int64} {Wc Wm : va_W} {fm : List Value} (hi : i + 4 ≤ L) (hrm : cells + 1 ≤ room_1.cells ∧ slots + 6 ≤ room_1.slots) (hl : lv_has ls 7 [(4, .int (nI i)), (3, .ref u0), (2, .ref h0), (1, .ref x0), (0, .ref b)]) (hP : va_P (dC, dI) vwCl (([(u0, .inl (cJ, 1, .inr (.inl fJ)))] ++ Wc) ++ Wm) H) (hD : va_D (fun q => s.heap.size ≤ q) (([(u0, .inl (cJ, 1, .inr (.inl fJ)))] ++ Wc) ++ Wm)) (hS : va_S (fun q => s.heap.size ≤ q) s.heap H locs) (a1 : Int32) (ha1 : xs (i + 1) = a1) (a2 : Int32) (ha2 : xs (i + 2) = a2) (a3 : Int32) (ha3 : xs (i + 3) = a3) (kk : Nat) (hkk : kk < 4) (S : Type) (PX : S → Prop) (fN : S → Nat → Int64) (NW : S → va_W) (hadw : ∀ u, (NW u).map (fun q => q.1) = Wc.map (fun q => q.1)) (hMw : ∀ z : Nat, Met l yL_burst wsL_burst ({ frames := 9, cells := 1, slots := 6, locals := 250 } : Room) (va_Pc [.ref x0, .int a1, .int a2, .int a3] (fun U => U.heap.size = z ∧ va_P (dC, dI) vwCl ([(u0, .inl (cJ, 1, .inr (.inl fJ)))] ++ Wc) U.heap ∧ va_K (dC, dI) vwCl [(cI, .int), (cZ, .boolean), (cG, .array .int), (cJ, .long)] U ∧ va_D (fun _ => True) ([(u0, .inl (cJ, 1, .inr (.inl fJ)))] ++ Wc) ∧ qn_N U ∧ qx_P U ∧ qy_P U)) (va_Qi (fun (r : Int32) (u : S) => r = nI kk ∧ PX u) (fun u t => va_P (dC, dI) vwCl ([(u0, .inl (cJ, 1, .inr (.inl (fN u))))] ++ NW u) t.heap ∧ va_K (dC, dI) vwCl [(cI, .int), (cZ, .boolean), (cG, .array .int), (cJ, .long)] t ∧ va_D (va_A ([(u0, .inl (cJ, 1, .inr (.inl fJ)))] ++ Wc) z) ([(u0, .inl (cJ, 1, .inr (.inl (fN u))))] ++ NW u)) (va_A ([(u0, .inl (cJ, 1, .inr (.inl fJ)))] ++ Wc) z)) 1 6 (va_A ([(u0, .inl (cJ, 1, .inr (.inl fJ)))] ++ Wc) z)) (S2 : Type) (PM : S2 → Prop) (NM : S2 → va_W) (hadm : ∀ u, (NM u).map (fun q => q.1) = Wm.map (fun q => q.1)) (rm : Room) (hr9 : rm.cells = 0 ∧ rm.slots = 0 ∧ rm.frames ≤ 8 ∧ rm.locals ≤ 200) (hm0 : Wm[0]? = some (h0, .inr (5, fm))) (hm1 : ∀ u, ∃ fs, (NM u)[0]? = some (h0, .inr (5, fs))) (hMm : ∀ z : Nat, Met l yX6_burst wsX6_burst rm (va_Pc [.ref h0, .int a1, .int a2, .int a3] (fun U => U.heap.size = z ∧ va_P (dC, dI) vwCl Wm U.heap ∧ va_K (dC, dI) vwCl [(cI, .int), (cZ, .boolean)] U ∧ va_D (fun _ => True) Wm)) (va_Qv PM (fun u t => va_P (dC, dI) vwCl (NM u) t.heap ∧ va_K (dC, dI) vwCl [(cI, .int), (cZ, .boolean)] t ∧ va_D (va_A Wm z) (NM u)) (va_A Wm z)) 0 0 (va_A Wm z)) (hMt : ∀ (u : S2), PM u → Met l yX6_thrown wsX6_thrown ({ frames := 0, cells := 0, slots := 0, locals := 0 } : Room) (va_Pc [.ref h0] (fun U => va_P (dC, dI) vwCl (NM u) U.heap ∧ va_K (dC, dI) vwCl [(cI, .int), (cZ, .boolean)] U)) (vp_Si (fun r => r = nI kk)) 0 0 (fun _ => False)) (kc : ∀ (u : S) (u2 : S2) (H : Heap) (locs : List Loc) (ls : Array Slot), PX u → PM u2 → lv_has ls 7 [(4, .int (nI i)), (3, .ref u0), (2, .ref h0), (1, .ref x0), (0, .ref b)] → va_P (dC, dI) vwCl (([(u0, .inl (cJ, 1, .inr (.inl (fN u))))] ++ NW u) ++ NM u2) H → va_D (fun q => s.heap.size ≤ q) (([(u0, .inl (cJ, 1, .inr (.inl (fN u))))] ++ NW u) ++ NM u2) → va_S (fun q => s.heap.size ≤ q) s.heap H locs → W p l e room_1 s m #[Value.ref b] below meth c H locs (cells + 1) (slots + 6) Q (F0 m 772 ls [])) : W p l e room_1 s m #[Value.ref b] below meth c H locs cells slots Q (F0 m 325 ls []) := by
  obtain ⟨hx, hb, hml, hown, hts, hX, hbl, hK, hN, hXx, hY, hL⟩ := C
  have hKm := hK.sub (tys' := [(cI, .int), (cZ, .boolean)]) [0, 1] rfl
  refine lv_aload_n hx hb dL_law_325 rfl (lv_at hl 3 rfl) ?_
  refine lv_aload_n hx hb dL_law_326 rfl (lv_at hl 4 rfl) ?_
  refine lv_iload hx hb dL_law_327 (lv_at hl 0 rfl) ?_
  refine lv_iconst (v := nI 1) hx hb dL_law_329 (by decide) ?_
  refine qr_iadd (z := nI (i + 1)) hx hb dL_law_330 (nI_add _ _) ?_
  refine qz_sld hx hb hX hbl hS (by omega) hL dL_law_331 ?_
  rw [ha1]
  refine lv_aload_n hx hb dL_law_332 rfl (lv_at hl 4 rfl) ?_
  refine lv_iload hx hb dL_law_333 (lv_at hl 0 rfl) ?_
  refine lv_iconst (v := nI 2) hx hb dL_law_335 (by decide) ?_
  refine qr_iadd (z := nI (i + 2)) hx hb dL_law_336 (nI_add _ _) ?_
  refine qz_sld hx hb hX hbl hS (by omega) hL dL_law_337 ?_
  rw [ha2]
  refine lv_aload_n hx hb dL_law_338 rfl (lv_at hl 4 rfl) ?_
  refine lv_iload hx hb dL_law_339 (lv_at hl 0 rfl) ?_
  refine lv_iconst (v := nI 3) hx hb dL_law_341 (by decide) ?_
  refine qr_iadd (z := nI (i + 3)) hx hb dL_law_342 (nI_add _ _) ?_
  refine qz_sld hx hb hX hbl hS (by omega) hL dL_law_343 ?_
  rw [ha3]
  have hPc : va_P (dC, dI) vwCl ([(u0, .inl (cJ, 1, .inr (.inl fJ)))] ++ Wc) H := qj_PL hP
  have hDc : va_D (fun q => s.heap.size ≤ q) ([(u0, .inl (cJ, 1, .inr (.inl fJ)))] ++ Wc) := qj_DL hD
  have hFc := qj_free hDc hS (fun _ h => h)
  refine va_calli (vx_runSW (As := [.ref x0, .int a1, .int a2, .int a3]) (rest := []) ⟨hx, hb, hml, hown, hts⟩ (hMw H.size) (vx_cwSW 4 hts gL_law_L_burst rfl rfl rfl (by decide +kernel) ⟨Nat.le_of_ble_eq_true rfl, Nat.le_of_ble_eq_true rfl⟩) ⟨fun a U g mk q => by obtain ⟨q0, q1, qP, qK, qD, qN, qX, qY⟩ := q; exact ⟨q0, q1, qP, va_K.moved (u := U) (U := U.calling g mk a) (Vm.Alike.refl U.vm) qK, qD, qn_same (u := U) rfl qN, qx_blind qX, qy_moved (u := U) (U := U.calling g mk a) (Vm.Alike.refl U.vm) qY⟩, fun U hU hW => ⟨rfl, by rw [hU], by rw [hU]; exact hPc, va_K.moved hW.alike hK, hDc.weaken (fun _ _ _ _ => trivial), qn_warm hW hN, qx_pre (A := (fun q => s.heap.size ≤ q)) (fun _ h => h) hS hW hU hXx, qy_moved hW.alike hY⟩⟩ rfl rfl hl.1 rfl (lv_room (Nat.le_of_ble_eq_true rfl)) dL_law_344 hrm) hS (fun q _ h => hFc q h) hFc (fun rv u t H1 locs ht hvm hw hB hz1 hk1 hS => ?_)
  obtain ⟨hP1, -, hD1⟩ := hB
  rw [ht] at hP1
  obtain ⟨hw1, hw2⟩ := hw
  subst hw1
  obtain ⟨hP, hD⟩ := qj_apL (X1 := ([(u0, .inl (cJ, 1, .inr (.inl (fN u))))] ++ NW u)) hP hD (qj_cons1 (hadw u)) hk1 hP1
  clear hz1 hk1 hPc hDc hFc hP1 hD1
  generalize H1 = H at hP hS ⊢
  refine lv_istore (lv' := [(5, .int (nI kk)), (4, .int (nI i)), (3, .ref u0), (2, .ref h0), (1, .ref x0), (0, .ref b)]) hx hb dL_law_347 hl (by decide) rfl (fun ls hl => ?_)
  refine lv_aload_n hx hb dL_law_349 rfl (lv_at hl 3 rfl) ?_
  refine lv_aload_n hx hb dL_law_350 rfl (lv_at hl 5 rfl) ?_
  refine lv_iload hx hb dL_law_351 (lv_at hl 1 rfl) ?_
  refine lv_iconst (v := nI 1) hx hb dL_law_353 (by decide) ?_
  refine qr_iadd (z := nI (i + 1)) hx hb dL_law_354 (nI_add _ _) ?_
  refine qz_sld hx hb hX hbl hS (by omega) hL dL_law_355 ?_
  rw [ha1]
  refine lv_aload_n hx hb dL_law_356 rfl (lv_at hl 5 rfl) ?_
  refine lv_iload hx hb dL_law_357 (lv_at hl 1 rfl) ?_
  refine lv_iconst (v := nI 2) hx hb dL_law_359 (by decide) ?_
  refine qr_iadd (z := nI (i + 2)) hx hb dL_law_360 (nI_add _ _) ?_
  refine qz_sld hx hb hX hbl hS (by omega) hL dL_law_361 ?_
  rw [ha2]
  refine lv_aload_n hx hb dL_law_362 rfl (lv_at hl 5 rfl) ?_
  refine lv_iload hx hb dL_law_363 (lv_at hl 1 rfl) ?_
  refine lv_iconst (v := nI 3) hx hb dL_law_365 (by decide) ?_
  refine qr_iadd (z := nI (i + 3)) hx hb dL_law_366 (nI_add _ _) ?_
  refine qz_sld hx hb hX hbl hS (by omega) hL dL_law_367 ?_
  rw [ha3]
  have hPc : va_P (dC, dI) vwCl Wm H := qj_PR hP
  have hDc : va_D (fun q => s.heap.size ≤ q) Wm := qj_DR hD
  have hFc := qj_free hDc hS (fun _ h => h)
  refine va_callv (va_runV (As := [.int a1, .int a2, .int a3]) (rest := []) ⟨hx, hb, hml, hown, hts⟩ (hMm H.size) (cwV 3 hts gL_law_X6_burst rfl hr9.1 hr9.2.1 (by decide +kernel) ⟨Nat.le_trans (Nat.succ_le_succ hr9.2.2.1) (Nat.le_of_ble_eq_true rfl), Nat.le_trans (Nat.add_le_add_left hr9.2.2.2 _) (Nat.le_of_ble_eq_true rfl)⟩) ⟨fun a U g mk q => by obtain ⟨q0, q1, qP, qK, qD⟩ := q; exact ⟨q0, q1, qP, va_K.moved (u := U) (U := U.calling g mk a) (Vm.Alike.refl U.vm) qK, qD⟩, va_recv (q0 := 0) (ci := 5) hKm hPc rfl hm0, fun U hU hW => ⟨rfl, by rw [hU], by rw [hU]; exact hPc, va_K.moved hW.alike hKm, hDc.weaken (fun _ _ _ _ => trivial)⟩⟩ rfl rfl hl.1 rfl (lv_room (Nat.le_of_ble_eq_true rfl)) dL_law_368 hrm) hS (fun q _ h => hFc q h) hFc (fun u2 t H1 locs ht hvm hpm hB hz1 hk1 hS => ?_)
  obtain ⟨hP1, -, hD1⟩ := hB
  rw [ht] at hP1
  obtain ⟨hP, hD⟩ := qj_apR hP hD (hadm u2) hk1 hP1
  clear hz1 hk1 hPc hDc hFc hP1 hD1
  generalize H1 = H at hP hS ⊢
  refine lv_aload_n hx hb dL_law_371 rfl (lv_at hl 3 rfl) ?_
  obtain ⟨fs1, hf1⟩ := hm1 u2
  have hPc : va_P (dC, dI) vwCl (NM u2) H := qj_PR hP
  refine vp_callSi (va_Run.run (va_runV (As := []) (rest := []) ⟨hx, hb, hml, hown, hts⟩ (hMt u2 hpm) (cwV 0 hts gL_law_X6_thrown rfl rfl rfl (by decide +kernel) ⟨Nat.le_of_ble_eq_true rfl, Nat.le_of_ble_eq_true rfl⟩) ⟨fun a U g mk q => by obtain ⟨q0, qP, qK⟩ := q; exact ⟨q0, qP, va_K.moved (u := U) (U := U.calling g mk a) (Vm.Alike.refl U.vm) qK⟩, va_recv (q0 := 0) (ci := 5) hKm hPc rfl hf1, fun U hU hW => ⟨rfl, by rw [hU]; exact hPc, va_K.moved hW.alike hKm⟩⟩ rfl rfl hl.1 rfl (lv_room (Nat.le_of_ble_eq_true rfl)) dL_law_372 hrm)) (fun rt hrt => ?_)
  have hrt : rt = nI kk := hrt
  subst hrt
  refine lv_iload hx hb dL_law_375 (lv_at hl 0 rfl) ?_
  refine qr_eqN (tgt := 382) hx hb dL_law_377 rfl (by omega) (by omega) (fun _ => ?_) (fun h => absurd rfl h)
  refine lv_goto (tgt := 772) hx hb dL_law_382 rfl ?_
  have hl := lv_sub (l' := [(4, .int (nI i)), (3, .ref u0), (2, .ref h0), (1, .ref x0), (0, .ref b)]) hl [1, 2, 3, 4, 5] rfl
  exact kc u u2 H _ ls hw2 hpm hl hP hD hS
set_option maxHeartbeats 4000000 in
set_option maxRecDepth 100000 in
theorem qz_read {p : Program} {l : Launch} {e : Env} {s : State} {m : MethodId} {below : List Frame} {meth : Method} {c : Code} {dC : Nat → ClassId} {dI : Nat → Nat → Nat} {cI cZ cG cJ : ClassId} {b L : Nat} {xs : Nat → Int32} (C : qz_C p s m c dC dI cI cZ cG cJ b L xs) {Q : State → Prop} {H : Heap} {locs : List Loc} {cells slots : Nat} {ls : Array Slot} {x0 h0 u0 i : Nat} {fJ : Nat → Int64} {Wc Wm : va_W} {fm : List Value} (hi : i + 4 ≤ L) (hrm : cells + 1 ≤ room_1.cells ∧ slots + 6 ≤ room_1.slots) (hl : lv_has ls 7 [(4, .int (nI i)), (3, .ref u0), (2, .ref h0), (1, .ref x0), (0, .ref b)]) (hP : va_P (dC, dI) vwCl (([(u0, .inl (cJ, 1, .inr (.inl fJ)))] ++ Wc) ++ Wm) H) (hD : va_D (fun q => s.heap.size ≤ q) (([(u0, .inl (cJ, 1, .inr (.inl fJ)))] ++ Wc) ++ Wm)) (hS : va_S (fun q => s.heap.size ≤ q) s.heap H locs) (kk : Nat) (hkk : kk < 4) (S : Type) (PX : S → Prop) (fN : S → Nat → Int64) (NW : S → va_W) (hadw : ∀ u, (NW u).map (fun q => q.1) = Wc.map (fun q => q.1)) (hMw : ∀ z : Nat, Met l yL_read wsL_read ({ frames := 9, cells := 1, slots := 6, locals := 250 } : Room) (va_Pc [.ref x0, .ref u0] (fun U => U.heap.size = z ∧ va_P (dC, dI) vwCl ([(u0, .inl (cJ, 1, .inr (.inl fJ)))] ++ Wc) U.heap ∧ va_K (dC, dI) vwCl [(cI, .int), (cZ, .boolean), (cG, .array .int), (cJ, .long)] U ∧ va_D (fun _ => True) ([(u0, .inl (cJ, 1, .inr (.inl fJ)))] ++ Wc) ∧ qn_N U ∧ qx_P U ∧ qy_P U)) (va_Qi (fun (r : Int32) (u : S) => r = nI kk ∧ PX u) (fun u t => va_P (dC, dI) vwCl ([(u0, .inl (cJ, 1, .inr (.inl (fN u))))] ++ NW u) t.heap ∧ va_K (dC, dI) vwCl [(cI, .int), (cZ, .boolean), (cG, .array .int), (cJ, .long)] t ∧ va_D (va_A ([(u0, .inl (cJ, 1, .inr (.inl fJ)))] ++ Wc) z) ([(u0, .inl (cJ, 1, .inr (.inl (fN u))))] ++ NW u)) (va_A ([(u0, .inl (cJ, 1, .inr (.inl fJ)))] ++ Wc) z)) 1 6 (va_A ([(u0, .inl (cJ, 1, .inr (.inl fJ)))] ++ Wc) z)) (S2 : Type) (PM : Int32 → S2 → Prop) (NM : S2 → va_W) (hadm : ∀ u, (NM u).map (fun q => q.1) = Wm.map (fun q => q.1)) (rm : Room) (hr9 : rm.cells = 0 ∧ rm.slots = 0 ∧ rm.frames ≤ 8 ∧ rm.locals ≤ 200) (hm0 : Wm[0]? = some (h0, .inr (5, fm))) (hm1 : ∀ u, ∃ fs, (NM u)[0]? = some (h0, .inr (5, fs))) (hMm : ∀ z : Nat, Met l yX6_read wsX6_read rm (va_Pc [.ref h0] (fun U => U.heap.size = z ∧ va_P (dC, dI) vwCl Wm U.heap ∧ va_K (dC, dI) vwCl [(cI, .int), (cZ, .boolean)] U ∧ va_D (fun _ => True) Wm)) (va_Qi PM (fun u t => va_P (dC, dI) vwCl (NM u) t.heap ∧ va_K (dC, dI) vwCl [(cI, .int), (cZ, .boolean)] t ∧ va_D (va_A Wm z) (NM u)) (va_A Wm z)) 0 0 (va_A Wm z)) (hMt : ∀ (r : Int32) (u : S2), PM r u → Met l yX6_thrown wsX6_thrown ({ frames := 0, cells := 0, slots := 0, locals := 0 } : Room) (va_Pc [.ref h0] (fun U => va_P (dC, dI) vwCl (NM u) U.heap ∧ va_K (dC, dI) vwCl [(cI, .int), (cZ, .boolean)] U)) (vp_Si (fun r => r = nI kk)) 0 0 (fun _ => False)) (heq : kk = 0 → ∀ (u : S) (r : Int32) (u2 : S2), PX u → PM r u2 → fN u 0 = r.toInt64) (kc : ∀ (u : S) (r : Int32) (u2 : S2) (H : Heap) (locs : List Loc) (ls : Array Slot), PX u → PM r u2 → lv_has ls 7 [(4, .int (nI i)), (3, .ref u0), (2, .ref h0), (1, .ref x0), (0, .ref b)] → va_P (dC, dI) vwCl (([(u0, .inl (cJ, 1, .inr (.inl (fN u))))] ++ NW u) ++ NM u2) H → va_D (fun q => s.heap.size ≤ q) (([(u0, .inl (cJ, 1, .inr (.inl (fN u))))] ++ NW u) ++ NM u2) → va_S (fun q => s.heap.size ≤ q) s.heap H locs → W p l e room_1 s m #[Value.ref b] below meth c H locs (cells + 1) (slots + 6) Q (F0 m 772 ls [])) : W p l e room_1 s m #[Value.ref b] below meth c H locs cells slots Q (F0 m 385 ls []) := by
  obtain ⟨hx, hb, hml, hown, hts, hX, hbl, hK, hN, hXx, hY, hL⟩ := C
  have hKm := hK.sub (tys' := [(cI, .int), (cZ, .boolean)]) [0, 1] rfl
  refine lv_aload_n hx hb dL_law_385 rfl (lv_at hl 3 rfl) ?_
  refine lv_aload_n hx hb dL_law_386 rfl (lv_at hl 1 rfl) ?_
  have hPc : va_P (dC, dI) vwCl ([(u0, .inl (cJ, 1, .inr (.inl fJ)))] ++ Wc) H := qj_PL hP
  have hDc : va_D (fun q => s.heap.size ≤ q) ([(u0, .inl (cJ, 1, .inr (.inl fJ)))] ++ Wc) := qj_DL hD
  have hFc := qj_free hDc hS (fun _ h => h)
  refine va_calli (vx_runSW (As := [.ref x0, .ref u0]) (rest := []) ⟨hx, hb, hml, hown, hts⟩ (hMw H.size) (vx_cwSW 2 hts gL_law_L_read rfl rfl rfl (by decide +kernel) ⟨Nat.le_of_ble_eq_true rfl, Nat.le_of_ble_eq_true rfl⟩) ⟨fun a U g mk q => by obtain ⟨q0, q1, qP, qK, qD, qN, qX, qY⟩ := q; exact ⟨q0, q1, qP, va_K.moved (u := U) (U := U.calling g mk a) (Vm.Alike.refl U.vm) qK, qD, qn_same (u := U) rfl qN, qx_blind qX, qy_moved (u := U) (U := U.calling g mk a) (Vm.Alike.refl U.vm) qY⟩, fun U hU hW => ⟨rfl, by rw [hU], by rw [hU]; exact hPc, va_K.moved hW.alike hK, hDc.weaken (fun _ _ _ _ => trivial), qn_warm hW hN, qx_pre (A := (fun q => s.heap.size ≤ q)) (fun _ h => h) hS hW hU hXx, qy_moved hW.alike hY⟩⟩ rfl rfl hl.1 rfl (lv_room (Nat.le_of_ble_eq_true rfl)) dL_law_387 hrm) hS (fun q _ h => hFc q h) hFc (fun rv u t H1 locs ht hvm hw hB hz1 hk1 hS => ?_)
  obtain ⟨hP1, -, hD1⟩ := hB
  rw [ht] at hP1
  obtain ⟨hw1, hw2⟩ := hw
  subst hw1
  obtain ⟨hP, hD⟩ := qj_apL (X1 := ([(u0, .inl (cJ, 1, .inr (.inl (fN u))))] ++ NW u)) hP hD (qj_cons1 (hadw u)) hk1 hP1
  clear hz1 hk1 hPc hDc hFc hP1 hD1
  generalize H1 = H at hP hS ⊢
  refine lv_istore (lv' := [(5, .int (nI kk)), (4, .int (nI i)), (3, .ref u0), (2, .ref h0), (1, .ref x0), (0, .ref b)]) hx hb dL_law_390 hl (by decide) rfl (fun ls hl => ?_)
  refine lv_aload_n hx hb dL_law_392 rfl (lv_at hl 3 rfl) ?_
  have hPc : va_P (dC, dI) vwCl Wm H := qj_PR hP
  have hDc : va_D (fun q => s.heap.size ≤ q) Wm := qj_DR hD
  have hFc := qj_free hDc hS (fun _ h => h)
  refine va_calli (va_runV (As := []) (rest := []) ⟨hx, hb, hml, hown, hts⟩ (hMm H.size) (cwV 0 hts gL_law_X6_read rfl hr9.1 hr9.2.1 (by decide +kernel) ⟨Nat.le_trans (Nat.succ_le_succ hr9.2.2.1) (Nat.le_of_ble_eq_true rfl), Nat.le_trans (Nat.add_le_add_left hr9.2.2.2 _) (Nat.le_of_ble_eq_true rfl)⟩) ⟨fun a U g mk q => by obtain ⟨q0, q1, qP, qK, qD⟩ := q; exact ⟨q0, q1, qP, va_K.moved (u := U) (U := U.calling g mk a) (Vm.Alike.refl U.vm) qK, qD⟩, va_recv (q0 := 0) (ci := 5) hKm hPc rfl hm0, fun U hU hW => ⟨rfl, by rw [hU], by rw [hU]; exact hPc, va_K.moved hW.alike hKm, hDc.weaken (fun _ _ _ _ => trivial)⟩⟩ rfl rfl hl.1 rfl (lv_room (Nat.le_of_ble_eq_true rfl)) dL_law_393 hrm) hS (fun q _ h => hFc q h) hFc (fun r u2 t H1 locs ht hvm hpm hB hz1 hk1 hS => ?_)
  obtain ⟨hP1, -, hD1⟩ := hB
  rw [ht] at hP1
  obtain ⟨hP, hD⟩ := qj_apR hP hD (hadm u2) hk1 hP1
  clear hz1 hk1 hPc hDc hFc hP1 hD1
  generalize H1 = H at hP hS ⊢
  refine lv_istore (lv' := [(6, .int r), (5, .int (nI kk)), (4, .int (nI i)), (3, .ref u0), (2, .ref h0), (1, .ref x0), (0, .ref b)]) hx hb dL_law_396 hl (by decide) rfl (fun ls hl => ?_)
  refine lv_aload_n hx hb dL_law_398 rfl (lv_at hl 4 rfl) ?_
  obtain ⟨fs1, hf1⟩ := hm1 u2
  have hPc : va_P (dC, dI) vwCl (NM u2) H := qj_PR hP
  refine vp_callSi (va_Run.run (va_runV (As := []) (rest := []) ⟨hx, hb, hml, hown, hts⟩ (hMt r u2 hpm) (cwV 0 hts gL_law_X6_thrown rfl rfl rfl (by decide +kernel) ⟨Nat.le_of_ble_eq_true rfl, Nat.le_of_ble_eq_true rfl⟩) ⟨fun a U g mk q => by obtain ⟨q0, qP, qK⟩ := q; exact ⟨q0, qP, va_K.moved (u := U) (U := U.calling g mk a) (Vm.Alike.refl U.vm) qK⟩, va_recv (q0 := 0) (ci := 5) hKm hPc rfl hf1, fun U hU hW => ⟨rfl, by rw [hU]; exact hPc, va_K.moved hW.alike hKm⟩⟩ rfl rfl hl.1 rfl (lv_room (Nat.le_of_ble_eq_true rfl)) dL_law_399 hrm)) (fun rt hrt => ?_)
  have hrt : rt = nI kk := hrt
  subst hrt
  refine lv_iload hx hb dL_law_402 (lv_at hl 1 rfl) ?_
  refine qr_eqN (tgt := 409) hx hb dL_law_404 rfl (by omega) (by omega) (fun _ => ?_) (fun h => absurd rfl h)
  refine lv_iload hx hb dL_law_409 (lv_at hl 1 rfl) ?_
  refine qr_ifneN (tgt := 426) hx hb dL_law_411 rfl (by omega) (fun _ => ?_) (fun hk0 => ?_)
  · refine lv_goto (tgt := 772) hx hb dL_law_426 rfl ?_
    have hl := lv_sub (l' := [(4, .int (nI i)), (3, .ref u0), (2, .ref h0), (1, .ref x0), (0, .ref b)]) hl [2, 3, 4, 5, 6] rfl
    exact kc u _ u2 H _ ls hw2 hpm hl hP hD hS
  · refine lv_aload_n hx hb dL_law_414 rfl (lv_at hl 3 rfl) ?_
    refine lv_iconst (v := nI 0) hx hb dL_law_415 (by decide) ?_
    refine va_lald hx hb hK hP 0 3 rfl rfl (vp_in_nI (by decide) (by decide)) dL_law_416 ?_
    rw [show (nI 0).toNatClampNeg = 0 from nI_clamp (by decide)]
    refine lv_iload hx hb dL_law_417 (lv_at hl 0 rfl) ?_
    refine lv_i2l (v := r.toInt64) hx hb dL_law_419 rfl ?_
    refine W.lcmp hx hb dL_law_420 ?_
    refine lv_if_eq (tgt := 426) hx hb dL_law_421 rfl (fun _ => ?_) (fun h => absurd ((lg_cmp_eq _ _).mpr (heq hk0 u r u2 hw2 hpm)) h)
    refine lv_goto (tgt := 772) hx hb dL_law_426 rfl ?_
    have hl := lv_sub (l' := [(4, .int (nI i)), (3, .ref u0), (2, .ref h0), (1, .ref x0), (0, .ref b)]) hl [2, 3, 4, 5, 6] rfl
    exact kc u _ u2 H _ ls hw2 hpm hl hP hD hS
set_option maxHeartbeats 4000000 in
set_option maxRecDepth 100000 in
theorem qz_out {p : Program} {l : Launch} {e : Env} {s : State} {m : MethodId} {below : List Frame} {meth : Method} {c : Code} {dC : Nat → ClassId} {dI : Nat → Nat → Nat} {cI cZ cG cJ : ClassId} {b L : Nat} {xs : Nat → Int32} (C : qz_C p s m c dC dI cI cZ cG cJ b L xs) {Q : State → Prop} {H : Heap} {locs : List Loc} {cells slots : Nat} {ls : Array Slot} {x0 h0 u0 i : Nat} {fJ : Nat → Int64} {Wc Wm : va_W} {fm : List Value} (hi : i + 4 ≤ L) (hrm : cells + 1 ≤ room_1.cells ∧ slots + 6 ≤ room_1.slots) (hl : lv_has ls 7 [(4, .int (nI i)), (3, .ref u0), (2, .ref h0), (1, .ref x0), (0, .ref b)]) (hP : va_P (dC, dI) vwCl (([(u0, .inl (cJ, 1, .inr (.inl fJ)))] ++ Wc) ++ Wm) H) (hD : va_D (fun q => s.heap.size ≤ q) (([(u0, .inl (cJ, 1, .inr (.inl fJ)))] ++ Wc) ++ Wm)) (hS : va_S (fun q => s.heap.size ≤ q) s.heap H locs) (a1 : Int32) (ha1 : xs (i + 1) = a1) (kk : Nat) (hkk : kk < 4) (S : Type) (PX : S → Prop) (fN : S → Nat → Int64) (NW : S → va_W) (hadw : ∀ u, (NW u).map (fun q => q.1) = Wc.map (fun q => q.1)) (hMw : ∀ z : Nat, Met l yL_out wsL_out ({ frames := 9, cells := 1, slots := 6, locals := 250 } : Room) (va_Pc [.ref x0, .int a1, .ref u0] (fun U => U.heap.size = z ∧ va_P (dC, dI) vwCl ([(u0, .inl (cJ, 1, .inr (.inl fJ)))] ++ Wc) U.heap ∧ va_K (dC, dI) vwCl [(cI, .int), (cZ, .boolean), (cG, .array .int), (cJ, .long)] U ∧ va_D (fun _ => True) ([(u0, .inl (cJ, 1, .inr (.inl fJ)))] ++ Wc) ∧ qn_N U ∧ qx_P U ∧ qy_P U)) (va_Qi (fun (r : Int32) (u : S) => r = nI kk ∧ PX u) (fun u t => va_P (dC, dI) vwCl ([(u0, .inl (cJ, 1, .inr (.inl (fN u))))] ++ NW u) t.heap ∧ va_K (dC, dI) vwCl [(cI, .int), (cZ, .boolean), (cG, .array .int), (cJ, .long)] t ∧ va_D (va_A ([(u0, .inl (cJ, 1, .inr (.inl fJ)))] ++ Wc) z) ([(u0, .inl (cJ, 1, .inr (.inl (fN u))))] ++ NW u)) (va_A ([(u0, .inl (cJ, 1, .inr (.inl fJ)))] ++ Wc) z)) 1 6 (va_A ([(u0, .inl (cJ, 1, .inr (.inl fJ)))] ++ Wc) z)) (S2 : Type) (PM : Int32 → S2 → Prop) (NM : S2 → va_W) (hadm : ∀ u, (NM u).map (fun q => q.1) = Wm.map (fun q => q.1)) (rm : Room) (hr9 : rm.cells = 0 ∧ rm.slots = 0 ∧ rm.frames ≤ 8 ∧ rm.locals ≤ 200) (hm0 : Wm[0]? = some (h0, .inr (5, fm))) (hm1 : ∀ u, ∃ fs, (NM u)[0]? = some (h0, .inr (5, fs))) (hMm : ∀ z : Nat, Met l yX6_out wsX6_out rm (va_Pc [.ref h0, .int a1] (fun U => U.heap.size = z ∧ va_P (dC, dI) vwCl Wm U.heap ∧ va_K (dC, dI) vwCl [(cI, .int), (cZ, .boolean)] U ∧ va_D (fun _ => True) Wm)) (va_Qi PM (fun u t => va_P (dC, dI) vwCl (NM u) t.heap ∧ va_K (dC, dI) vwCl [(cI, .int), (cZ, .boolean)] t ∧ va_D (va_A Wm z) (NM u)) (va_A Wm z)) 0 0 (va_A Wm z)) (hMt : ∀ (r : Int32) (u : S2), PM r u → Met l yX6_thrown wsX6_thrown ({ frames := 0, cells := 0, slots := 0, locals := 0 } : Room) (va_Pc [.ref h0] (fun U => va_P (dC, dI) vwCl (NM u) U.heap ∧ va_K (dC, dI) vwCl [(cI, .int), (cZ, .boolean)] U)) (vp_Si (fun r => r = nI kk)) 0 0 (fun _ => False)) (heq : kk = 0 → ∀ (u : S) (r : Int32) (u2 : S2), PX u → PM r u2 → fN u 0 = r.toInt64) (kc : ∀ (u : S) (r : Int32) (u2 : S2) (H : Heap) (locs : List Loc) (ls : Array Slot), PX u → PM r u2 → lv_has ls 7 [(4, .int (nI i)), (3, .ref u0), (2, .ref h0), (1, .ref x0), (0, .ref b)] → va_P (dC, dI) vwCl (([(u0, .inl (cJ, 1, .inr (.inl (fN u))))] ++ NW u) ++ NM u2) H → va_D (fun q => s.heap.size ≤ q) (([(u0, .inl (cJ, 1, .inr (.inl (fN u))))] ++ NW u) ++ NM u2) → va_S (fun q => s.heap.size ≤ q) s.heap H locs → W p l e room_1 s m #[Value.ref b] below meth c H locs (cells + 1) (slots + 6) Q (F0 m 772 ls [])) : W p l e room_1 s m #[Value.ref b] below meth c H locs cells slots Q (F0 m 429 ls []) := by
  obtain ⟨hx, hb, hml, hown, hts, hX, hbl, hK, hN, hXx, hY, hL⟩ := C
  have hKm := hK.sub (tys' := [(cI, .int), (cZ, .boolean)]) [0, 1] rfl
  refine lv_aload_n hx hb dL_law_429 rfl (lv_at hl 3 rfl) ?_
  refine lv_aload_n hx hb dL_law_430 rfl (lv_at hl 4 rfl) ?_
  refine lv_iload hx hb dL_law_431 (lv_at hl 0 rfl) ?_
  refine lv_iconst (v := nI 1) hx hb dL_law_433 (by decide) ?_
  refine qr_iadd (z := nI (i + 1)) hx hb dL_law_434 (nI_add _ _) ?_
  refine qz_sld hx hb hX hbl hS (by omega) hL dL_law_435 ?_
  rw [ha1]
  refine lv_aload_n hx hb dL_law_436 rfl (lv_at hl 1 rfl) ?_
  have hPc : va_P (dC, dI) vwCl ([(u0, .inl (cJ, 1, .inr (.inl fJ)))] ++ Wc) H := qj_PL hP
  have hDc : va_D (fun q => s.heap.size ≤ q) ([(u0, .inl (cJ, 1, .inr (.inl fJ)))] ++ Wc) := qj_DL hD
  have hFc := qj_free hDc hS (fun _ h => h)
  refine va_calli (vx_runSW (As := [.ref x0, .int a1, .ref u0]) (rest := []) ⟨hx, hb, hml, hown, hts⟩ (hMw H.size) (vx_cwSW 3 hts gL_law_L_out rfl rfl rfl (by decide +kernel) ⟨Nat.le_of_ble_eq_true rfl, Nat.le_of_ble_eq_true rfl⟩) ⟨fun a U g mk q => by obtain ⟨q0, q1, qP, qK, qD, qN, qX, qY⟩ := q; exact ⟨q0, q1, qP, va_K.moved (u := U) (U := U.calling g mk a) (Vm.Alike.refl U.vm) qK, qD, qn_same (u := U) rfl qN, qx_blind qX, qy_moved (u := U) (U := U.calling g mk a) (Vm.Alike.refl U.vm) qY⟩, fun U hU hW => ⟨rfl, by rw [hU], by rw [hU]; exact hPc, va_K.moved hW.alike hK, hDc.weaken (fun _ _ _ _ => trivial), qn_warm hW hN, qx_pre (A := (fun q => s.heap.size ≤ q)) (fun _ h => h) hS hW hU hXx, qy_moved hW.alike hY⟩⟩ rfl rfl hl.1 rfl (lv_room (Nat.le_of_ble_eq_true rfl)) dL_law_437 hrm) hS (fun q _ h => hFc q h) hFc (fun rv u t H1 locs ht hvm hw hB hz1 hk1 hS => ?_)
  obtain ⟨hP1, -, hD1⟩ := hB
  rw [ht] at hP1
  obtain ⟨hw1, hw2⟩ := hw
  subst hw1
  obtain ⟨hP, hD⟩ := qj_apL (X1 := ([(u0, .inl (cJ, 1, .inr (.inl (fN u))))] ++ NW u)) hP hD (qj_cons1 (hadw u)) hk1 hP1
  clear hz1 hk1 hPc hDc hFc hP1 hD1
  generalize H1 = H at hP hS ⊢
  refine lv_istore (lv' := [(5, .int (nI kk)), (4, .int (nI i)), (3, .ref u0), (2, .ref h0), (1, .ref x0), (0, .ref b)]) hx hb dL_law_440 hl (by decide) rfl (fun ls hl => ?_)
  refine lv_aload_n hx hb dL_law_442 rfl (lv_at hl 3 rfl) ?_
  refine lv_aload_n hx hb dL_law_443 rfl (lv_at hl 5 rfl) ?_
  refine lv_iload hx hb dL_law_444 (lv_at hl 1 rfl) ?_
  refine lv_iconst (v := nI 1) hx hb dL_law_446 (by decide) ?_
  refine qr_iadd (z := nI (i + 1)) hx hb dL_law_447 (nI_add _ _) ?_
  refine qz_sld hx hb hX hbl hS (by omega) hL dL_law_448 ?_
  rw [ha1]
  have hPc : va_P (dC, dI) vwCl Wm H := qj_PR hP
  have hDc : va_D (fun q => s.heap.size ≤ q) Wm := qj_DR hD
  have hFc := qj_free hDc hS (fun _ h => h)
  refine va_calli (va_runV (As := [.int a1]) (rest := []) ⟨hx, hb, hml, hown, hts⟩ (hMm H.size) (cwV 1 hts gL_law_X6_out rfl hr9.1 hr9.2.1 (by decide +kernel) ⟨Nat.le_trans (Nat.succ_le_succ hr9.2.2.1) (Nat.le_of_ble_eq_true rfl), Nat.le_trans (Nat.add_le_add_left hr9.2.2.2 _) (Nat.le_of_ble_eq_true rfl)⟩) ⟨fun a U g mk q => by obtain ⟨q0, q1, qP, qK, qD⟩ := q; exact ⟨q0, q1, qP, va_K.moved (u := U) (U := U.calling g mk a) (Vm.Alike.refl U.vm) qK, qD⟩, va_recv (q0 := 0) (ci := 5) hKm hPc rfl hm0, fun U hU hW => ⟨rfl, by rw [hU], by rw [hU]; exact hPc, va_K.moved hW.alike hKm, hDc.weaken (fun _ _ _ _ => trivial)⟩⟩ rfl rfl hl.1 rfl (lv_room (Nat.le_of_ble_eq_true rfl)) dL_law_449 hrm) hS (fun q _ h => hFc q h) hFc (fun r u2 t H1 locs ht hvm hpm hB hz1 hk1 hS => ?_)
  obtain ⟨hP1, -, hD1⟩ := hB
  rw [ht] at hP1
  obtain ⟨hP, hD⟩ := qj_apR hP hD (hadm u2) hk1 hP1
  clear hz1 hk1 hPc hDc hFc hP1 hD1
  generalize H1 = H at hP hS ⊢
  refine lv_istore (lv' := [(6, .int r), (5, .int (nI kk)), (4, .int (nI i)), (3, .ref u0), (2, .ref h0), (1, .ref x0), (0, .ref b)]) hx hb dL_law_452 hl (by decide) rfl (fun ls hl => ?_)
  refine lv_aload_n hx hb dL_law_454 rfl (lv_at hl 4 rfl) ?_
  obtain ⟨fs1, hf1⟩ := hm1 u2
  have hPc : va_P (dC, dI) vwCl (NM u2) H := qj_PR hP
  refine vp_callSi (va_Run.run (va_runV (As := []) (rest := []) ⟨hx, hb, hml, hown, hts⟩ (hMt r u2 hpm) (cwV 0 hts gL_law_X6_thrown rfl rfl rfl (by decide +kernel) ⟨Nat.le_of_ble_eq_true rfl, Nat.le_of_ble_eq_true rfl⟩) ⟨fun a U g mk q => by obtain ⟨q0, qP, qK⟩ := q; exact ⟨q0, qP, va_K.moved (u := U) (U := U.calling g mk a) (Vm.Alike.refl U.vm) qK⟩, va_recv (q0 := 0) (ci := 5) hKm hPc rfl hf1, fun U hU hW => ⟨rfl, by rw [hU]; exact hPc, va_K.moved hW.alike hKm⟩⟩ rfl rfl hl.1 rfl (lv_room (Nat.le_of_ble_eq_true rfl)) dL_law_455 hrm)) (fun rt hrt => ?_)
  have hrt : rt = nI kk := hrt
  subst hrt
  refine lv_iload hx hb dL_law_458 (lv_at hl 1 rfl) ?_
  refine qr_eqN (tgt := 465) hx hb dL_law_460 rfl (by omega) (by omega) (fun _ => ?_) (fun h => absurd rfl h)
  refine lv_iload hx hb dL_law_465 (lv_at hl 1 rfl) ?_
  refine qr_ifneN (tgt := 482) hx hb dL_law_467 rfl (by omega) (fun _ => ?_) (fun hk0 => ?_)
  · refine lv_goto (tgt := 772) hx hb dL_law_482 rfl ?_
    have hl := lv_sub (l' := [(4, .int (nI i)), (3, .ref u0), (2, .ref h0), (1, .ref x0), (0, .ref b)]) hl [2, 3, 4, 5, 6] rfl
    exact kc u _ u2 H _ ls hw2 hpm hl hP hD hS
  · refine lv_aload_n hx hb dL_law_470 rfl (lv_at hl 3 rfl) ?_
    refine lv_iconst (v := nI 0) hx hb dL_law_471 (by decide) ?_
    refine va_lald hx hb hK hP 0 3 rfl rfl (vp_in_nI (by decide) (by decide)) dL_law_472 ?_
    rw [show (nI 0).toNatClampNeg = 0 from nI_clamp (by decide)]
    refine lv_iload hx hb dL_law_473 (lv_at hl 0 rfl) ?_
    refine lv_i2l (v := r.toInt64) hx hb dL_law_475 rfl ?_
    refine W.lcmp hx hb dL_law_476 ?_
    refine lv_if_eq (tgt := 482) hx hb dL_law_477 rfl (fun _ => ?_) (fun h => absurd ((lg_cmp_eq _ _).mpr (heq hk0 u r u2 hw2 hpm)) h)
    refine lv_goto (tgt := 772) hx hb dL_law_482 rfl ?_
    have hl := lv_sub (l' := [(4, .int (nI i)), (3, .ref u0), (2, .ref h0), (1, .ref x0), (0, .ref b)]) hl [2, 3, 4, 5, 6] rfl
    exact kc u _ u2 H _ ls hw2 hpm hl hP hD hS
set_option maxHeartbeats 4000000 in
set_option maxRecDepth 100000 in
theorem qz_flagged {p : Program} {l : Launch} {e : Env} {s : State} {m : MethodId} {below : List Frame} {meth : Method} {c : Code} {dC : Nat → ClassId} {dI : Nat → Nat → Nat} {cI cZ cG cJ : ClassId} {b L : Nat} {xs : Nat → Int32} (C : qz_C p s m c dC dI cI cZ cG cJ b L xs) {Q : State → Prop} {H : Heap} {locs : List Loc} {cells slots : Nat} {ls : Array Slot} {x0 h0 u0 i : Nat} {fJ : Nat → Int64} {Wc Wm : va_W} {fm : List Value} (hi : i + 4 ≤ L) (hrm : cells + 1 ≤ room_1.cells ∧ slots + 6 ≤ room_1.slots) (hl : lv_has ls 7 [(4, .int (nI i)), (3, .ref u0), (2, .ref h0), (1, .ref x0), (0, .ref b)]) (hP : va_P (dC, dI) vwCl (([(u0, .inl (cJ, 1, .inr (.inl fJ)))] ++ Wc) ++ Wm) H) (hD : va_D (fun q => s.heap.size ≤ q) (([(u0, .inl (cJ, 1, .inr (.inl fJ)))] ++ Wc) ++ Wm)) (hS : va_S (fun q => s.heap.size ≤ q) s.heap H locs) (a1 : Int32) (ha1 : xs (i + 1) = a1) (kk : Nat) (hkk : kk < 4) (S : Type) (PX : S → Prop) (fN : S → Nat → Int64) (NW : S → va_W) (hadw : ∀ u, (NW u).map (fun q => q.1) = Wc.map (fun q => q.1)) (hMw : ∀ z : Nat, Met l yL_flagged wsL_flagged ({ frames := 9, cells := 1, slots := 6, locals := 250 } : Room) (va_Pc [.ref x0, .int a1, .ref u0] (fun U => U.heap.size = z ∧ va_P (dC, dI) vwCl ([(u0, .inl (cJ, 1, .inr (.inl fJ)))] ++ Wc) U.heap ∧ va_K (dC, dI) vwCl [(cI, .int), (cZ, .boolean), (cG, .array .int), (cJ, .long)] U ∧ va_D (fun _ => True) ([(u0, .inl (cJ, 1, .inr (.inl fJ)))] ++ Wc) ∧ qn_N U ∧ qx_P U ∧ qy_P U)) (va_Qi (fun (r : Int32) (u : S) => r = nI kk ∧ PX u) (fun u t => va_P (dC, dI) vwCl ([(u0, .inl (cJ, 1, .inr (.inl (fN u))))] ++ NW u) t.heap ∧ va_K (dC, dI) vwCl [(cI, .int), (cZ, .boolean), (cG, .array .int), (cJ, .long)] t ∧ va_D (va_A ([(u0, .inl (cJ, 1, .inr (.inl fJ)))] ++ Wc) z) ([(u0, .inl (cJ, 1, .inr (.inl (fN u))))] ++ NW u)) (va_A ([(u0, .inl (cJ, 1, .inr (.inl fJ)))] ++ Wc) z)) 1 6 (va_A ([(u0, .inl (cJ, 1, .inr (.inl fJ)))] ++ Wc) z)) (S2 : Type) (PM : Int32 → S2 → Prop) (NM : S2 → va_W) (hadm : ∀ u, (NM u).map (fun q => q.1) = Wm.map (fun q => q.1)) (rm : Room) (hr9 : rm.cells = 0 ∧ rm.slots = 0 ∧ rm.frames ≤ 8 ∧ rm.locals ≤ 200) (hm0 : Wm[0]? = some (h0, .inr (5, fm))) (hm1 : ∀ u, ∃ fs, (NM u)[0]? = some (h0, .inr (5, fs))) (hMm : ∀ z : Nat, Met l yX6_flagged wsX6_flagged rm (va_Pc [.ref h0, .int a1] (fun U => U.heap.size = z ∧ va_P (dC, dI) vwCl Wm U.heap ∧ va_K (dC, dI) vwCl [(cI, .int), (cZ, .boolean)] U ∧ va_D (fun _ => True) Wm)) (va_Qi PM (fun u t => va_P (dC, dI) vwCl (NM u) t.heap ∧ va_K (dC, dI) vwCl [(cI, .int), (cZ, .boolean)] t ∧ va_D (va_A Wm z) (NM u)) (va_A Wm z)) 0 0 (va_A Wm z)) (hMt : ∀ (r : Int32) (u : S2), PM r u → Met l yX6_thrown wsX6_thrown ({ frames := 0, cells := 0, slots := 0, locals := 0 } : Room) (va_Pc [.ref h0] (fun U => va_P (dC, dI) vwCl (NM u) U.heap ∧ va_K (dC, dI) vwCl [(cI, .int), (cZ, .boolean)] U)) (vp_Si (fun r => r = nI kk)) 0 0 (fun _ => False)) (heq : ∀ (r : Int32) (u2 : S2), PM r u2 → ∃ bb : Bool, r = zI bb ∧ (kk = 0 → ∀ u : S, PX u → fN u 0 = cond bb 1 0)) (kc : ∀ (u : S) (r : Int32) (u2 : S2) (H : Heap) (locs : List Loc) (ls : Array Slot), PX u → PM r u2 → lv_has ls 7 [(4, .int (nI i)), (3, .ref u0), (2, .ref h0), (1, .ref x0), (0, .ref b)] → va_P (dC, dI) vwCl (([(u0, .inl (cJ, 1, .inr (.inl (fN u))))] ++ NW u) ++ NM u2) H → va_D (fun q => s.heap.size ≤ q) (([(u0, .inl (cJ, 1, .inr (.inl (fN u))))] ++ NW u) ++ NM u2) → va_S (fun q => s.heap.size ≤ q) s.heap H locs → W p l e room_1 s m #[Value.ref b] below meth c H locs (cells + 1) (slots + 6) Q (F0 m 772 ls [])) : W p l e room_1 s m #[Value.ref b] below meth c H locs cells slots Q (F0 m 485 ls []) := by
  obtain ⟨hx, hb, hml, hown, hts, hX, hbl, hK, hN, hXx, hY, hL⟩ := C
  have hKm := hK.sub (tys' := [(cI, .int), (cZ, .boolean)]) [0, 1] rfl
  refine lv_aload_n hx hb dL_law_485 rfl (lv_at hl 3 rfl) ?_
  refine lv_aload_n hx hb dL_law_486 rfl (lv_at hl 4 rfl) ?_
  refine lv_iload hx hb dL_law_487 (lv_at hl 0 rfl) ?_
  refine lv_iconst (v := nI 1) hx hb dL_law_489 (by decide) ?_
  refine qr_iadd (z := nI (i + 1)) hx hb dL_law_490 (nI_add _ _) ?_
  refine qz_sld hx hb hX hbl hS (by omega) hL dL_law_491 ?_
  rw [ha1]
  refine lv_aload_n hx hb dL_law_492 rfl (lv_at hl 1 rfl) ?_
  have hPc : va_P (dC, dI) vwCl ([(u0, .inl (cJ, 1, .inr (.inl fJ)))] ++ Wc) H := qj_PL hP
  have hDc : va_D (fun q => s.heap.size ≤ q) ([(u0, .inl (cJ, 1, .inr (.inl fJ)))] ++ Wc) := qj_DL hD
  have hFc := qj_free hDc hS (fun _ h => h)
  refine va_calli (vx_runSW (As := [.ref x0, .int a1, .ref u0]) (rest := []) ⟨hx, hb, hml, hown, hts⟩ (hMw H.size) (vx_cwSW 3 hts gL_law_L_flagged rfl rfl rfl (by decide +kernel) ⟨Nat.le_of_ble_eq_true rfl, Nat.le_of_ble_eq_true rfl⟩) ⟨fun a U g mk q => by obtain ⟨q0, q1, qP, qK, qD, qN, qX, qY⟩ := q; exact ⟨q0, q1, qP, va_K.moved (u := U) (U := U.calling g mk a) (Vm.Alike.refl U.vm) qK, qD, qn_same (u := U) rfl qN, qx_blind qX, qy_moved (u := U) (U := U.calling g mk a) (Vm.Alike.refl U.vm) qY⟩, fun U hU hW => ⟨rfl, by rw [hU], by rw [hU]; exact hPc, va_K.moved hW.alike hK, hDc.weaken (fun _ _ _ _ => trivial), qn_warm hW hN, qx_pre (A := (fun q => s.heap.size ≤ q)) (fun _ h => h) hS hW hU hXx, qy_moved hW.alike hY⟩⟩ rfl rfl hl.1 rfl (lv_room (Nat.le_of_ble_eq_true rfl)) dL_law_493 hrm) hS (fun q _ h => hFc q h) hFc (fun rv u t H1 locs ht hvm hw hB hz1 hk1 hS => ?_)
  obtain ⟨hP1, -, hD1⟩ := hB
  rw [ht] at hP1
  obtain ⟨hw1, hw2⟩ := hw
  subst hw1
  obtain ⟨hP, hD⟩ := qj_apL (X1 := ([(u0, .inl (cJ, 1, .inr (.inl (fN u))))] ++ NW u)) hP hD (qj_cons1 (hadw u)) hk1 hP1
  clear hz1 hk1 hPc hDc hFc hP1 hD1
  generalize H1 = H at hP hS ⊢
  refine lv_istore (lv' := [(5, .int (nI kk)), (4, .int (nI i)), (3, .ref u0), (2, .ref h0), (1, .ref x0), (0, .ref b)]) hx hb dL_law_496 hl (by decide) rfl (fun ls hl => ?_)
  refine lv_aload_n hx hb dL_law_498 rfl (lv_at hl 3 rfl) ?_
  refine lv_aload_n hx hb dL_law_499 rfl (lv_at hl 5 rfl) ?_
  refine lv_iload hx hb dL_law_500 (lv_at hl 1 rfl) ?_
  refine lv_iconst (v := nI 1) hx hb dL_law_502 (by decide) ?_
  refine qr_iadd (z := nI (i + 1)) hx hb dL_law_503 (nI_add _ _) ?_
  refine qz_sld hx hb hX hbl hS (by omega) hL dL_law_504 ?_
  rw [ha1]
  have hPc : va_P (dC, dI) vwCl Wm H := qj_PR hP
  have hDc : va_D (fun q => s.heap.size ≤ q) Wm := qj_DR hD
  have hFc := qj_free hDc hS (fun _ h => h)
  refine va_calli (va_runV (As := [.int a1]) (rest := []) ⟨hx, hb, hml, hown, hts⟩ (hMm H.size) (cwV 1 hts gL_law_X6_flagged rfl hr9.1 hr9.2.1 (by decide +kernel) ⟨Nat.le_trans (Nat.succ_le_succ hr9.2.2.1) (Nat.le_of_ble_eq_true rfl), Nat.le_trans (Nat.add_le_add_left hr9.2.2.2 _) (Nat.le_of_ble_eq_true rfl)⟩) ⟨fun a U g mk q => by obtain ⟨q0, q1, qP, qK, qD⟩ := q; exact ⟨q0, q1, qP, va_K.moved (u := U) (U := U.calling g mk a) (Vm.Alike.refl U.vm) qK, qD⟩, va_recv (q0 := 0) (ci := 5) hKm hPc rfl hm0, fun U hU hW => ⟨rfl, by rw [hU], by rw [hU]; exact hPc, va_K.moved hW.alike hKm, hDc.weaken (fun _ _ _ _ => trivial)⟩⟩ rfl rfl hl.1 rfl (lv_room (Nat.le_of_ble_eq_true rfl)) dL_law_505 hrm) hS (fun q _ h => hFc q h) hFc (fun r u2 t H1 locs ht hvm hpm hB hz1 hk1 hS => ?_)
  obtain ⟨hP1, -, hD1⟩ := hB
  rw [ht] at hP1
  obtain ⟨hP, hD⟩ := qj_apR hP hD (hadm u2) hk1 hP1
  clear hz1 hk1 hPc hDc hFc hP1 hD1
  generalize H1 = H at hP hS ⊢
  refine lv_istore (lv' := [(6, .int r), (5, .int (nI kk)), (4, .int (nI i)), (3, .ref u0), (2, .ref h0), (1, .ref x0), (0, .ref b)]) hx hb dL_law_508 hl (by decide) rfl (fun ls hl => ?_)
  refine lv_aload_n hx hb dL_law_510 rfl (lv_at hl 4 rfl) ?_
  obtain ⟨fs1, hf1⟩ := hm1 u2
  have hPc : va_P (dC, dI) vwCl (NM u2) H := qj_PR hP
  refine vp_callSi (va_Run.run (va_runV (As := []) (rest := []) ⟨hx, hb, hml, hown, hts⟩ (hMt r u2 hpm) (cwV 0 hts gL_law_X6_thrown rfl rfl rfl (by decide +kernel) ⟨Nat.le_of_ble_eq_true rfl, Nat.le_of_ble_eq_true rfl⟩) ⟨fun a U g mk q => by obtain ⟨q0, qP, qK⟩ := q; exact ⟨q0, qP, va_K.moved (u := U) (U := U.calling g mk a) (Vm.Alike.refl U.vm) qK⟩, va_recv (q0 := 0) (ci := 5) hKm hPc rfl hf1, fun U hU hW => ⟨rfl, by rw [hU]; exact hPc, va_K.moved hW.alike hKm⟩⟩ rfl rfl hl.1 rfl (lv_room (Nat.le_of_ble_eq_true rfl)) dL_law_511 hrm)) (fun rt hrt => ?_)
  have hrt : rt = nI kk := hrt
  subst hrt
  refine lv_iload hx hb dL_law_514 (lv_at hl 1 rfl) ?_
  refine qr_eqN (tgt := 521) hx hb dL_law_516 rfl (by omega) (by omega) (fun _ => ?_) (fun h => absurd rfl h)
  refine lv_iload hx hb dL_law_521 (lv_at hl 1 rfl) ?_
  refine qr_ifneN (tgt := 545) hx hb dL_law_523 rfl (by omega) (fun _ => ?_) (fun hk0 => ?_)
  · refine lv_goto (tgt := 772) hx hb dL_law_545 rfl ?_
    have hl := lv_sub (l' := [(4, .int (nI i)), (3, .ref u0), (2, .ref h0), (1, .ref x0), (0, .ref b)]) hl [2, 3, 4, 5, 6] rfl
    exact kc u _ u2 H _ ls hw2 hpm hl hP hD hS
  · refine lv_aload_n hx hb dL_law_526 rfl (lv_at hl 3 rfl) ?_
    refine lv_iconst (v := nI 0) hx hb dL_law_527 (by decide) ?_
    refine va_lald hx hb hK hP 0 3 rfl rfl (vp_in_nI (by decide) (by decide)) dL_law_528 ?_
    rw [show (nI 0).toNatClampNeg = 0 from nI_clamp (by decide)]
    obtain ⟨bb, hbb, hfe⟩ := heq r u2 hpm
    subst hbb
    have hfe := hfe hk0 u hw2
    refine lv_iload hx hb dL_law_529 (lv_at hl 0 rfl) ?_
    cases bb with
    | true =>
      refine qr_ifeqZ (tgt := 538) hx hb dL_law_531 rfl (fun h => Bool.noConfusion h) (fun _ => ?_)
      refine lv_lconst (v := 1) hx hb dL_law_534 rfl ?_
      refine lv_goto (tgt := 539) hx hb dL_law_535 rfl ?_
      refine W.lcmp hx hb dL_law_539 ?_
      refine lv_if_eq (tgt := 545) hx hb dL_law_540 rfl (fun _ => ?_) (fun h => absurd ((lg_cmp_eq _ _).mpr (hfe)) h)
      refine lv_goto (tgt := 772) hx hb dL_law_545 rfl ?_
      have hl := lv_sub (l' := [(4, .int (nI i)), (3, .ref u0), (2, .ref h0), (1, .ref x0), (0, .ref b)]) hl [2, 3, 4, 5, 6] rfl
      exact kc u _ u2 H _ ls hw2 hpm hl hP hD hS
    | false =>
      refine qr_ifeqZ (tgt := 538) hx hb dL_law_531 rfl (fun _ => ?_) (fun h => Bool.noConfusion h)
      refine lv_lconst (v := 0) hx hb dL_law_538 rfl ?_
      refine W.lcmp hx hb dL_law_539 ?_
      refine lv_if_eq (tgt := 545) hx hb dL_law_540 rfl (fun _ => ?_) (fun h => absurd ((lg_cmp_eq _ _).mpr (hfe)) h)
      refine lv_goto (tgt := 772) hx hb dL_law_545 rfl ?_
      have hl := lv_sub (l' := [(4, .int (nI i)), (3, .ref u0), (2, .ref h0), (1, .ref x0), (0, .ref b)]) hl [2, 3, 4, 5, 6] rfl
      exact kc u _ u2 H _ ls hw2 hpm hl hP hD hS
set_option maxHeartbeats 4000000 in
set_option maxRecDepth 100000 in
theorem qz_figure {p : Program} {l : Launch} {e : Env} {s : State} {m : MethodId} {below : List Frame} {meth : Method} {c : Code} {dC : Nat → ClassId} {dI : Nat → Nat → Nat} {cI cZ cG cJ : ClassId} {b L : Nat} {xs : Nat → Int32} (C : qz_C p s m c dC dI cI cZ cG cJ b L xs) {Q : State → Prop} {H : Heap} {locs : List Loc} {cells slots : Nat} {ls : Array Slot} {x0 h0 u0 i : Nat} {fJ : Nat → Int64} {Wc Wm : va_W} {fm : List Value} (hi : i + 4 ≤ L) (hrm : cells + 1 ≤ room_1.cells ∧ slots + 6 ≤ room_1.slots) (hl : lv_has ls 7 [(4, .int (nI i)), (3, .ref u0), (2, .ref h0), (1, .ref x0), (0, .ref b)]) (hP : va_P (dC, dI) vwCl (([(u0, .inl (cJ, 1, .inr (.inl fJ)))] ++ Wc) ++ Wm) H) (hD : va_D (fun q => s.heap.size ≤ q) (([(u0, .inl (cJ, 1, .inr (.inl fJ)))] ++ Wc) ++ Wm)) (hS : va_S (fun q => s.heap.size ≤ q) s.heap H locs) (a1 : Int32) (ha1 : xs (i + 1) = a1) (kk : Nat) (hkk : kk < 4) (S : Type) (PX : S → Prop) (fN : S → Nat → Int64) (NW : S → va_W) (hadw : ∀ u, (NW u).map (fun q => q.1) = Wc.map (fun q => q.1)) (hMw : ∀ z : Nat, Met l yL_figure wsL_figure ({ frames := 9, cells := 1, slots := 6, locals := 250 } : Room) (va_Pc [.ref x0, .int a1, .ref u0] (fun U => U.heap.size = z ∧ va_P (dC, dI) vwCl ([(u0, .inl (cJ, 1, .inr (.inl fJ)))] ++ Wc) U.heap ∧ va_K (dC, dI) vwCl [(cI, .int), (cZ, .boolean), (cG, .array .int), (cJ, .long)] U ∧ va_D (fun _ => True) ([(u0, .inl (cJ, 1, .inr (.inl fJ)))] ++ Wc) ∧ qn_N U ∧ qx_P U ∧ qy_P U)) (va_Qi (fun (r : Int32) (u : S) => r = nI kk ∧ PX u) (fun u t => va_P (dC, dI) vwCl ([(u0, .inl (cJ, 1, .inr (.inl (fN u))))] ++ NW u) t.heap ∧ va_K (dC, dI) vwCl [(cI, .int), (cZ, .boolean), (cG, .array .int), (cJ, .long)] t ∧ va_D (va_A ([(u0, .inl (cJ, 1, .inr (.inl fJ)))] ++ Wc) z) ([(u0, .inl (cJ, 1, .inr (.inl (fN u))))] ++ NW u)) (va_A ([(u0, .inl (cJ, 1, .inr (.inl fJ)))] ++ Wc) z)) 1 6 (va_A ([(u0, .inl (cJ, 1, .inr (.inl fJ)))] ++ Wc) z)) (S2 : Type) (PM : Int32 → S2 → Prop) (NM : S2 → va_W) (hadm : ∀ u, (NM u).map (fun q => q.1) = Wm.map (fun q => q.1)) (rm : Room) (hr9 : rm.cells = 0 ∧ rm.slots = 0 ∧ rm.frames ≤ 8 ∧ rm.locals ≤ 200) (hm0 : Wm[0]? = some (h0, .inr (5, fm))) (hm1 : ∀ u, ∃ fs, (NM u)[0]? = some (h0, .inr (5, fs))) (hMm : ∀ z : Nat, Met l yX6_figure wsX6_figure rm (va_Pc [.ref h0, .int a1] (fun U => U.heap.size = z ∧ va_P (dC, dI) vwCl Wm U.heap ∧ va_K (dC, dI) vwCl [(cI, .int), (cZ, .boolean)] U ∧ va_D (fun _ => True) Wm)) (va_Qi PM (fun u t => va_P (dC, dI) vwCl (NM u) t.heap ∧ va_K (dC, dI) vwCl [(cI, .int), (cZ, .boolean)] t ∧ va_D (va_A Wm z) (NM u)) (va_A Wm z)) 0 0 (va_A Wm z)) (hMt : ∀ (r : Int32) (u : S2), PM r u → Met l yX6_thrown wsX6_thrown ({ frames := 0, cells := 0, slots := 0, locals := 0 } : Room) (va_Pc [.ref h0] (fun U => va_P (dC, dI) vwCl (NM u) U.heap ∧ va_K (dC, dI) vwCl [(cI, .int), (cZ, .boolean)] U)) (vp_Si (fun r => r = nI kk)) 0 0 (fun _ => False)) (heq : kk = 0 → ∀ (u : S) (r : Int32) (u2 : S2), PX u → PM r u2 → fN u 0 = r.toInt64) (kc : ∀ (u : S) (r : Int32) (u2 : S2) (H : Heap) (locs : List Loc) (ls : Array Slot), PX u → PM r u2 → lv_has ls 7 [(4, .int (nI i)), (3, .ref u0), (2, .ref h0), (1, .ref x0), (0, .ref b)] → va_P (dC, dI) vwCl (([(u0, .inl (cJ, 1, .inr (.inl (fN u))))] ++ NW u) ++ NM u2) H → va_D (fun q => s.heap.size ≤ q) (([(u0, .inl (cJ, 1, .inr (.inl (fN u))))] ++ NW u) ++ NM u2) → va_S (fun q => s.heap.size ≤ q) s.heap H locs → W p l e room_1 s m #[Value.ref b] below meth c H locs (cells + 1) (slots + 6) Q (F0 m 772 ls [])) : W p l e room_1 s m #[Value.ref b] below meth c H locs cells slots Q (F0 m 548 ls []) := by
  obtain ⟨hx, hb, hml, hown, hts, hX, hbl, hK, hN, hXx, hY, hL⟩ := C
  have hKm := hK.sub (tys' := [(cI, .int), (cZ, .boolean)]) [0, 1] rfl
  refine lv_aload_n hx hb dL_law_548 rfl (lv_at hl 3 rfl) ?_
  refine lv_aload_n hx hb dL_law_549 rfl (lv_at hl 4 rfl) ?_
  refine lv_iload hx hb dL_law_550 (lv_at hl 0 rfl) ?_
  refine lv_iconst (v := nI 1) hx hb dL_law_552 (by decide) ?_
  refine qr_iadd (z := nI (i + 1)) hx hb dL_law_553 (nI_add _ _) ?_
  refine qz_sld hx hb hX hbl hS (by omega) hL dL_law_554 ?_
  rw [ha1]
  refine lv_aload_n hx hb dL_law_555 rfl (lv_at hl 1 rfl) ?_
  have hPc : va_P (dC, dI) vwCl ([(u0, .inl (cJ, 1, .inr (.inl fJ)))] ++ Wc) H := qj_PL hP
  have hDc : va_D (fun q => s.heap.size ≤ q) ([(u0, .inl (cJ, 1, .inr (.inl fJ)))] ++ Wc) := qj_DL hD
  have hFc := qj_free hDc hS (fun _ h => h)
  refine va_calli (vx_runSW (As := [.ref x0, .int a1, .ref u0]) (rest := []) ⟨hx, hb, hml, hown, hts⟩ (hMw H.size) (vx_cwSW 3 hts gL_law_L_figure rfl rfl rfl (by decide +kernel) ⟨Nat.le_of_ble_eq_true rfl, Nat.le_of_ble_eq_true rfl⟩) ⟨fun a U g mk q => by obtain ⟨q0, q1, qP, qK, qD, qN, qX, qY⟩ := q; exact ⟨q0, q1, qP, va_K.moved (u := U) (U := U.calling g mk a) (Vm.Alike.refl U.vm) qK, qD, qn_same (u := U) rfl qN, qx_blind qX, qy_moved (u := U) (U := U.calling g mk a) (Vm.Alike.refl U.vm) qY⟩, fun U hU hW => ⟨rfl, by rw [hU], by rw [hU]; exact hPc, va_K.moved hW.alike hK, hDc.weaken (fun _ _ _ _ => trivial), qn_warm hW hN, qx_pre (A := (fun q => s.heap.size ≤ q)) (fun _ h => h) hS hW hU hXx, qy_moved hW.alike hY⟩⟩ rfl rfl hl.1 rfl (lv_room (Nat.le_of_ble_eq_true rfl)) dL_law_556 hrm) hS (fun q _ h => hFc q h) hFc (fun rv u t H1 locs ht hvm hw hB hz1 hk1 hS => ?_)
  obtain ⟨hP1, -, hD1⟩ := hB
  rw [ht] at hP1
  obtain ⟨hw1, hw2⟩ := hw
  subst hw1
  obtain ⟨hP, hD⟩ := qj_apL (X1 := ([(u0, .inl (cJ, 1, .inr (.inl (fN u))))] ++ NW u)) hP hD (qj_cons1 (hadw u)) hk1 hP1
  clear hz1 hk1 hPc hDc hFc hP1 hD1
  generalize H1 = H at hP hS ⊢
  refine lv_istore (lv' := [(5, .int (nI kk)), (4, .int (nI i)), (3, .ref u0), (2, .ref h0), (1, .ref x0), (0, .ref b)]) hx hb dL_law_559 hl (by decide) rfl (fun ls hl => ?_)
  refine lv_aload_n hx hb dL_law_561 rfl (lv_at hl 3 rfl) ?_
  refine lv_aload_n hx hb dL_law_562 rfl (lv_at hl 5 rfl) ?_
  refine lv_iload hx hb dL_law_563 (lv_at hl 1 rfl) ?_
  refine lv_iconst (v := nI 1) hx hb dL_law_565 (by decide) ?_
  refine qr_iadd (z := nI (i + 1)) hx hb dL_law_566 (nI_add _ _) ?_
  refine qz_sld hx hb hX hbl hS (by omega) hL dL_law_567 ?_
  rw [ha1]
  have hPc : va_P (dC, dI) vwCl Wm H := qj_PR hP
  have hDc : va_D (fun q => s.heap.size ≤ q) Wm := qj_DR hD
  have hFc := qj_free hDc hS (fun _ h => h)
  refine va_calli (va_runV (As := [.int a1]) (rest := []) ⟨hx, hb, hml, hown, hts⟩ (hMm H.size) (cwV 1 hts gL_law_X6_figure rfl hr9.1 hr9.2.1 (by decide +kernel) ⟨Nat.le_trans (Nat.succ_le_succ hr9.2.2.1) (Nat.le_of_ble_eq_true rfl), Nat.le_trans (Nat.add_le_add_left hr9.2.2.2 _) (Nat.le_of_ble_eq_true rfl)⟩) ⟨fun a U g mk q => by obtain ⟨q0, q1, qP, qK, qD⟩ := q; exact ⟨q0, q1, qP, va_K.moved (u := U) (U := U.calling g mk a) (Vm.Alike.refl U.vm) qK, qD⟩, va_recv (q0 := 0) (ci := 5) hKm hPc rfl hm0, fun U hU hW => ⟨rfl, by rw [hU], by rw [hU]; exact hPc, va_K.moved hW.alike hKm, hDc.weaken (fun _ _ _ _ => trivial)⟩⟩ rfl rfl hl.1 rfl (lv_room (Nat.le_of_ble_eq_true rfl)) dL_law_568 hrm) hS (fun q _ h => hFc q h) hFc (fun r u2 t H1 locs ht hvm hpm hB hz1 hk1 hS => ?_)
  obtain ⟨hP1, -, hD1⟩ := hB
  rw [ht] at hP1
  obtain ⟨hP, hD⟩ := qj_apR hP hD (hadm u2) hk1 hP1
  clear hz1 hk1 hPc hDc hFc hP1 hD1
  generalize H1 = H at hP hS ⊢
  refine lv_istore (lv' := [(6, .int r), (5, .int (nI kk)), (4, .int (nI i)), (3, .ref u0), (2, .ref h0), (1, .ref x0), (0, .ref b)]) hx hb dL_law_571 hl (by decide) rfl (fun ls hl => ?_)
  refine lv_aload_n hx hb dL_law_573 rfl (lv_at hl 4 rfl) ?_
  obtain ⟨fs1, hf1⟩ := hm1 u2
  have hPc : va_P (dC, dI) vwCl (NM u2) H := qj_PR hP
  refine vp_callSi (va_Run.run (va_runV (As := []) (rest := []) ⟨hx, hb, hml, hown, hts⟩ (hMt r u2 hpm) (cwV 0 hts gL_law_X6_thrown rfl rfl rfl (by decide +kernel) ⟨Nat.le_of_ble_eq_true rfl, Nat.le_of_ble_eq_true rfl⟩) ⟨fun a U g mk q => by obtain ⟨q0, qP, qK⟩ := q; exact ⟨q0, qP, va_K.moved (u := U) (U := U.calling g mk a) (Vm.Alike.refl U.vm) qK⟩, va_recv (q0 := 0) (ci := 5) hKm hPc rfl hf1, fun U hU hW => ⟨rfl, by rw [hU]; exact hPc, va_K.moved hW.alike hKm⟩⟩ rfl rfl hl.1 rfl (lv_room (Nat.le_of_ble_eq_true rfl)) dL_law_574 hrm)) (fun rt hrt => ?_)
  have hrt : rt = nI kk := hrt
  subst hrt
  refine lv_iload hx hb dL_law_577 (lv_at hl 1 rfl) ?_
  refine qr_eqN (tgt := 584) hx hb dL_law_579 rfl (by omega) (by omega) (fun _ => ?_) (fun h => absurd rfl h)
  refine lv_iload hx hb dL_law_584 (lv_at hl 1 rfl) ?_
  refine qr_ifneN (tgt := 601) hx hb dL_law_586 rfl (by omega) (fun _ => ?_) (fun hk0 => ?_)
  · refine lv_goto (tgt := 772) hx hb dL_law_601 rfl ?_
    have hl := lv_sub (l' := [(4, .int (nI i)), (3, .ref u0), (2, .ref h0), (1, .ref x0), (0, .ref b)]) hl [2, 3, 4, 5, 6] rfl
    exact kc u _ u2 H _ ls hw2 hpm hl hP hD hS
  · refine lv_aload_n hx hb dL_law_589 rfl (lv_at hl 3 rfl) ?_
    refine lv_iconst (v := nI 0) hx hb dL_law_590 (by decide) ?_
    refine va_lald hx hb hK hP 0 3 rfl rfl (vp_in_nI (by decide) (by decide)) dL_law_591 ?_
    rw [show (nI 0).toNatClampNeg = 0 from nI_clamp (by decide)]
    refine lv_iload hx hb dL_law_592 (lv_at hl 0 rfl) ?_
    refine lv_i2l (v := r.toInt64) hx hb dL_law_594 rfl ?_
    refine W.lcmp hx hb dL_law_595 ?_
    refine lv_if_eq (tgt := 601) hx hb dL_law_596 rfl (fun _ => ?_) (fun h => absurd ((lg_cmp_eq _ _).mpr (heq hk0 u r u2 hw2 hpm)) h)
    refine lv_goto (tgt := 772) hx hb dL_law_601 rfl ?_
    have hl := lv_sub (l' := [(4, .int (nI i)), (3, .ref u0), (2, .ref h0), (1, .ref x0), (0, .ref b)]) hl [2, 3, 4, 5, 6] rfl
    exact kc u _ u2 H _ ls hw2 hpm hl hP hD hS
set_option maxHeartbeats 4000000 in
set_option maxRecDepth 100000 in
theorem qz_check {p : Program} {l : Launch} {e : Env} {s : State} {m : MethodId} {below : List Frame} {meth : Method} {c : Code} {dC : Nat → ClassId} {dI : Nat → Nat → Nat} {cI cZ cG cJ : ClassId} {b L : Nat} {xs : Nat → Int32} (C : qz_C p s m c dC dI cI cZ cG cJ b L xs) {Q : State → Prop} {H : Heap} {locs : List Loc} {cells slots : Nat} {ls : Array Slot} {x0 h0 u0 i : Nat} {fJ : Nat → Int64} {Wc Wm : va_W} {fm : List Value} (hi : i + 4 ≤ L) (hrm : cells + 1 ≤ room_1.cells ∧ slots + 6 ≤ room_1.slots) (hl : lv_has ls 7 [(4, .int (nI i)), (3, .ref u0), (2, .ref h0), (1, .ref x0), (0, .ref b)]) (hP : va_P (dC, dI) vwCl (([(u0, .inl (cJ, 1, .inr (.inl fJ)))] ++ Wc) ++ Wm) H) (hD : va_D (fun q => s.heap.size ≤ q) (([(u0, .inl (cJ, 1, .inr (.inl fJ)))] ++ Wc) ++ Wm)) (hS : va_S (fun q => s.heap.size ≤ q) s.heap H locs) (a1 : Int32) (ha1 : xs (i + 3) = a1) (kk : Nat) (hkk : kk < 4) (S : Type) (PX : S → Prop) (fN : S → Nat → Int64) (NW : S → va_W) (hadw : ∀ u, (NW u).map (fun q => q.1) = Wc.map (fun q => q.1)) (hMw : ∀ z : Nat, Met l yL_check wsL_check ({ frames := 9, cells := 1, slots := 6, locals := 250 } : Room) (va_Pc [.ref x0, .long (qz_lg (xs (i + 1)) (xs (i + 2))), .int a1, .ref u0] (fun U => U.heap.size = z ∧ va_P (dC, dI) vwCl ([(u0, .inl (cJ, 1, .inr (.inl fJ)))] ++ Wc) U.heap ∧ va_K (dC, dI) vwCl [(cI, .int), (cZ, .boolean), (cG, .array .int), (cJ, .long)] U ∧ va_D (fun _ => True) ([(u0, .inl (cJ, 1, .inr (.inl fJ)))] ++ Wc) ∧ qn_N U ∧ qx_P U ∧ qy_P U)) (va_Qi (fun (r : Int32) (u : S) => r = nI kk ∧ PX u) (fun u t => va_P (dC, dI) vwCl ([(u0, .inl (cJ, 1, .inr (.inl (fN u))))] ++ NW u) t.heap ∧ va_K (dC, dI) vwCl [(cI, .int), (cZ, .boolean), (cG, .array .int), (cJ, .long)] t ∧ va_D (va_A ([(u0, .inl (cJ, 1, .inr (.inl fJ)))] ++ Wc) z) ([(u0, .inl (cJ, 1, .inr (.inl (fN u))))] ++ NW u)) (va_A ([(u0, .inl (cJ, 1, .inr (.inl fJ)))] ++ Wc) z)) 1 6 (va_A ([(u0, .inl (cJ, 1, .inr (.inl fJ)))] ++ Wc) z)) (S2 : Type) (PM : Int32 → S2 → Prop) (NM : S2 → va_W) (hadm : ∀ u, (NM u).map (fun q => q.1) = Wm.map (fun q => q.1)) (rm : Room) (hr9 : rm.cells = 0 ∧ rm.slots = 0 ∧ rm.frames ≤ 8 ∧ rm.locals ≤ 200) (hm0 : Wm[0]? = some (h0, .inr (5, fm))) (hm1 : ∀ u, ∃ fs, (NM u)[0]? = some (h0, .inr (5, fs))) (hMm : ∀ z : Nat, Met l yX6_check wsX6_check rm (va_Pc [.ref h0, .long (qz_lg (xs (i + 1)) (xs (i + 2))), .int a1] (fun U => U.heap.size = z ∧ va_P (dC, dI) vwCl Wm U.heap ∧ va_K (dC, dI) vwCl [(cI, .int), (cZ, .boolean)] U ∧ va_D (fun _ => True) Wm)) (va_Qi PM (fun u t => va_P (dC, dI) vwCl (NM u) t.heap ∧ va_K (dC, dI) vwCl [(cI, .int), (cZ, .boolean)] t ∧ va_D (va_A Wm z) (NM u)) (va_A Wm z)) 0 0 (va_A Wm z)) (hMt : ∀ (r : Int32) (u : S2), PM r u → Met l yX6_thrown wsX6_thrown ({ frames := 0, cells := 0, slots := 0, locals := 0 } : Room) (va_Pc [.ref h0] (fun U => va_P (dC, dI) vwCl (NM u) U.heap ∧ va_K (dC, dI) vwCl [(cI, .int), (cZ, .boolean)] U)) (vp_Si (fun r => r = nI kk)) 0 0 (fun _ => False)) (heq : kk = 0 → ∀ (u : S) (r : Int32) (u2 : S2), PX u → PM r u2 → fN u 0 = r.toInt64) (kc : ∀ (u : S) (r : Int32) (u2 : S2) (H : Heap) (locs : List Loc) (ls : Array Slot), PX u → PM r u2 → lv_has ls 7 [(4, .int (nI i)), (3, .ref u0), (2, .ref h0), (1, .ref x0), (0, .ref b)] → va_P (dC, dI) vwCl (([(u0, .inl (cJ, 1, .inr (.inl (fN u))))] ++ NW u) ++ NM u2) H → va_D (fun q => s.heap.size ≤ q) (([(u0, .inl (cJ, 1, .inr (.inl (fN u))))] ++ NW u) ++ NM u2) → va_S (fun q => s.heap.size ≤ q) s.heap H locs → W p l e room_1 s m #[Value.ref b] below meth c H locs (cells + 1) (slots + 6) Q (F0 m 772 ls [])) : W p l e room_1 s m #[Value.ref b] below meth c H locs cells slots Q (F0 m 604 ls []) := by
  obtain ⟨hx, hb, hml, hown, hts, hX, hbl, hK, hN, hXx, hY, hL⟩ := C
  have hKm := hK.sub (tys' := [(cI, .int), (cZ, .boolean)]) [0, 1] rfl
  refine lv_aload_n hx hb dL_law_604 rfl (lv_at hl 3 rfl) ?_
  refine lv_aload_n hx hb dL_law_605 rfl (lv_at hl 4 rfl) ?_
  refine lv_iload hx hb dL_law_606 (lv_at hl 0 rfl) ?_
  refine lv_iconst (v := nI 1) hx hb dL_law_608 (by decide) ?_
  refine qr_iadd (z := nI (i + 1)) hx hb dL_law_609 (nI_add _ _) ?_
  refine qz_sld hx hb hX hbl hS (by omega) hL dL_law_610 ?_
  refine lv_i2l (v := (xs (i + 1)).toInt64) hx hb dL_law_611 rfl ?_
  refine lv_bipush (v := nI 32) hx hb dL_law_612 (by decide) ?_
  refine lv_lshl (v := (xs (i + 1)).toInt64 <<< ((nI 32).toInt64 &&& 63)) hx hb dL_law_614 rfl ?_
  refine lv_aload_n hx hb dL_law_615 rfl (lv_at hl 4 rfl) ?_
  refine lv_iload hx hb dL_law_616 (lv_at hl 0 rfl) ?_
  refine lv_iconst (v := nI 2) hx hb dL_law_618 (by decide) ?_
  refine qr_iadd (z := nI (i + 2)) hx hb dL_law_619 (nI_add _ _) ?_
  refine qz_sld hx hb hX hbl hS (by omega) hL dL_law_620 ?_
  refine lv_i2l (v := (xs (i + 2)).toInt64) hx hb dL_law_621 rfl ?_
  refine lv_ldc2 (v := 4294967295) hx hb hown (hts (.constantLong RL 58 4294967295) (by decide +kernel)) dL_law_622 ?_
  refine lv_land hx hb dL_law_625 ?_
  refine lv_lor hx hb dL_law_626 ?_
  refine lv_aload_n hx hb dL_law_627 rfl (lv_at hl 4 rfl) ?_
  refine lv_iload hx hb dL_law_628 (lv_at hl 0 rfl) ?_
  refine lv_iconst (v := nI 3) hx hb dL_law_630 (by decide) ?_
  refine qr_iadd (z := nI (i + 3)) hx hb dL_law_631 (nI_add _ _) ?_
  refine qz_sld hx hb hX hbl hS (by omega) hL dL_law_632 ?_
  rw [ha1]
  refine lv_aload_n hx hb dL_law_633 rfl (lv_at hl 1 rfl) ?_
  have hPc : va_P (dC, dI) vwCl ([(u0, .inl (cJ, 1, .inr (.inl fJ)))] ++ Wc) H := qj_PL hP
  have hDc : va_D (fun q => s.heap.size ≤ q) ([(u0, .inl (cJ, 1, .inr (.inl fJ)))] ++ Wc) := qj_DL hD
  have hFc := qj_free hDc hS (fun _ h => h)
  refine va_calli (vx_runSW (As := [.ref x0, .long (qz_lg (xs (i + 1)) (xs (i + 2))), .int a1, .ref u0]) (rest := []) ⟨hx, hb, hml, hown, hts⟩ (hMw H.size) (vx_cwSW 4 hts gL_law_L_check rfl rfl rfl (by decide +kernel) ⟨Nat.le_of_ble_eq_true rfl, Nat.le_of_ble_eq_true rfl⟩) ⟨fun a U g mk q => by obtain ⟨q0, q1, qP, qK, qD, qN, qX, qY⟩ := q; exact ⟨q0, q1, qP, va_K.moved (u := U) (U := U.calling g mk a) (Vm.Alike.refl U.vm) qK, qD, qn_same (u := U) rfl qN, qx_blind qX, qy_moved (u := U) (U := U.calling g mk a) (Vm.Alike.refl U.vm) qY⟩, fun U hU hW => ⟨rfl, by rw [hU], by rw [hU]; exact hPc, va_K.moved hW.alike hK, hDc.weaken (fun _ _ _ _ => trivial), qn_warm hW hN, qx_pre (A := (fun q => s.heap.size ≤ q)) (fun _ h => h) hS hW hU hXx, qy_moved hW.alike hY⟩⟩ rfl rfl hl.1 rfl (lv_room (Nat.le_of_ble_eq_true rfl)) dL_law_634 hrm) hS (fun q _ h => hFc q h) hFc (fun rv u t H1 locs ht hvm hw hB hz1 hk1 hS => ?_)
  obtain ⟨hP1, -, hD1⟩ := hB
  rw [ht] at hP1
  obtain ⟨hw1, hw2⟩ := hw
  subst hw1
  obtain ⟨hP, hD⟩ := qj_apL (X1 := ([(u0, .inl (cJ, 1, .inr (.inl (fN u))))] ++ NW u)) hP hD (qj_cons1 (hadw u)) hk1 hP1
  clear hz1 hk1 hPc hDc hFc hP1 hD1
  generalize H1 = H at hP hS ⊢
  refine lv_istore (lv' := [(5, .int (nI kk)), (4, .int (nI i)), (3, .ref u0), (2, .ref h0), (1, .ref x0), (0, .ref b)]) hx hb dL_law_637 hl (by decide) rfl (fun ls hl => ?_)
  refine lv_aload_n hx hb dL_law_639 rfl (lv_at hl 3 rfl) ?_
  refine lv_aload_n hx hb dL_law_640 rfl (lv_at hl 5 rfl) ?_
  refine lv_iload hx hb dL_law_641 (lv_at hl 1 rfl) ?_
  refine lv_iconst (v := nI 1) hx hb dL_law_643 (by decide) ?_
  refine qr_iadd (z := nI (i + 1)) hx hb dL_law_644 (nI_add _ _) ?_
  refine qz_sld hx hb hX hbl hS (by omega) hL dL_law_645 ?_
  refine lv_i2l (v := (xs (i + 1)).toInt64) hx hb dL_law_646 rfl ?_
  refine lv_bipush (v := nI 32) hx hb dL_law_647 (by decide) ?_
  refine lv_lshl (v := (xs (i + 1)).toInt64 <<< ((nI 32).toInt64 &&& 63)) hx hb dL_law_649 rfl ?_
  refine lv_aload_n hx hb dL_law_650 rfl (lv_at hl 5 rfl) ?_
  refine lv_iload hx hb dL_law_651 (lv_at hl 1 rfl) ?_
  refine lv_iconst (v := nI 2) hx hb dL_law_653 (by decide) ?_
  refine qr_iadd (z := nI (i + 2)) hx hb dL_law_654 (nI_add _ _) ?_
  refine qz_sld hx hb hX hbl hS (by omega) hL dL_law_655 ?_
  refine lv_i2l (v := (xs (i + 2)).toInt64) hx hb dL_law_656 rfl ?_
  refine lv_ldc2 (v := 4294967295) hx hb hown (hts (.constantLong RL 58 4294967295) (by decide +kernel)) dL_law_657 ?_
  refine lv_land hx hb dL_law_660 ?_
  refine lv_lor hx hb dL_law_661 ?_
  refine lv_aload_n hx hb dL_law_662 rfl (lv_at hl 5 rfl) ?_
  refine lv_iload hx hb dL_law_663 (lv_at hl 1 rfl) ?_
  refine lv_iconst (v := nI 3) hx hb dL_law_665 (by decide) ?_
  refine qr_iadd (z := nI (i + 3)) hx hb dL_law_666 (nI_add _ _) ?_
  refine qz_sld hx hb hX hbl hS (by omega) hL dL_law_667 ?_
  rw [ha1]
  have hPc : va_P (dC, dI) vwCl Wm H := qj_PR hP
  have hDc : va_D (fun q => s.heap.size ≤ q) Wm := qj_DR hD
  have hFc := qj_free hDc hS (fun _ h => h)
  refine va_calli (va_runV (As := [.long (qz_lg (xs (i + 1)) (xs (i + 2))), .int a1]) (rest := []) ⟨hx, hb, hml, hown, hts⟩ (hMm H.size) (cwV 2 hts gL_law_X6_check rfl hr9.1 hr9.2.1 (by decide +kernel) ⟨Nat.le_trans (Nat.succ_le_succ hr9.2.2.1) (Nat.le_of_ble_eq_true rfl), Nat.le_trans (Nat.add_le_add_left hr9.2.2.2 _) (Nat.le_of_ble_eq_true rfl)⟩) ⟨fun a U g mk q => by obtain ⟨q0, q1, qP, qK, qD⟩ := q; exact ⟨q0, q1, qP, va_K.moved (u := U) (U := U.calling g mk a) (Vm.Alike.refl U.vm) qK, qD⟩, va_recv (q0 := 0) (ci := 5) hKm hPc rfl hm0, fun U hU hW => ⟨rfl, by rw [hU], by rw [hU]; exact hPc, va_K.moved hW.alike hKm, hDc.weaken (fun _ _ _ _ => trivial)⟩⟩ rfl rfl hl.1 rfl (lv_room (Nat.le_of_ble_eq_true rfl)) dL_law_668 hrm) hS (fun q _ h => hFc q h) hFc (fun r u2 t H1 locs ht hvm hpm hB hz1 hk1 hS => ?_)
  obtain ⟨hP1, -, hD1⟩ := hB
  rw [ht] at hP1
  obtain ⟨hP, hD⟩ := qj_apR hP hD (hadm u2) hk1 hP1
  clear hz1 hk1 hPc hDc hFc hP1 hD1
  generalize H1 = H at hP hS ⊢
  refine lv_istore (lv' := [(6, .int r), (5, .int (nI kk)), (4, .int (nI i)), (3, .ref u0), (2, .ref h0), (1, .ref x0), (0, .ref b)]) hx hb dL_law_671 hl (by decide) rfl (fun ls hl => ?_)
  refine lv_aload_n hx hb dL_law_673 rfl (lv_at hl 4 rfl) ?_
  obtain ⟨fs1, hf1⟩ := hm1 u2
  have hPc : va_P (dC, dI) vwCl (NM u2) H := qj_PR hP
  refine vp_callSi (va_Run.run (va_runV (As := []) (rest := []) ⟨hx, hb, hml, hown, hts⟩ (hMt r u2 hpm) (cwV 0 hts gL_law_X6_thrown rfl rfl rfl (by decide +kernel) ⟨Nat.le_of_ble_eq_true rfl, Nat.le_of_ble_eq_true rfl⟩) ⟨fun a U g mk q => by obtain ⟨q0, qP, qK⟩ := q; exact ⟨q0, qP, va_K.moved (u := U) (U := U.calling g mk a) (Vm.Alike.refl U.vm) qK⟩, va_recv (q0 := 0) (ci := 5) hKm hPc rfl hf1, fun U hU hW => ⟨rfl, by rw [hU]; exact hPc, va_K.moved hW.alike hKm⟩⟩ rfl rfl hl.1 rfl (lv_room (Nat.le_of_ble_eq_true rfl)) dL_law_674 hrm)) (fun rt hrt => ?_)
  have hrt : rt = nI kk := hrt
  subst hrt
  refine lv_iload hx hb dL_law_677 (lv_at hl 1 rfl) ?_
  refine qr_eqN (tgt := 684) hx hb dL_law_679 rfl (by omega) (by omega) (fun _ => ?_) (fun h => absurd rfl h)
  refine lv_iload hx hb dL_law_684 (lv_at hl 1 rfl) ?_
  refine qr_ifneN (tgt := 701) hx hb dL_law_686 rfl (by omega) (fun _ => ?_) (fun hk0 => ?_)
  · refine lv_goto (tgt := 772) hx hb dL_law_701 rfl ?_
    have hl := lv_sub (l' := [(4, .int (nI i)), (3, .ref u0), (2, .ref h0), (1, .ref x0), (0, .ref b)]) hl [2, 3, 4, 5, 6] rfl
    exact kc u _ u2 H _ ls hw2 hpm hl hP hD hS
  · refine lv_aload_n hx hb dL_law_689 rfl (lv_at hl 3 rfl) ?_
    refine lv_iconst (v := nI 0) hx hb dL_law_690 (by decide) ?_
    refine va_lald hx hb hK hP 0 3 rfl rfl (vp_in_nI (by decide) (by decide)) dL_law_691 ?_
    rw [show (nI 0).toNatClampNeg = 0 from nI_clamp (by decide)]
    refine lv_iload hx hb dL_law_692 (lv_at hl 0 rfl) ?_
    refine lv_i2l (v := r.toInt64) hx hb dL_law_694 rfl ?_
    refine W.lcmp hx hb dL_law_695 ?_
    refine lv_if_eq (tgt := 701) hx hb dL_law_696 rfl (fun _ => ?_) (fun h => absurd ((lg_cmp_eq _ _).mpr (heq hk0 u r u2 hw2 hpm)) h)
    refine lv_goto (tgt := 772) hx hb dL_law_701 rfl ?_
    have hl := lv_sub (l' := [(4, .int (nI i)), (3, .ref u0), (2, .ref h0), (1, .ref x0), (0, .ref b)]) hl [2, 3, 4, 5, 6] rfl
    exact kc u _ u2 H _ ls hw2 hpm hl hP hD hS
set_option maxHeartbeats 4000000 in
set_option maxRecDepth 100000 in
theorem qz_product {p : Program} {l : Launch} {e : Env} {s : State} {m : MethodId} {below : List Frame} {meth : Method} {c : Code} {dC : Nat → ClassId} {dI : Nat → Nat → Nat} {cI cZ cG cJ : ClassId} {b L : Nat} {xs : Nat → Int32} (C : qz_C p s m c dC dI cI cZ cG cJ b L xs) {Q : State → Prop} {H : Heap} {locs : List Loc} {cells slots : Nat} {ls : Array Slot} {x0 h0 u0 i : Nat} {fJ : Nat → Int64} {Wc Wm : va_W} {fm : List Value} (hi : i + 4 ≤ L) (hrm : cells + 1 ≤ room_1.cells ∧ slots + 6 ≤ room_1.slots) (hl : lv_has ls 7 [(4, .int (nI i)), (3, .ref u0), (2, .ref h0), (1, .ref x0), (0, .ref b)]) (hP : va_P (dC, dI) vwCl (([(u0, .inl (cJ, 1, .inr (.inl fJ)))] ++ Wc) ++ Wm) H) (hD : va_D (fun q => s.heap.size ≤ q) (([(u0, .inl (cJ, 1, .inr (.inl fJ)))] ++ Wc) ++ Wm)) (hS : va_S (fun q => s.heap.size ≤ q) s.heap H locs) (a1 : Int32) (ha1 : xs (i + 1) = a1) (a2 : Int32) (ha2 : xs (i + 2) = a2) (kk : Nat) (hkk : kk < 4) (S : Type) (PX : S → Prop) (fN : S → Nat → Int64) (NW : S → va_W) (hadw : ∀ u, (NW u).map (fun q => q.1) = Wc.map (fun q => q.1)) (hMw : ∀ z : Nat, Met l yL_product wsL_product ({ frames := 9, cells := 1, slots := 6, locals := 250 } : Room) (va_Pc [.ref x0, .int a1, .int a2, .ref u0] (fun U => U.heap.size = z ∧ va_P (dC, dI) vwCl ([(u0, .inl (cJ, 1, .inr (.inl fJ)))] ++ Wc) U.heap ∧ va_K (dC, dI) vwCl [(cI, .int), (cZ, .boolean), (cG, .array .int), (cJ, .long)] U ∧ va_D (fun _ => True) ([(u0, .inl (cJ, 1, .inr (.inl fJ)))] ++ Wc) ∧ qn_N U ∧ qx_P U ∧ qy_P U)) (va_Qi (fun (r : Int32) (u : S) => r = nI kk ∧ PX u) (fun u t => va_P (dC, dI) vwCl ([(u0, .inl (cJ, 1, .inr (.inl (fN u))))] ++ NW u) t.heap ∧ va_K (dC, dI) vwCl [(cI, .int), (cZ, .boolean), (cG, .array .int), (cJ, .long)] t ∧ va_D (va_A ([(u0, .inl (cJ, 1, .inr (.inl fJ)))] ++ Wc) z) ([(u0, .inl (cJ, 1, .inr (.inl (fN u))))] ++ NW u)) (va_A ([(u0, .inl (cJ, 1, .inr (.inl fJ)))] ++ Wc) z)) 1 6 (va_A ([(u0, .inl (cJ, 1, .inr (.inl fJ)))] ++ Wc) z)) (S2 : Type) (PM : Int32 → S2 → Prop) (NM : S2 → va_W) (hadm : ∀ u, (NM u).map (fun q => q.1) = Wm.map (fun q => q.1)) (rm : Room) (hr9 : rm.cells = 0 ∧ rm.slots = 0 ∧ rm.frames ≤ 8 ∧ rm.locals ≤ 200) (hm0 : Wm[0]? = some (h0, .inr (5, fm))) (hm1 : ∀ u, ∃ fs, (NM u)[0]? = some (h0, .inr (5, fs))) (hMm : ∀ z : Nat, Met l yX6_product wsX6_product rm (va_Pc [.ref h0, .int a1, .int a2] (fun U => U.heap.size = z ∧ va_P (dC, dI) vwCl Wm U.heap ∧ va_K (dC, dI) vwCl [(cI, .int), (cZ, .boolean)] U ∧ va_D (fun _ => True) Wm)) (va_Qi PM (fun u t => va_P (dC, dI) vwCl (NM u) t.heap ∧ va_K (dC, dI) vwCl [(cI, .int), (cZ, .boolean)] t ∧ va_D (va_A Wm z) (NM u)) (va_A Wm z)) 0 0 (va_A Wm z)) (hMt : ∀ (r : Int32) (u : S2), PM r u → Met l yX6_thrown wsX6_thrown ({ frames := 0, cells := 0, slots := 0, locals := 0 } : Room) (va_Pc [.ref h0] (fun U => va_P (dC, dI) vwCl (NM u) U.heap ∧ va_K (dC, dI) vwCl [(cI, .int), (cZ, .boolean)] U)) (vp_Si (fun r => r = nI kk)) 0 0 (fun _ => False)) (heq : kk = 0 → ∀ (u : S) (r : Int32) (u2 : S2), PX u → PM r u2 → fN u 0 = r.toInt64) (kc : ∀ (u : S) (r : Int32) (u2 : S2) (H : Heap) (locs : List Loc) (ls : Array Slot), PX u → PM r u2 → lv_has ls 7 [(4, .int (nI i)), (3, .ref u0), (2, .ref h0), (1, .ref x0), (0, .ref b)] → va_P (dC, dI) vwCl (([(u0, .inl (cJ, 1, .inr (.inl (fN u))))] ++ NW u) ++ NM u2) H → va_D (fun q => s.heap.size ≤ q) (([(u0, .inl (cJ, 1, .inr (.inl (fN u))))] ++ NW u) ++ NM u2) → va_S (fun q => s.heap.size ≤ q) s.heap H locs → W p l e room_1 s m #[Value.ref b] below meth c H locs (cells + 1) (slots + 6) Q (F0 m 772 ls [])) : W p l e room_1 s m #[Value.ref b] below meth c H locs cells slots Q (F0 m 704 ls []) := by
  obtain ⟨hx, hb, hml, hown, hts, hX, hbl, hK, hN, hXx, hY, hL⟩ := C
  have hKm := hK.sub (tys' := [(cI, .int), (cZ, .boolean)]) [0, 1] rfl
  refine lv_aload_n hx hb dL_law_704 rfl (lv_at hl 3 rfl) ?_
  refine lv_aload_n hx hb dL_law_705 rfl (lv_at hl 4 rfl) ?_
  refine lv_iload hx hb dL_law_706 (lv_at hl 0 rfl) ?_
  refine lv_iconst (v := nI 1) hx hb dL_law_708 (by decide) ?_
  refine qr_iadd (z := nI (i + 1)) hx hb dL_law_709 (nI_add _ _) ?_
  refine qz_sld hx hb hX hbl hS (by omega) hL dL_law_710 ?_
  rw [ha1]
  refine lv_aload_n hx hb dL_law_711 rfl (lv_at hl 4 rfl) ?_
  refine lv_iload hx hb dL_law_712 (lv_at hl 0 rfl) ?_
  refine lv_iconst (v := nI 2) hx hb dL_law_714 (by decide) ?_
  refine qr_iadd (z := nI (i + 2)) hx hb dL_law_715 (nI_add _ _) ?_
  refine qz_sld hx hb hX hbl hS (by omega) hL dL_law_716 ?_
  rw [ha2]
  refine lv_aload_n hx hb dL_law_717 rfl (lv_at hl 1 rfl) ?_
  have hPc : va_P (dC, dI) vwCl ([(u0, .inl (cJ, 1, .inr (.inl fJ)))] ++ Wc) H := qj_PL hP
  have hDc : va_D (fun q => s.heap.size ≤ q) ([(u0, .inl (cJ, 1, .inr (.inl fJ)))] ++ Wc) := qj_DL hD
  have hFc := qj_free hDc hS (fun _ h => h)
  refine va_calli (vx_runSW (As := [.ref x0, .int a1, .int a2, .ref u0]) (rest := []) ⟨hx, hb, hml, hown, hts⟩ (hMw H.size) (vx_cwSW 4 hts gL_law_L_product rfl rfl rfl (by decide +kernel) ⟨Nat.le_of_ble_eq_true rfl, Nat.le_of_ble_eq_true rfl⟩) ⟨fun a U g mk q => by obtain ⟨q0, q1, qP, qK, qD, qN, qX, qY⟩ := q; exact ⟨q0, q1, qP, va_K.moved (u := U) (U := U.calling g mk a) (Vm.Alike.refl U.vm) qK, qD, qn_same (u := U) rfl qN, qx_blind qX, qy_moved (u := U) (U := U.calling g mk a) (Vm.Alike.refl U.vm) qY⟩, fun U hU hW => ⟨rfl, by rw [hU], by rw [hU]; exact hPc, va_K.moved hW.alike hK, hDc.weaken (fun _ _ _ _ => trivial), qn_warm hW hN, qx_pre (A := (fun q => s.heap.size ≤ q)) (fun _ h => h) hS hW hU hXx, qy_moved hW.alike hY⟩⟩ rfl rfl hl.1 rfl (lv_room (Nat.le_of_ble_eq_true rfl)) dL_law_718 hrm) hS (fun q _ h => hFc q h) hFc (fun rv u t H1 locs ht hvm hw hB hz1 hk1 hS => ?_)
  obtain ⟨hP1, -, hD1⟩ := hB
  rw [ht] at hP1
  obtain ⟨hw1, hw2⟩ := hw
  subst hw1
  obtain ⟨hP, hD⟩ := qj_apL (X1 := ([(u0, .inl (cJ, 1, .inr (.inl (fN u))))] ++ NW u)) hP hD (qj_cons1 (hadw u)) hk1 hP1
  clear hz1 hk1 hPc hDc hFc hP1 hD1
  generalize H1 = H at hP hS ⊢
  refine lv_istore (lv' := [(5, .int (nI kk)), (4, .int (nI i)), (3, .ref u0), (2, .ref h0), (1, .ref x0), (0, .ref b)]) hx hb dL_law_721 hl (by decide) rfl (fun ls hl => ?_)
  refine lv_aload_n hx hb dL_law_723 rfl (lv_at hl 3 rfl) ?_
  refine lv_aload_n hx hb dL_law_724 rfl (lv_at hl 5 rfl) ?_
  refine lv_iload hx hb dL_law_725 (lv_at hl 1 rfl) ?_
  refine lv_iconst (v := nI 1) hx hb dL_law_727 (by decide) ?_
  refine qr_iadd (z := nI (i + 1)) hx hb dL_law_728 (nI_add _ _) ?_
  refine qz_sld hx hb hX hbl hS (by omega) hL dL_law_729 ?_
  rw [ha1]
  refine lv_aload_n hx hb dL_law_730 rfl (lv_at hl 5 rfl) ?_
  refine lv_iload hx hb dL_law_731 (lv_at hl 1 rfl) ?_
  refine lv_iconst (v := nI 2) hx hb dL_law_733 (by decide) ?_
  refine qr_iadd (z := nI (i + 2)) hx hb dL_law_734 (nI_add _ _) ?_
  refine qz_sld hx hb hX hbl hS (by omega) hL dL_law_735 ?_
  rw [ha2]
  have hPc : va_P (dC, dI) vwCl Wm H := qj_PR hP
  have hDc : va_D (fun q => s.heap.size ≤ q) Wm := qj_DR hD
  have hFc := qj_free hDc hS (fun _ h => h)
  refine va_calli (va_runV (As := [.int a1, .int a2]) (rest := []) ⟨hx, hb, hml, hown, hts⟩ (hMm H.size) (cwV 2 hts gL_law_X6_product rfl hr9.1 hr9.2.1 (by decide +kernel) ⟨Nat.le_trans (Nat.succ_le_succ hr9.2.2.1) (Nat.le_of_ble_eq_true rfl), Nat.le_trans (Nat.add_le_add_left hr9.2.2.2 _) (Nat.le_of_ble_eq_true rfl)⟩) ⟨fun a U g mk q => by obtain ⟨q0, q1, qP, qK, qD⟩ := q; exact ⟨q0, q1, qP, va_K.moved (u := U) (U := U.calling g mk a) (Vm.Alike.refl U.vm) qK, qD⟩, va_recv (q0 := 0) (ci := 5) hKm hPc rfl hm0, fun U hU hW => ⟨rfl, by rw [hU], by rw [hU]; exact hPc, va_K.moved hW.alike hKm, hDc.weaken (fun _ _ _ _ => trivial)⟩⟩ rfl rfl hl.1 rfl (lv_room (Nat.le_of_ble_eq_true rfl)) dL_law_736 hrm) hS (fun q _ h => hFc q h) hFc (fun r u2 t H1 locs ht hvm hpm hB hz1 hk1 hS => ?_)
  obtain ⟨hP1, -, hD1⟩ := hB
  rw [ht] at hP1
  obtain ⟨hP, hD⟩ := qj_apR hP hD (hadm u2) hk1 hP1
  clear hz1 hk1 hPc hDc hFc hP1 hD1
  generalize H1 = H at hP hS ⊢
  refine lv_istore (lv' := [(6, .int r), (5, .int (nI kk)), (4, .int (nI i)), (3, .ref u0), (2, .ref h0), (1, .ref x0), (0, .ref b)]) hx hb dL_law_739 hl (by decide) rfl (fun ls hl => ?_)
  refine lv_aload_n hx hb dL_law_741 rfl (lv_at hl 4 rfl) ?_
  obtain ⟨fs1, hf1⟩ := hm1 u2
  have hPc : va_P (dC, dI) vwCl (NM u2) H := qj_PR hP
  refine vp_callSi (va_Run.run (va_runV (As := []) (rest := []) ⟨hx, hb, hml, hown, hts⟩ (hMt r u2 hpm) (cwV 0 hts gL_law_X6_thrown rfl rfl rfl (by decide +kernel) ⟨Nat.le_of_ble_eq_true rfl, Nat.le_of_ble_eq_true rfl⟩) ⟨fun a U g mk q => by obtain ⟨q0, qP, qK⟩ := q; exact ⟨q0, qP, va_K.moved (u := U) (U := U.calling g mk a) (Vm.Alike.refl U.vm) qK⟩, va_recv (q0 := 0) (ci := 5) hKm hPc rfl hf1, fun U hU hW => ⟨rfl, by rw [hU]; exact hPc, va_K.moved hW.alike hKm⟩⟩ rfl rfl hl.1 rfl (lv_room (Nat.le_of_ble_eq_true rfl)) dL_law_742 hrm)) (fun rt hrt => ?_)
  have hrt : rt = nI kk := hrt
  subst hrt
  refine lv_iload hx hb dL_law_745 (lv_at hl 1 rfl) ?_
  refine qr_eqN (tgt := 752) hx hb dL_law_747 rfl (by omega) (by omega) (fun _ => ?_) (fun h => absurd rfl h)
  refine lv_iload hx hb dL_law_752 (lv_at hl 1 rfl) ?_
  refine qr_ifneN (tgt := 769) hx hb dL_law_754 rfl (by omega) (fun _ => ?_) (fun hk0 => ?_)
  · refine lv_goto (tgt := 772) hx hb dL_law_769 rfl ?_
    have hl := lv_sub (l' := [(4, .int (nI i)), (3, .ref u0), (2, .ref h0), (1, .ref x0), (0, .ref b)]) hl [2, 3, 4, 5, 6] rfl
    exact kc u _ u2 H _ ls hw2 hpm hl hP hD hS
  · refine lv_aload_n hx hb dL_law_757 rfl (lv_at hl 3 rfl) ?_
    refine lv_iconst (v := nI 0) hx hb dL_law_758 (by decide) ?_
    refine va_lald hx hb hK hP 0 3 rfl rfl (vp_in_nI (by decide) (by decide)) dL_law_759 ?_
    rw [show (nI 0).toNatClampNeg = 0 from nI_clamp (by decide)]
    refine lv_iload hx hb dL_law_760 (lv_at hl 0 rfl) ?_
    refine lv_i2l (v := r.toInt64) hx hb dL_law_762 rfl ?_
    refine W.lcmp hx hb dL_law_763 ?_
    refine lv_if_eq (tgt := 769) hx hb dL_law_764 rfl (fun _ => ?_) (fun h => absurd ((lg_cmp_eq _ _).mpr (heq hk0 u r u2 hw2 hpm)) h)
    refine lv_goto (tgt := 772) hx hb dL_law_769 rfl ?_
    have hl := lv_sub (l' := [(4, .int (nI i)), (3, .ref u0), (2, .ref h0), (1, .ref x0), (0, .ref b)]) hl [2, 3, 4, 5, 6] rfl
    exact kc u _ u2 H _ ls hw2 hpm hl hP hD hS
set_option maxHeartbeats 4000000 in
set_option maxRecDepth 100000 in
theorem qz_rows {p : Program} {l : Launch} {e : Env} {s : State} {m : MethodId} {below : List Frame} {meth : Method} {c : Code} {dC : Nat → ClassId} {dI : Nat → Nat → Nat} {cI cZ cG cJ : ClassId} {b L : Nat} {xs : Nat → Int32} (C : qz_C p s m c dC dI cI cZ cG cJ b L xs) {Q : State → Prop} {H : Heap} {locs : List Loc} {cells slots : Nat} {ls : Array Slot} {x0 h0 u0 i : Nat} {fJ : Nat → Int64} {Wc Wm : va_W} {fm : List Value} {fx : List Value} (hrm : cells + 1 ≤ room_1.cells ∧ slots + 6 ≤ room_1.slots) (hl : lv_has ls 7 [(4, .int (nI i)), (3, .ref u0), (2, .ref h0), (1, .ref x0), (0, .ref b)]) (hP : va_P (dC, dI) vwCl (([(u0, .inl (cJ, 1, .inr (.inl fJ)))] ++ Wc) ++ Wm) H) (hD : va_D (fun q => s.heap.size ≤ q) (([(u0, .inl (cJ, 1, .inr (.inl fJ)))] ++ Wc) ++ Wm)) (hS : va_S (fun q => s.heap.size ≤ q) s.heap H locs) (k : Nat) (hk : k < 2 ^ 31) (hW0 : Wc[0]? = some (x0, .inr (4, fx)))
    (hMw : Met l yX5_rows wsX5_rows ({ frames := 0, cells := 0, slots := 0, locals := 0 } : Room) (va_Pc [.ref x0] (fun U => va_P (dC, dI) vwCl Wc U.heap ∧ va_K (dC, dI) vwCl [(cI, .int), (cZ, .boolean), (cG, .array .int)] U ∧ qn_N U)) (vp_Si (fun r => r = nI k)) 0 0 (fun _ => False))
    (NM : va_W) (hadm : NM.map (fun q => q.1) = Wm.map (fun q => q.1)) (hm0 : Wm[0]? = some (h0, .inr (5, fm)))
    (hMm : ∀ z : Nat, Met l yX6_rows wsX6_rows ({ frames := 0, cells := 0, slots := 0, locals := 0 } : Room) (va_Pc [.ref h0] (fun U => U.heap.size = z ∧ va_P (dC, dI) vwCl Wm U.heap ∧ va_K (dC, dI) vwCl [(cI, .int), (cZ, .boolean)] U ∧ va_D (fun _ => True) Wm)) (va_Qi (fun (r : Int32) (_ : Unit) => r = nI k) (fun _ t => va_P (dC, dI) vwCl NM t.heap ∧ va_K (dC, dI) vwCl [(cI, .int), (cZ, .boolean)] t ∧ va_D (va_A Wm z) NM) (va_A Wm z)) 0 0 (va_A Wm z))
    (kc : ∀ (H : Heap) (locs : List Loc) (ls : Array Slot), lv_has ls 7 [(4, .int (nI i)), (3, .ref u0), (2, .ref h0), (1, .ref x0), (0, .ref b)] → va_P (dC, dI) vwCl (([(u0, .inl (cJ, 1, .inr (.inl fJ)))] ++ Wc) ++ NM) H → va_D (fun q => s.heap.size ≤ q) (([(u0, .inl (cJ, 1, .inr (.inl fJ)))] ++ Wc) ++ NM) → va_S (fun q => s.heap.size ≤ q) s.heap H locs → W p l e room_1 s m #[Value.ref b] below meth c H locs (cells + 1) (slots + 6) Q (F0 m 772 ls [])) : W p l e room_1 s m #[Value.ref b] below meth c H locs cells slots Q (F0 m 184 ls []) := by
  obtain ⟨hx, hb, hml, hown, hts, hX, hbl, hK, hN, hXx, hY, hL⟩ := C
  have hKm := hK.sub (tys' := [(cI, .int), (cZ, .boolean)]) [0, 1] rfl
  have hKc := hK.sub (tys' := [(cI, .int), (cZ, .boolean), (cG, .array .int)]) [0, 1, 2] rfl
  refine lv_aload_n hx hb dL_law_184 rfl (lv_at hl 3 rfl) ?_
  have hPc : va_P (dC, dI) vwCl Wc H := qj_PR (qj_PL hP)
  refine vp_callSi (va_Run.run (va_runV (As := []) (rest := []) ⟨hx, hb, hml, hown, hts⟩ hMw (cwV 0 hts gL_law_X5_rows rfl rfl rfl (by decide +kernel) ⟨Nat.le_of_ble_eq_true rfl, Nat.le_of_ble_eq_true rfl⟩) ⟨fun a U g mk q => by obtain ⟨q0, qP, qK, qN⟩ := q; exact ⟨q0, qP, va_K.moved (u := U) (U := U.calling g mk a) (Vm.Alike.refl U.vm) qK, qn_same (u := U) rfl qN⟩, va_recv (q0 := 0) (ci := 4) hKc hPc rfl hW0, fun U hU hW => ⟨rfl, by rw [hU]; exact hPc, va_K.moved hW.alike hKc, qn_warm hW hN⟩⟩ rfl rfl hl.1 rfl (lv_room (Nat.le_of_ble_eq_true rfl)) dL_law_185 ⟨Nat.le_of_succ_le hrm.1, Nat.le_trans (Nat.le_add_right _ 6) hrm.2⟩)) (fun rt hrt => ?_)
  have hrt : rt = nI k := hrt
  subst hrt
  refine lv_aload_n hx hb dL_law_188 rfl (lv_at hl 2 rfl) ?_
  have hPc : va_P (dC, dI) vwCl Wm H := qj_PR hP
  have hDc : va_D (fun q => s.heap.size ≤ q) Wm := qj_DR hD
  have hFc := qj_free hDc hS (fun _ h => h)
  refine va_calli (va_runV (As := []) (rest := [.int (nI k)]) ⟨hx, hb, hml, hown, hts⟩ (hMm H.size) (cwV 0 hts gL_law_X6_rows rfl rfl rfl (by decide +kernel) ⟨Nat.le_of_ble_eq_true rfl, Nat.le_of_ble_eq_true rfl⟩) ⟨fun a U g mk q => by obtain ⟨q0, q1, qP, qK, qD⟩ := q; exact ⟨q0, q1, qP, va_K.moved (u := U) (U := U.calling g mk a) (Vm.Alike.refl U.vm) qK, qD⟩, va_recv (q0 := 0) (ci := 5) hKm hPc rfl hm0, fun U hU hW => ⟨rfl, by rw [hU], by rw [hU]; exact hPc, va_K.moved hW.alike hKm, hDc.weaken (fun _ _ _ _ => trivial)⟩⟩ rfl rfl hl.1 rfl (lv_room (Nat.le_of_ble_eq_true rfl)) dL_law_189 ⟨Nat.le_of_succ_le hrm.1, Nat.le_trans (Nat.le_add_right _ 6) hrm.2⟩) hS (fun q _ h => hFc q h) hFc (fun r u2 t H1 locs ht hvm hpm hB hz1 hk1 hS => ?_)
  obtain ⟨hP1, -, hD1⟩ := hB
  rw [ht] at hP1
  have hpm : r = nI k := hpm
  subst hpm
  obtain ⟨hP, hD⟩ := qj_apR hP hD hadm hk1 hP1
  clear hz1 hk1 hPc hDc hFc hP1 hD1
  generalize H1 = H at hP hS ⊢
  refine qr_eqN (tgt := 772) hx hb dL_law_192 rfl hk hk (fun _ => ?_) (fun h => absurd rfl h)
  refine W.widen (k := cells + 1) (n := slots + 6) (by omega) (by omega) ?_
  exact kc H _ ls hl hP hD hS

