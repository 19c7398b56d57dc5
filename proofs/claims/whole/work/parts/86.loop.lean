set_option maxHeartbeats 4000000 in
set_option maxRecDepth 100000 in
theorem qu_exit {p : Program} {l : Launch} {e : Env} {s : State} {m : MethodId} {below : List Frame} {meth : Method} {c : Code} {dC : Nat → ClassId} {dI : Nat → Nat → Nat} {cI cZ cG cJ : ClassId} {b L : Nat} {xs : Nat → Int32} (C : qz_C p s m c dC dI cI cZ cG cJ b L xs) {Q : State → Prop} {H : Heap} {locs : List Loc} {cells slots : Nat} {ls : Array Slot} {x0 h0 u0 i : Nat} (hi : i ≤ 4096) (hex : L < i + 4) (hl : lv_has ls 7 [(4, .int (nI i)), (3, .ref u0), (2, .ref h0), (1, .ref x0), (0, .ref b)]) (hS : va_S (fun q => s.heap.size ≤ q) s.heap H locs) (hend : W p l e room_1 s m #[Value.ref b] below meth c H locs cells slots Q (F0 m 778 ls [])) : W p l e room_1 s m #[Value.ref b] below meth c H locs cells slots Q (F0 m 23 ls []) := by
  obtain ⟨hx, hb, hml, hown, hts, hX, hbl, hK, hN, hXx, hY, hL⟩ := C
  refine lv_iload hx hb dL_law_23 (lv_at hl 0 rfl) ?_
  refine lv_aload_n hx hb dL_law_25 rfl (lv_at hl 4 rfl) ?_
  refine va_slen hx hb hX hbl (Nat.not_le.mpr hbl) hS dL_law_26 ?_
  refine lv_iconst (v := nI 4) hx hb dL_law_27 (by decide) ?_
  refine qr_isub (z := nI L - nI 4) hx hb dL_law_28 rfl ?_
  exact lv_icmp_gt (tgt := 778) hx hb dL_law_29 rfl (fun _ => hend) (fun h => absurd ((qz_gt hL hi).mpr hex) h)
set_option maxHeartbeats 4000000 in
set_option maxRecDepth 100000 in
theorem qu_body {p : Program} {l : Launch} {e : Env} {s : State} {m : MethodId} {below : List Frame} {meth : Method} {c : Code} {dC : Nat → ClassId} {dI : Nat → Nat → Nat} {cI cZ cG cJ : ClassId} {b L : Nat} {xs : Nat → Int32} (C : qz_C p s m c dC dI cI cZ cG cJ b L xs) {Q : State → Prop} {H : Heap} {locs : List Loc} {cells slots : Nat} {ls : Array Slot} {x0 h0 u0 i : Nat} {fJ : Nat → Int64} {Wc Wm : va_W} (hl9 : l.stackTraces = false) (h4 : i + 4 ≤ L) (hrm : cells + 1 ≤ room_1.cells ∧ slots + 6 ≤ room_1.slots) (hI : qI cI cZ cG x0 h0 Wc Wm) (hl : lv_has ls 7 [(4, .int (nI i)), (3, .ref u0), (2, .ref h0), (1, .ref x0), (0, .ref b)]) (hP : va_P (dC, dI) vwCl (([(u0, .inl (cJ, 1, .inr (.inl fJ)))] ++ Wc) ++ Wm) H) (hD : va_D (fun q => s.heap.size ≤ q) (([(u0, .inl (cJ, 1, .inr (.inl fJ)))] ++ Wc) ++ Wm)) (hS : va_S (fun q => s.heap.size ≤ q) s.heap H locs) (kc : ∀ (fJ : Nat → Int64) (Wc Wm : va_W) (H : Heap) (locs : List Loc) (ls : Array Slot), qI cI cZ cG x0 h0 Wc Wm → lv_has ls 7 [(4, .int (nI i)), (3, .ref u0), (2, .ref h0), (1, .ref x0), (0, .ref b)] → va_P (dC, dI) vwCl (([(u0, .inl (cJ, 1, .inr (.inl fJ)))] ++ Wc) ++ Wm) H → va_D (fun q => s.heap.size ≤ q) (([(u0, .inl (cJ, 1, .inr (.inl fJ)))] ++ Wc) ++ Wm) → va_S (fun q => s.heap.size ≤ q) s.heap H locs → W p l e room_1 s m #[Value.ref b] below meth c H locs (cells + 1) (slots + 6) Q (F0 m 772 ls [])) : W p l e room_1 s m #[Value.ref b] below meth c H locs cells slots Q (F0 m 23 ls []) := by
  obtain ⟨hx, hb, hml, hown, hts, hX, hbl, hK, hN, hXx, hY, hL⟩ := id C
  refine lv_iload hx hb dL_law_23 (lv_at hl 0 rfl) ?_
  refine lv_aload_n hx hb dL_law_25 rfl (lv_at hl 4 rfl) ?_
  refine va_slen hx hb hX hbl (Nat.not_le.mpr hbl) hS dL_law_26 ?_
  refine lv_iconst (v := nI 4) hx hb dL_law_27 (by decide) ?_
  refine qr_isub (z := nI L - nI 4) hx hb dL_law_28 rfl ?_
  refine lv_icmp_gt (tgt := 778) hx hb dL_law_29 rfl (fun h => absurd ((qz_gt hL (by omega)).mp h) (by omega)) (fun _ => ?_)
  refine lv_aload_n hx hb dL_law_32 rfl (lv_at hl 4 rfl) ?_
  refine lv_iload hx hb dL_law_33 (lv_at hl 0 rfl) ?_
  refine qz_sld hx hb hX hbl hS (by omega) hL dL_law_35 ?_
  refine lv_bipush (v := nI 15) hx hb dL_law_36 (by decide) ?_
  refine qr_iand (z := xs i &&& nI 15) hx hb dL_law_38 rfl ?_
  generalize xs i &&& nI 15 = t
  by_cases ho : t.toInt < 0 ∨ 10 < t.toInt
  · refine lv_tableOut (tgt := 772) hx hb dL_law_39 ho rfl ?_
    refine W.widen (k := cells + 1) (n := slots + 6) (by omega) (by omega) ?_
    exact kc fJ Wc Wm H _ ls hI hl hP hD hS
  · obtain ⟨k, hk, rfl⟩ := qz_sw ho
    rcases (show k = 0 ∨ k = 1 ∨ k = 2 ∨ k = 3 ∨ k = 4 ∨ k = 5 ∨ k = 6 ∨ k = 7 ∨ k = 8 ∨ k = 9 ∨ k = 10 by omega) with rfl | rfl | rfl | rfl | rfl | rfl | rfl | rfl | rfl | rfl | rfl
    · refine lv_tableIn (tgt := 96) (off := 57) hx hb dL_law_39 (by decide) (by decide) (by decide) rfl ?_
      exact qt_feed C hl9 h4 hrm hI hl hP hD hS kc
    · refine lv_tableIn (tgt := 184) (off := 145) hx hb dL_law_39 (by decide) (by decide) (by decide) rfl ?_
      exact qt_rows C hl9 h4 hrm hI hl hP hD hS kc
    · refine lv_tableIn (tgt := 197) (off := 158) hx hb dL_law_39 (by decide) (by decide) (by decide) rfl ?_
      exact qt_symbol C hl9 h4 hrm hI hl hP hD hS kc
    · refine lv_tableIn (tgt := 265) (off := 226) hx hb dL_law_39 (by decide) (by decide) (by decide) rfl ?_
      exact qt_scratch C hl9 h4 hrm hI hl hP hD hS kc
    · refine lv_tableIn (tgt := 325) (off := 286) hx hb dL_law_39 (by decide) (by decide) (by decide) rfl ?_
      exact qt_burst C hl9 h4 hrm hI hl hP hD hS kc
    · refine lv_tableIn (tgt := 385) (off := 346) hx hb dL_law_39 (by decide) (by decide) (by decide) rfl ?_
      exact qt_read C hl9 h4 hrm hI hl hP hD hS kc
    · refine lv_tableIn (tgt := 429) (off := 390) hx hb dL_law_39 (by decide) (by decide) (by decide) rfl ?_
      exact qt_out C hl9 h4 hrm hI hl hP hD hS kc
    · refine lv_tableIn (tgt := 485) (off := 446) hx hb dL_law_39 (by decide) (by decide) (by decide) rfl ?_
      exact qt_flagged C hl9 h4 hrm hI hl hP hD hS kc
    · refine lv_tableIn (tgt := 548) (off := 509) hx hb dL_law_39 (by decide) (by decide) (by decide) rfl ?_
      exact qt_figure C hl9 h4 hrm hI hl hP hD hS kc
    · refine lv_tableIn (tgt := 604) (off := 565) hx hb dL_law_39 (by decide) (by decide) (by decide) rfl ?_
      exact qt_check C hl9 h4 hrm hI hl hP hD hS kc
    · refine lv_tableIn (tgt := 704) (off := 665) hx hb dL_law_39 (by decide) (by decide) (by decide) rfl ?_
      exact qt_product C hl9 h4 hrm hI hl hP hD hS kc
theorem qu_inc (i : Nat) : nI i + Int32.ofInt 4 = nI (i + 4) := nI_add i 4
set_option maxHeartbeats 4000000 in
set_option maxRecDepth 100000 in
theorem qu_loop {p : Program} {l : Launch} {e : Env} {s : State} {m : MethodId} {below : List Frame} {meth : Method} {c : Code} {dC : Nat → ClassId} {dI : Nat → Nat → Nat} {cI cZ cG cJ : ClassId} {b L : Nat} {xs : Nat → Int32} (C : qz_C p s m c dC dI cI cZ cG cJ b L xs) {Q : State → Prop} {x0 h0 u0 : Nat} (hl9 : l.stackTraces = false) (hend : ∀ (H : Heap) (locs : List Loc) (ls : Array Slot) (cells slots : Nat), va_S (fun q => s.heap.size ≤ q) s.heap H locs → cells ≤ room_1.cells → slots ≤ room_1.slots → W p l e room_1 s m #[Value.ref b] below meth c H locs cells slots Q (F0 m 778 ls [])) : ∀ (n i : Nat) (fJ : Nat → Int64) (Wc Wm : va_W) (H : Heap) (locs : List Loc) (ls : Array Slot) (cells slots : Nat), L ≤ i + 4 * n → i ≤ 4096 → cells + n ≤ room_1.cells → slots + 6 * n ≤ room_1.slots → qI cI cZ cG x0 h0 Wc Wm → lv_has ls 7 [(4, .int (nI i)), (3, .ref u0), (2, .ref h0), (1, .ref x0), (0, .ref b)] → va_P (dC, dI) vwCl (([(u0, .inl (cJ, 1, .inr (.inl fJ)))] ++ Wc) ++ Wm) H → va_D (fun q => s.heap.size ≤ q) (([(u0, .inl (cJ, 1, .inr (.inl fJ)))] ++ Wc) ++ Wm) → va_S (fun q => s.heap.size ≤ q) s.heap H locs → W p l e room_1 s m #[Value.ref b] below meth c H locs cells slots Q (F0 m 23 ls []) := by
  have hL : L ≤ 2048 := C.2.2.2.2.2.2.2.2.2.2.2
  intro n
  induction n with
  | zero =>
    intro i fJ Wc Wm H locs ls cells slots hn hi hc hs hI hl hP hD hS
    exact qu_exit C hi (by omega) hl hS (hend H locs ls cells slots hS (by omega) (by omega))
  | succ n ih =>
    intro i fJ Wc Wm H locs ls cells slots hn hi hc hs hI hl hP hD hS
    by_cases h4 : i + 4 ≤ L
    · refine qu_body C hl9 h4 ⟨by omega, by omega⟩ hI hl hP hD hS (fun fJ Wc Wm H locs ls hI hl hP hD hS => ?_)
      obtain ⟨hx, hb, hml, hown, hts, hX, hbl, hK, hN, hXx, hY, -⟩ := id C
      refine lv_iinc (k := 0) (v := nI (i + 4)) (lv' := [(4, .int (nI (i + 4))), (3, .ref u0), (2, .ref h0), (1, .ref x0), (0, .ref b)]) hx hb dL_law_772 hl rfl (qu_inc i) (by decide) rfl (fun ls hl => ?_)
      refine lv_goto (tgt := 23) hx hb dL_law_775 rfl ?_
      exact ih (i + 4) fJ Wc Wm H locs ls (cells + 1) (slots + 6) (by omega) (by omega) (by omega) (by omega) hI hl hP hD hS
    · exact qu_exit C hi (by omega) hl hS (hend H locs ls cells slots hS (by omega) (by omega))
