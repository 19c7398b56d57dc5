set_option maxHeartbeats 4000000 in
set_option maxRecDepth 100000 in
theorem qt_read {p : Program} {l : Launch} {e : Env} {s : State} {m : MethodId} {below : List Frame} {meth : Method} {c : Code} {dC : Nat → ClassId} {dI : Nat → Nat → Nat} {cI cZ cG cJ : ClassId} {b L : Nat} {xs : Nat → Int32} (C : qz_C p s m c dC dI cI cZ cG cJ b L xs) {Q : State → Prop} {H : Heap} {locs : List Loc} {cells slots : Nat} {ls : Array Slot} {x0 h0 u0 i : Nat} {fJ : Nat → Int64} {Wc Wm : va_W} (hl9 : l.stackTraces = false) (hi : i + 4 ≤ L) (hrm : cells + 1 ≤ room_1.cells ∧ slots + 6 ≤ room_1.slots) (hI : qI cI cZ cG x0 h0 Wc Wm) (hl : lv_has ls 7 [(4, .int (nI i)), (3, .ref u0), (2, .ref h0), (1, .ref x0), (0, .ref b)]) (hP : va_P (dC, dI) vwCl (([(u0, .inl (cJ, 1, .inr (.inl fJ)))] ++ Wc) ++ Wm) H) (hD : va_D (fun q => s.heap.size ≤ q) (([(u0, .inl (cJ, 1, .inr (.inl fJ)))] ++ Wc) ++ Wm)) (hS : va_S (fun q => s.heap.size ≤ q) s.heap H locs) (kc : ∀ (fJ : Nat → Int64) (Wc Wm : va_W) (H : Heap) (locs : List Loc) (ls : Array Slot), qI cI cZ cG x0 h0 Wc Wm → lv_has ls 7 [(4, .int (nI i)), (3, .ref u0), (2, .ref h0), (1, .ref x0), (0, .ref b)] → va_P (dC, dI) vwCl (([(u0, .inl (cJ, 1, .inr (.inl fJ)))] ++ Wc) ++ Wm) H → va_D (fun q => s.heap.size ≤ q) (([(u0, .inl (cJ, 1, .inr (.inl fJ)))] ++ Wc) ++ Wm) → va_S (fun q => s.heap.size ≤ q) s.heap H locs → W p l e room_1 s m #[Value.ref b] below meth c H locs (cells + 1) (slots + 6) Q (F0 m 772 ls [])) : W p l e room_1 s m #[Value.ref b] below meth c H locs cells slots Q (F0 m 385 ls []) := by
  obtain ⟨i0, i1, i2, i3, i4, i5, i6, i7, o0, o1, o2, o3, o4, o5, o6, o7, d0, d1, w0, w1, w2, r0, r1, r2, r3, r4, tw, tr, me, du, fi, le, ra, rb, yi, zi, lin, si, ai, ci, vi, yo, zo, lou, so, ao, co, vo, dd, ob, od, ou, lt, IW, OW, k0, e1, e2, e3, e4, e5, e6, e7, e8, e9, e10, e11, e12, mw, mz, mM, mpl, mI, mO, mD, mG, mR, mB, mU, mF, hWc, hWm, hL⟩ := hI
  obtain ⟨htr, htw, hli, hlo, hmD, -, -, -, -, -, hmU, hmF, hlt0, -⟩ := id hL
  have hW0 : Wc[0]? = some (x0, .inr (4, [.ref i0, .ref d0, .ref w0, .ref r0])) := by
    subst hWc
    rfl
  have hm0 : Wm[0]? = some (h0, .inr (5, [.int (nI k0), .int (nI tw), .ref e1, .ref e2, .ref e3, .int (nI tr), .ref e4, .ref e5, .ref e6, .ref e7, .ref e8, .int (nI me), .int (nI du), .int (nI fi), .int (nI le), .ref e9, .ref e10, .ref e11, .ref e12])) := by
    subst hWm
    rfl
  by_cases hrd : tr < tw
  · obtain ⟨NW, hNW⟩ : ∃ NW : ((Nat → BitVec 8) × (Nat → BitVec 8) × (Nat → Nat) × (Nat → BitVec 8) × (Nat → BitVec 8) × (Nat → BitVec 8) × (Nat → BitVec 8) × (Nat → Bool) × (Nat → BitVec 8) × (Nat → Bool) × Nat × Nat × Nat × Nat) → va_W, NW = fun u => (qW2 [(x0, .inr (4, [.ref i0, .ref d0, .ref w0, .ref r0])), (i0, .inr (2, [.int (nI 12), .ref i1, .ref i2, .ref i3, .ref i4, .ref i5, .ref i6, .ref i7])), (i1, .inl (cI, 12, .inl (qS u.1))), (i2, .inl (cZ, 12, .inl (qZ (qs_g3 u.2.2.2.2.2.2.2.1 tr)))), (i3, .inl (cI, 12, .inl (qS lin))), (i4, .inl (cI, 4, .inl (qS u.2.1))), (i5, .inl (cI, 4, .inl (qN u.2.2.1))), (i6, .inl (cI, 4, .inl (qS u.2.2.2.1))), (i7, .inl (cI, 4, .inl (qS u.2.2.2.2.1))), (o0, .inr (2, [.int (nI 16), .ref o1, .ref o2, .ref o3, .ref o4, .ref o5, .ref o6, .ref o7])), (o1, .inl (cI, 16, .inl (qS u.2.2.2.2.2.1))), (o2, .inl (cZ, 16, .inl (qZ zo))), (o3, .inl (cI, 16, .inl (qS lou))), (o4, .inl (cI, 4, .inl (qS u.2.2.2.2.2.2.1))), (o5, .inl (cI, 4, .inl (qN ao))), (o6, .inl (cI, 4, .inl (qS co))), (o7, .inl (cI, 4, .inl (qS vo))), (d0, .inr (0, [.ref d1, .int (nI tw), .int (nI (tr + 1))])), (d1, .inl (cI, 768, .inl (qS dd))), (w0, .inr (3, [.ref d0, .ref i0, .ref o0, .ref w1, .ref w2])), (w1, .inl (cG, 48, .inr (.inr (.inr (.inr (fun i => some (ra i))))))), (w2, .inl (cI, 16, .inl (qS ob))), (r0, .inr (1, [.ref d0, .ref i0, .ref o0, .ref r1, .ref r2, .ref r3, .ref r4, .int (nI u.2.2.2.2.2.2.2.2.2.2.1), .int (nI u.2.2.2.2.2.2.2.2.2.2.2.1), .int (nI u.2.2.2.2.2.2.2.2.2.2.2.2.1), .int (nI u.2.2.2.2.2.2.2.2.2.2.2.2.2)])), (r1, .inl (cG, 48, .inr (.inr (.inr (.inr (fun i => some (rb i))))))), (r2, .inl (cZ, 48, .inl (qZ u.2.2.2.2.2.2.2.1))), (r3, .inl (cI, 384, .inl (qS u.2.2.2.2.2.2.2.2.1))), (r4, .inl (cZ, 48, .inl (qZ u.2.2.2.2.2.2.2.2.2.1)))] (qP cI ra IW) (qP cI rb (va_up OW tr (qs_mw (qs_g1 dd tr))))) := ⟨_, rfl⟩
    have hM5 : ∀ z : Nat, Met l yX5_read wsX5_read ({ frames := 6, cells := 0, slots := 0, locals := 138 } : Room) (va_Pc [.ref x0] (fun U => U.heap.size = z ∧ va_P (dC, dI) vwCl Wc U.heap ∧ va_K (dC, dI) vwCl [(cI, .int), (cZ, .boolean), (cG, .array .int)] U ∧ va_D (fun _ => True) Wc ∧ qn_N U)) (va_Qi (fun (r : Int32) (u : ((Nat → BitVec 8) × (Nat → BitVec 8) × (Nat → Nat) × (Nat → BitVec 8) × (Nat → BitVec 8) × (Nat → BitVec 8) × (Nat → BitVec 8) × (Nat → Bool) × (Nat → BitVec 8) × (Nat → Bool) × Nat × Nat × Nat × Nat)) => ∃ b : Bool, r = nI (cond b 0 8) ∧ (b = true ↔ qs_ok (qs_g2 (va_up OW tr (qs_mw (qs_g1 dd tr))) tr) (qs_g3 u.2.2.2.2.2.2.2.1 tr)) ∧ (u.2.2.2.2.2.2.2.1 = if qs_st (qs_g1 dd tr) = 2 then va_up od tr true else od) ∧ (u.2.2.2.2.2.2.2.2.2.2.1 = me + if qs_st (qs_g1 dd tr) = 1 then 1 else 0) ∧ (u.2.2.2.2.2.2.2.2.2.2.2.1 = du + if qs_st (qs_g1 dd tr) = 2 then 1 else 0) ∧ u.2.2.2.2.2.2.2.2.1 = qs_wo ou tr (qs_fw (qs_g2 (va_up OW tr (qs_mw (qs_g1 dd tr))) tr) (qs_g3 u.2.2.2.2.2.2.2.1 tr)) 8 ∧ (qs_ok (qs_g2 (va_up OW tr (qs_mw (qs_g1 dd tr))) tr) (qs_g3 u.2.2.2.2.2.2.2.1 tr) → u.2.2.2.2.2.2.2.2.2.1 = lt ∧ u.2.2.2.2.2.2.2.2.2.2.2.2.1 = fi + qd_c (qs_g3 u.2.2.2.2.2.2.2.1 tr) 12 ∧ u.2.2.2.2.2.2.2.2.2.2.2.2.2 = le) ∧ (¬ qs_ok (qs_g2 (va_up OW tr (qs_mw (qs_g1 dd tr))) tr) (qs_g3 u.2.2.2.2.2.2.2.1 tr) → u.2.2.2.2.2.2.2.2.2.1 = va_up lt tr true ∧ u.2.2.2.2.2.2.2.2.2.2.2.2.1 = fi ∧ u.2.2.2.2.2.2.2.2.2.2.2.2.2 = le + 1)) (fun u t => va_P (dC, dI) vwCl (NW u) t.heap ∧ va_K (dC, dI) vwCl [(cI, .int), (cZ, .boolean), (cG, .array .int)] t ∧ va_D (va_A Wc z) (NW u)) (va_A Wc z)) 0 0 (va_A Wc z) := by
      intro z
      subst hNW
      subst hWc
      exact qc_read l dC dI cI cZ cG x0 i0 i1 i2 i3 i4 i5 i6 i7 o0 o1 o2 o3 o4 o5 o6 o7 d0 d1 w0 w1 w2 r0 r1 r2 r3 r4 tw tr me du fi le ra rb yi zi lin si ai ci vi yo zo lou so ao co vo dd ob od ou lt IW OW  z hli hlo hrd htw (hlt0 tr (by omega) (by omega))
    have hadw : ∀ u, (NW u).map (fun q => q.1) = Wc.map (fun q => q.1) := by
      intro u
      subst hNW
      subst hWc
      exact qW_adr [x0, i0, i1, i2, i3, i4, i5, i6, i7, o0, o1, o2, o3, o4, o5, o6, o7, d0, d1, w0, w1, w2, r0, r1, r2, r3, r4] rfl rfl
    obtain ⟨NM, hNM⟩ : ∃ NM : ((Nat → BitVec 8) × (Nat → Bool) × (Nat → Nat → BitVec 8) × (Nat → Nat) × (Nat → Bool) × (Nat → BitVec 8) × (Nat → Bool) × Nat × Nat × Nat × Nat) → va_W, NM = fun u => [(h0, .inr (5, [.int (nI 0), .int (nI tw), .ref e1, .ref e2, .ref e3, .int (nI (tr + 1)), .ref e4, .ref e5, .ref e6, .ref e7, .ref e8, .int (nI u.2.2.2.2.2.2.2.1), .int (nI u.2.2.2.2.2.2.2.2.1), .int (nI u.2.2.2.2.2.2.2.2.2.1), .int (nI u.2.2.2.2.2.2.2.2.2.2), .ref e9, .ref e10, .ref e11, .ref e12])), (e9, .inl (cI, 16, .inl (qS u.1))), (e10, .inl (cZ, 16, .inl (qZ u.2.1))), (e11, .inl (cI, 20, .inl (qS (qg_f u.2.2.1)))), (e12, .inl (cI, 4, .inl (qN u.2.2.2.1))), (e1, .inl (cI, 576, .inl (qS mI))), (e2, .inl (cI, 768, .inl (qS mO))), (e3, .inl (cI, 768, .inl (qS mD))), (e4, .inl (cI, 768, .inl (qS (qs_wg mG tr mD 16)))), (e5, .inl (cI, 576, .inl (qS (qs_wf 12 mR tr (qs_mw (qs_r1 (qs_wg mG tr mD 16) tr)) 12)))), (e6, .inl (cZ, 48, .inl (qZ u.2.2.2.2.1))), (e7, .inl (cI, 384, .inl (qS u.2.2.2.2.2.1))), (e8, .inl (cZ, 384, .inl (qZ u.2.2.2.2.2.2.1)))] := ⟨_, rfl⟩
    have hMm : ∀ z : Nat, Met l yX6_read wsX6_read ({ frames := 4, cells := 0, slots := 0, locals := 97 } : Room) (va_Pc [.ref h0] (fun U => U.heap.size = z ∧ va_P (dC, dI) vwCl Wm U.heap ∧ va_K (dC, dI) vwCl [(cI, .int), (cZ, .boolean)] U ∧ va_D (fun _ => True) Wm)) (va_Qi (fun (r : Int32) (u : ((Nat → BitVec 8) × (Nat → Bool) × (Nat → Nat → BitVec 8) × (Nat → Nat) × (Nat → Bool) × (Nat → BitVec 8) × (Nat → Bool) × Nat × Nat × Nat × Nat)) => u.2.2.2.2.1 = va_up mB tr (decide (qs_st (qs_r1 (qs_wg mG tr mD 16) tr) = 2)) ∧ (u.2.2.2.2.2.2.2.1 = me + if qs_st (qs_r1 (qs_wg mG tr mD 16) tr) = 1 then 1 else 0) ∧ (u.2.2.2.2.2.2.2.2.1 = du + if qs_st (qs_r1 (qs_wg mG tr mD 16) tr) = 2 then 1 else 0) ∧ u.2.2.2.2.2.1 = qs_wf 8 mU tr (qs_fw (qs_m2 (qs_wf 12 mR tr (qs_mw (qs_r1 (qs_wg mG tr mD 16) tr)) 12) tr) (qs_g3 u.2.2.2.2.1 tr)) 8 ∧ (qs_ok (qs_m2 (qs_wf 12 mR tr (qs_mw (qs_r1 (qs_wg mG tr mD 16) tr)) 12) tr) (qs_g3 u.2.2.2.2.1 tr) → r = nI 0 ∧ u.2.2.2.2.2.2.1 = qs_wz mF tr false 8 ∧ u.2.2.2.2.2.2.2.2.2.1 = fi + qd_c (qs_g3 u.2.2.2.2.1 tr) 12 ∧ u.2.2.2.2.2.2.2.2.2.2 = le) ∧ (¬ qs_ok (qs_m2 (qs_wf 12 mR tr (qs_mw (qs_r1 (qs_wg mG tr mD 16) tr)) 12) tr) (qs_g3 u.2.2.2.2.1 tr) → r = nI 8 ∧ u.2.2.2.2.2.2.1 = qs_wz mF tr true 8 ∧ u.2.2.2.2.2.2.2.2.2.1 = fi ∧ u.2.2.2.2.2.2.2.2.2.2 = le + 1)) (fun u t => va_P (dC, dI) vwCl (NM u) t.heap ∧ va_K (dC, dI) vwCl [(cI, .int), (cZ, .boolean)] t ∧ va_D (va_A Wm z) (NM u)) (va_A Wm z)) 0 0 (va_A Wm z) := by
      intro z
      subst hNM
      subst hWm
      exact qc_mread l dC dI cI cZ h0 k0 tw tr me du fi le e1 e2 e3 e4 e5 e6 e7 e8 e9 e10 e11 e12 mw mz mM mpl mI mO mD mG mR mB mU mF  z hrd htw
    have hMt : ∀ u2 : ((Nat → BitVec 8) × (Nat → Bool) × (Nat → Nat → BitVec 8) × (Nat → Nat) × (Nat → Bool) × (Nat → BitVec 8) × (Nat → Bool) × Nat × Nat × Nat × Nat), Met l yX6_thrown wsX6_thrown ({ frames := 0, cells := 0, slots := 0, locals := 0 } : Room) (va_Pc [.ref h0] (fun U => va_P (dC, dI) vwCl (NM u2) U.heap ∧ va_K (dC, dI) vwCl [(cI, .int), (cZ, .boolean)] U)) (vp_Si (fun r => r = nI 0)) 0 0 (fun _ => False) := by
      intro u2
      subst hNM
      exact qc_thrown l dC dI cI cZ h0 0 tw (tr + 1) u2.2.2.2.2.2.2.2.1 u2.2.2.2.2.2.2.2.2.1 u2.2.2.2.2.2.2.2.2.2.1 u2.2.2.2.2.2.2.2.2.2.2 e1 e2 e3 e4 e5 e6 e7 e8 e9 e10 e11 e12 u2.1 u2.2.1 u2.2.2.1 u2.2.2.2.1 mI mO mD (qs_wg mG tr mD 16) (qs_wf 12 mR tr (qs_mw (qs_r1 (qs_wg mG tr mD 16) tr)) 12) u2.2.2.2.2.1 u2.2.2.2.2.2.1 u2.2.2.2.2.2.2.1
    have hadm : ∀ u, (NM u).map (fun q => q.1) = Wm.map (fun q => q.1) := by
      intro u
      subst hNM
      subst hWm
      exact qM_adr [h0, e9, e10, e11, e12, e1, e2, e3, e4, e5, e6, e7, e8] rfl rfl
    have hm1 : ∀ u, ∃ fs, (NM u)[0]? = some (h0, .inr (5, fs)) := by
      intro u
      subst hNM
      exact ⟨_, rfl⟩
    refine qz_read C hi hrm hl hP hD hS  0 (by decide) (Int32 × ((Nat → BitVec 8) × (Nat → BitVec 8) × (Nat → Nat) × (Nat → BitVec 8) × (Nat → BitVec 8) × (Nat → BitVec 8) × (Nat → BitVec 8) × (Nat → Bool) × (Nat → BitVec 8) × (Nat → Bool) × Nat × Nat × Nat × Nat)) _ (fun u => vp_updL fJ 0 u.1.toInt64) (fun u => NW u.2) (fun u => hadw u.2) (fun z => ql_read l dC dI cI cZ cG cJ Wc x0 u0 _ fJ  z _ _ NW _ (by exact ⟨rfl, rfl, by decide, by decide⟩) hW0 hadw hM5) ((Nat → BitVec 8) × (Nat → Bool) × (Nat → Nat → BitVec 8) × (Nat → Nat) × (Nat → Bool) × (Nat → BitVec 8) × (Nat → Bool) × Nat × Nat × Nat × Nat) _ NM hadm _ (by exact ⟨rfl, rfl, by decide, by decide⟩) hm0 hm1 hMm (fun _ u2 _ => hMt u2) (by
      intro _ u r u2 h1 h2
      obtain ⟨b0, g0, g1, g2, g3, g4, g5, g6, g7⟩ := h1
      obtain ⟨k2, k3, k4, k5, k6, k7⟩ := h2
      obtain ⟨eW, eA, eZ, -⟩ := qL_read hL hrd g2 k2 g5 k5 (fun h => (g6 h).1) (fun h => (g7 h).1) (fun h => (k6 h).2.1) (fun h => (k7 h).2.1)
      refine (if_pos rfl).trans (congrArg Int32.toInt64 (g0.trans ?_))
      cases b0 with
      | true => exact (k6 (by rw [← eA, ← eZ]; exact g1.mp rfl)).1.symm
      | false => exact (k7 (fun h => by rw [← eA, ← eZ] at h; exact Bool.noConfusion (g1.mpr h))).1.symm) (by
      intro u r u2 H locs ls h1 h2 hl hP hD hS
      obtain ⟨r0_, yi2, si2, ai2, ci2, vi2, yo2, so2, od2, ou2, lt2, me2, du2, fi2, le2⟩ := u
      obtain ⟨w3, z3, M3, pl3, mB3, mU3, mF3, me3, du3, fi3, ls3⟩ := u2
      obtain ⟨b0, g0, g1, g2, g3, g4, g5, g6, g7⟩ := h1
      obtain ⟨k2, k3, k4, k5, k6, k7⟩ := h2
      dsimp only at g0 g1 g2 g3 g4 g5 g6 g7 k2 k3 k4 k5 k6 k7
      obtain ⟨eW, eA, eZ, hL2⟩ := qL_read hL hrd g2 k2 g5 k5 (fun h => (g6 h).1) (fun h => (g7 h).1) (fun h => (k6 h).2.1) (fun h => (k7 h).2.1)
      have c1 : me2 = me3 := by rw [k3, g3, eW]
      have c2 : du2 = du3 := by rw [k4, g4, eW]
      have c3 : fi2 = fi3 ∧ le2 = ls3 := by
        cases b0 with
        | true =>
          have ok := g1.mp rfl
          have ok2 := ok
          rw [eA, eZ] at ok2
          exact ⟨(g6 ok).2.1.trans (by rw [(k6 ok2).2.2.1, eZ]), (g6 ok).2.2.trans (k6 ok2).2.2.2.symm⟩
        | false =>
          have no : ¬ qs_ok (qs_g2 (va_up OW tr (qs_mw (qs_g1 dd tr))) tr) (qs_g3 od2 tr) := fun h => Bool.noConfusion (g1.mpr h)
          have no2 := no
          rw [eA, eZ] at no2
          exact ⟨(g7 no).2.1.trans (k7 no2).2.2.1.symm, (g7 no).2.2.trans (k7 no2).2.2.2.symm⟩
      obtain ⟨c4, c5⟩ := c3
      subst c1
      subst c2
      subst c4
      subst c5
      refine kc _ _ _ H locs ls ?_ hl hP hD hS
      exact ⟨i0, i1, i2, i3, i4, i5, i6, i7, o0, o1, o2, o3, o4, o5, o6, o7, d0, d1, w0, w1, w2, r0, r1, r2, r3, r4, tw, (tr + 1), me2, du2, fi2, le2, ra, rb, yi2, (qs_g3 od2 tr), lin, si2, ai2, ci2, vi2, yo2, zo, lou, so2, ao, co, vo, dd, ob, od2, ou2, lt2, IW, (va_up OW tr (qs_mw (qs_g1 dd tr))), 0, e1, e2, e3, e4, e5, e6, e7, e8, e9, e10, e11, e12, w3, z3, M3, pl3, mI, mO, mD, (qs_wg mG tr mD 16), (qs_wf 12 mR tr (qs_mw (qs_r1 (qs_wg mG tr mD 16) tr)) 12), mB3, mU3, mF3, congrFun hNW _, congrFun hNM _, hL2⟩)
  · have hM5 : ∀ z : Nat, vx_Met l yX5_read wsX5_read ({ frames := 6, cells := 1, slots := 6, locals := 90 } : Room) (va_Pc [.ref x0] (fun U => U.heap.size = z ∧ va_P (dC, dI) vwCl Wc U.heap ∧ va_K (dC, dI) vwCl [(cI, .int), (cZ, .boolean), (cG, .array .int)] U ∧ qn_N U ∧ qx_P U)) (va_Qi (fun (_ : Int32) (_ : Unit) => False) (fun _ _ => True) (fun q => z ≤ q)) (qx_X "java/util/NoSuchElementException" z) 1 6 (fun q => z ≤ q) := by
      intro z
      subst hWc
      exact qx_read l hl9 dC dI cI cZ cG x0 i0 i1 i2 i3 i4 i5 i6 i7 o0 o1 o2 o3 o4 o5 o6 o7 d0 d1 w0 w1 w2 r0 r1 r2 r3 r4 tw tr me du fi le ra rb yi zi lin si ai ci vi yo zo lou so ao co vo dd ob od ou lt IW OW  z (by omega) htw
    obtain ⟨NM, hNM⟩ : ∃ NM : Unit → va_W, NM = fun _ => [(h0, .inr (5, [.int (nI 1), .int (nI tw), .ref e1, .ref e2, .ref e3, .int (nI tr), .ref e4, .ref e5, .ref e6, .ref e7, .ref e8, .int (nI me), .int (nI du), .int (nI fi), .int (nI le), .ref e9, .ref e10, .ref e11, .ref e12])), (e9, .inl (cI, 16, .inl (qS mw))), (e10, .inl (cZ, 16, .inl (qZ mz))), (e11, .inl (cI, 20, .inl (qS (qg_f mM)))), (e12, .inl (cI, 4, .inl (qN mpl))), (e1, .inl (cI, 576, .inl (qS mI))), (e2, .inl (cI, 768, .inl (qS mO))), (e3, .inl (cI, 768, .inl (qS mD))), (e4, .inl (cI, 768, .inl (qS mG))), (e5, .inl (cI, 576, .inl (qS mR))), (e6, .inl (cZ, 48, .inl (qZ mB))), (e7, .inl (cI, 384, .inl (qS mU))), (e8, .inl (cZ, 384, .inl (qZ mF)))] := ⟨_, rfl⟩
    have hMm : ∀ z : Nat, Met l yX6_read wsX6_read ({ frames := 4, cells := 0, slots := 0, locals := 97 } : Room) (va_Pc [.ref h0] (fun U => U.heap.size = z ∧ va_P (dC, dI) vwCl Wm U.heap ∧ va_K (dC, dI) vwCl [(cI, .int), (cZ, .boolean)] U ∧ va_D (fun _ => True) Wm)) (va_Qi (fun (r : Int32) (_ : Unit) => r = nI 0) (fun u t => va_P (dC, dI) vwCl (NM u) t.heap ∧ va_K (dC, dI) vwCl [(cI, .int), (cZ, .boolean)] t ∧ va_D (va_A Wm z) (NM u)) (va_A Wm z)) 0 0 (va_A Wm z) := by
      intro z
      subst hNM
      subst hWm
      exact qc_mreadX l dC dI cI cZ h0 k0 tw tr me du fi le e1 e2 e3 e4 e5 e6 e7 e8 e9 e10 e11 e12 mw mz mM mpl mI mO mD mG mR mB mU mF  z (by omega) htw
    have hMt : ∀ u2 : Unit, Met l yX6_thrown wsX6_thrown ({ frames := 0, cells := 0, slots := 0, locals := 0 } : Room) (va_Pc [.ref h0] (fun U => va_P (dC, dI) vwCl (NM u2) U.heap ∧ va_K (dC, dI) vwCl [(cI, .int), (cZ, .boolean)] U)) (vp_Si (fun r => r = nI 1)) 0 0 (fun _ => False) := by
      intro u2
      subst hNM
      exact qc_thrown l dC dI cI cZ h0 1 tw tr me du fi le e1 e2 e3 e4 e5 e6 e7 e8 e9 e10 e11 e12 mw mz mM mpl mI mO mD mG mR mB mU mF
    have hadm : ∀ u, (NM u).map (fun q => q.1) = Wm.map (fun q => q.1) := by
      intro u
      subst hNM
      subst hWm
      exact qM_adr [h0, e9, e10, e11, e12, e1, e2, e3, e4, e5, e6, e7, e8] rfl rfl
    have hm1 : ∀ u, ∃ fs, (NM u)[0]? = some (h0, .inr (5, fs)) := by
      intro u
      subst hNM
      exact ⟨_, rfl⟩
    refine qz_read C hi hrm hl hP hD hS  1 (by decide) Unit _ (fun _ => fJ) (fun _ => Wc) (fun _ => rfl) (fun z => ql_read1 l dC dI cI cZ cG cJ Wc x0 u0 _ fJ  z hW0 hM5) Unit _ NM hadm _ (by exact ⟨rfl, rfl, by decide, by decide⟩) hm0 hm1 hMm (fun _ u2 _ => hMt u2) (by intro h0; exact absurd h0 (by decide)) (by
      intro u r u2 H locs ls h1 h2 hl hP hD hS
      refine kc _ _ _ H locs ls ?_ hl hP hD hS
      exact ⟨i0, i1, i2, i3, i4, i5, i6, i7, o0, o1, o2, o3, o4, o5, o6, o7, d0, d1, w0, w1, w2, r0, r1, r2, r3, r4, tw, tr, me, du, fi, le, ra, rb, yi, zi, lin, si, ai, ci, vi, yo, zo, lou, so, ao, co, vo, dd, ob, od, ou, lt, IW, OW, 1, e1, e2, e3, e4, e5, e6, e7, e8, e9, e10, e11, e12, mw, mz, mM, mpl, mI, mO, mD, mG, mR, mB, mU, mF, hWc, congrFun hNM _, hL⟩)
