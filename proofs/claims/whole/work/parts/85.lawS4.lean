set_option maxHeartbeats 4000000 in
set_option maxRecDepth 100000 in
theorem qt_scratch {p : Program} {l : Launch} {e : Env} {s : State} {m : MethodId} {below : List Frame} {meth : Method} {c : Code} {dC : Nat → ClassId} {dI : Nat → Nat → Nat} {cI cZ cG cJ : ClassId} {b L : Nat} {xs : Nat → Int32} (C : qz_C p s m c dC dI cI cZ cG cJ b L xs) {Q : State → Prop} {H : Heap} {locs : List Loc} {cells slots : Nat} {ls : Array Slot} {x0 h0 u0 i : Nat} {fJ : Nat → Int64} {Wc Wm : va_W} (hl9 : l.stackTraces = false) (hi : i + 4 ≤ L) (hrm : cells + 1 ≤ room_1.cells ∧ slots + 6 ≤ room_1.slots) (hI : qI cI cZ cG x0 h0 Wc Wm) (hl : lv_has ls 7 [(4, .int (nI i)), (3, .ref u0), (2, .ref h0), (1, .ref x0), (0, .ref b)]) (hP : va_P (dC, dI) vwCl (([(u0, .inl (cJ, 1, .inr (.inl fJ)))] ++ Wc) ++ Wm) H) (hD : va_D (fun q => s.heap.size ≤ q) (([(u0, .inl (cJ, 1, .inr (.inl fJ)))] ++ Wc) ++ Wm)) (hS : va_S (fun q => s.heap.size ≤ q) s.heap H locs) (kc : ∀ (fJ : Nat → Int64) (Wc Wm : va_W) (H : Heap) (locs : List Loc) (ls : Array Slot), qI cI cZ cG x0 h0 Wc Wm → lv_has ls 7 [(4, .int (nI i)), (3, .ref u0), (2, .ref h0), (1, .ref x0), (0, .ref b)] → va_P (dC, dI) vwCl (([(u0, .inl (cJ, 1, .inr (.inl fJ)))] ++ Wc) ++ Wm) H → va_D (fun q => s.heap.size ≤ q) (([(u0, .inl (cJ, 1, .inr (.inl fJ)))] ++ Wc) ++ Wm) → va_S (fun q => s.heap.size ≤ q) s.heap H locs → W p l e room_1 s m #[Value.ref b] below meth c H locs (cells + 1) (slots + 6) Q (F0 m 772 ls [])) : W p l e room_1 s m #[Value.ref b] below meth c H locs cells slots Q (F0 m 265 ls []) := by
  obtain ⟨i0, i1, i2, i3, i4, i5, i6, i7, o0, o1, o2, o3, o4, o5, o6, o7, d0, d1, w0, w1, w2, r0, r1, r2, r3, r4, tw, tr, me, du, fi, le, ra, rb, yi, zi, lin, si, ai, ci, vi, yo, zo, lou, so, ao, co, vo, dd, ob, od, ou, lt, IW, OW, k0, e1, e2, e3, e4, e5, e6, e7, e8, e9, e10, e11, e12, mw, mz, mM, mpl, mI, mO, mD, mG, mR, mB, mU, mF, hWc, hWm, hL⟩ := hI
  obtain ⟨htr, htw, hli, hlo, hmD, -, -, -, -, -, hmU, hmF, hlt0, -⟩ := id hL
  have hW0 : Wc[0]? = some (x0, .inr (4, [.ref i0, .ref d0, .ref w0, .ref r0])) := by
    subst hWc
    rfl
  have hm0 : Wm[0]? = some (h0, .inr (5, [.int (nI k0), .int (nI tw), .ref e1, .ref e2, .ref e3, .int (nI tr), .ref e4, .ref e5, .ref e6, .ref e7, .ref e8, .int (nI me), .int (nI du), .int (nI fi), .int (nI le), .ref e9, .ref e10, .ref e11, .ref e12])) := by
    subst hWm
    rfl
  by_cases hon : ¬ xs (i + 1) < 0 ∧ ¬ nI tw ≤ xs (i + 1) ∧ ¬ xs (i + 2) < 0 ∧ ¬ nI 16 ≤ xs (i + 2)
  · obtain ⟨x, hx0, hx1⟩ := qz_nat hon.1
    obtain ⟨y, hy0, hy1⟩ := qz_nat hon.2.2.1
    have hxt : x < tw := qz_lt (by omega) hx1 (by rw [← hx0]; exact hon.2.1)
    have hyt : y < 16 := qz_lt (by omega) hy1 (by rw [← hy0]; exact hon.2.2.2)
    by_cases hsy : ¬ xs (i + 3) < 0 ∧ ¬ nI 255 < xs (i + 3)
    · obtain ⟨v, hv0⟩ := qz_sy hsy
      by_cases hrd : tr ≤ x
      · obtain ⟨NW, hNW⟩ : ∃ NW : Unit → va_W, NW = fun u => (qW2 [(x0, .inr (4, [.ref i0, .ref d0, .ref w0, .ref r0])), (i0, .inr (2, [.int (nI 12), .ref i1, .ref i2, .ref i3, .ref i4, .ref i5, .ref i6, .ref i7])), (i1, .inl (cI, 12, .inl (qS yi))), (i2, .inl (cZ, 12, .inl (qZ zi))), (i3, .inl (cI, 12, .inl (qS lin))), (i4, .inl (cI, 4, .inl (qS si))), (i5, .inl (cI, 4, .inl (qN ai))), (i6, .inl (cI, 4, .inl (qS ci))), (i7, .inl (cI, 4, .inl (qS vi))), (o0, .inr (2, [.int (nI 16), .ref o1, .ref o2, .ref o3, .ref o4, .ref o5, .ref o6, .ref o7])), (o1, .inl (cI, 16, .inl (qS yo))), (o2, .inl (cZ, 16, .inl (qZ zo))), (o3, .inl (cI, 16, .inl (qS lou))), (o4, .inl (cI, 4, .inl (qS so))), (o5, .inl (cI, 4, .inl (qN ao))), (o6, .inl (cI, 4, .inl (qS co))), (o7, .inl (cI, 4, .inl (qS vo))), (d0, .inr (0, [.ref d1, .int (nI tw), .int (nI tr)])), (d1, .inl (cI, 768, .inl (qS (va_up dd (x * 16 + y) (dd (x * 16 + y) ^^^ v))))), (w0, .inr (3, [.ref d0, .ref i0, .ref o0, .ref w1, .ref w2])), (w1, .inl (cG, 48, .inr (.inr (.inr (.inr (fun i => some (ra i))))))), (w2, .inl (cI, 16, .inl (qS ob))), (r0, .inr (1, [.ref d0, .ref i0, .ref o0, .ref r1, .ref r2, .ref r3, .ref r4, .int (nI me), .int (nI du), .int (nI fi), .int (nI le)])), (r1, .inl (cG, 48, .inr (.inr (.inr (.inr (fun i => some (rb i))))))), (r2, .inl (cZ, 48, .inl (qZ od))), (r3, .inl (cI, 384, .inl (qS ou))), (r4, .inl (cZ, 48, .inl (qZ lt)))] (qP cI ra IW) (qP cI rb OW)) := ⟨_, rfl⟩
        have hM5 : ∀ z : Nat, Met l yX5_scratch wsX5_scratch ({ frames := 1, cells := 0, slots := 0, locals := 22 } : Room) (va_Pc [.ref x0, .int (nI x), .int (nI y), .int (sI v)] (fun U => U.heap.size = z ∧ va_P (dC, dI) vwCl Wc U.heap ∧ va_K (dC, dI) vwCl [(cI, .int), (cZ, .boolean), (cG, .array .int)] U ∧ va_D (fun _ => True) Wc ∧ qn_N U)) (va_Qv (fun (_ : Unit) => True) (fun u t => va_P (dC, dI) vwCl (NW u) t.heap ∧ va_K (dC, dI) vwCl [(cI, .int), (cZ, .boolean), (cG, .array .int)] t ∧ va_D (va_A Wc z) (NW u)) (va_A Wc z)) 0 0 (va_A Wc z) := by
          intro z
          subst hNW
          subst hWc
          exact qc_scr l dC dI cI cZ cG x0 i0 i1 i2 i3 i4 i5 i6 i7 o0 o1 o2 o3 o4 o5 o6 o7 d0 d1 w0 w1 w2 r0 r1 r2 r3 r4 tw tr me du fi le ra rb yi zi lin si ai ci vi yo zo lou so ao co vo dd ob od ou lt IW OW x y v z hxt htw hyt hrd
        have hadw : ∀ u, (NW u).map (fun q => q.1) = Wc.map (fun q => q.1) := by
          intro u
          subst hNW
          subst hWc
          exact qW_adr [x0, i0, i1, i2, i3, i4, i5, i6, i7, o0, o1, o2, o3, o4, o5, o6, o7, d0, d1, w0, w1, w2, r0, r1, r2, r3, r4] rfl rfl
        obtain ⟨NM, hNM⟩ : ∃ NM : Unit → va_W, NM = fun _ => [(h0, .inr (5, [.int (nI 0), .int (nI tw), .ref e1, .ref e2, .ref e3, .int (nI tr), .ref e4, .ref e5, .ref e6, .ref e7, .ref e8, .int (nI me), .int (nI du), .int (nI fi), .int (nI le), .ref e9, .ref e10, .ref e11, .ref e12])), (e9, .inl (cI, 16, .inl (qS mw))), (e10, .inl (cZ, 16, .inl (qZ mz))), (e11, .inl (cI, 20, .inl (qS (qg_f mM)))), (e12, .inl (cI, 4, .inl (qN mpl))), (e1, .inl (cI, 576, .inl (qS mI))), (e2, .inl (cI, 768, .inl (qS mO))), (e3, .inl (cI, 768, .inl (qS (va_up mD (16 * x + y) (mD (16 * x + y) ^^^ v))))), (e4, .inl (cI, 768, .inl (qS mG))), (e5, .inl (cI, 576, .inl (qS mR))), (e6, .inl (cZ, 48, .inl (qZ mB))), (e7, .inl (cI, 384, .inl (qS mU))), (e8, .inl (cZ, 384, .inl (qZ mF)))] := ⟨_, rfl⟩
        have hMm : ∀ z : Nat, Met l yX6_scratch wsX6_scratch ({ frames := 1, cells := 0, slots := 0, locals := 22 } : Room) (va_Pc [.ref h0, .int (nI x), .int (nI y), .int (sI v)] (fun U => U.heap.size = z ∧ va_P (dC, dI) vwCl Wm U.heap ∧ va_K (dC, dI) vwCl [(cI, .int), (cZ, .boolean)] U ∧ va_D (fun _ => True) Wm)) (va_Qv (fun (_ : Unit) => True) (fun u t => va_P (dC, dI) vwCl (NM u) t.heap ∧ va_K (dC, dI) vwCl [(cI, .int), (cZ, .boolean)] t ∧ va_D (va_A Wm z) (NM u)) (va_A Wm z)) 0 0 (va_A Wm z) := by
          intro z
          subst hNM
          subst hWm
          exact qc_mscr l dC dI cI cZ h0 k0 tw tr me du fi le e1 e2 e3 e4 e5 e6 e7 e8 e9 e10 e11 e12 mw mz mM mpl mI mO mD mG mR mB mU mF x y v z hxt htw hyt hrd
        have hMt : ∀ u2 : Unit, Met l yX6_thrown wsX6_thrown ({ frames := 0, cells := 0, slots := 0, locals := 0 } : Room) (va_Pc [.ref h0] (fun U => va_P (dC, dI) vwCl (NM u2) U.heap ∧ va_K (dC, dI) vwCl [(cI, .int), (cZ, .boolean)] U)) (vp_Si (fun r => r = nI 0)) 0 0 (fun _ => False) := by
          intro u2
          subst hNM
          exact qc_thrown l dC dI cI cZ h0 0 tw tr me du fi le e1 e2 e3 e4 e5 e6 e7 e8 e9 e10 e11 e12 mw mz mM mpl mI mO (va_up mD (16 * x + y) (mD (16 * x + y) ^^^ v)) mG mR mB mU mF
        have hadm : ∀ u, (NM u).map (fun q => q.1) = Wm.map (fun q => q.1) := by
          intro u
          subst hNM
          subst hWm
          exact qM_adr [h0, e9, e10, e11, e12, e1, e2, e3, e4, e5, e6, e7, e8] rfl rfl
        have hm1 : ∀ u, ∃ fs, (NM u)[0]? = some (h0, .inr (5, fs)) := by
          intro u
          subst hNM
          exact ⟨_, rfl⟩
        refine qz_scratch C hi hrm hl hP hD hS (nI x) hx0 (nI y) hy0 (sI v) hv0 0 (by decide) Unit _ (fun u => fJ) (fun u => NW u) (fun u => hadw u) (fun z => ql_scratch l dC dI cI cZ cG cJ Wc x0 u0 _ fJ (nI x) (nI y) (sI v) z _ _ NW _ (by exact ⟨rfl, rfl, by decide, by decide⟩) hW0 hadw hM5) Unit _ NM hadm _ (by exact ⟨rfl, rfl, by decide, by decide⟩) hm0 hm1 hMm (fun u2 _ => hMt u2) (by
          intro u u2 H locs ls h1 h2 hl hP hD hS
          refine kc _ _ _ H locs ls ?_ hl hP hD hS
          exact ⟨i0, i1, i2, i3, i4, i5, i6, i7, o0, o1, o2, o3, o4, o5, o6, o7, d0, d1, w0, w1, w2, r0, r1, r2, r3, r4, tw, tr, me, du, fi, le, ra, rb, yi, zi, lin, si, ai, ci, vi, yo, zo, lou, so, ao, co, vo, (va_up dd (x * 16 + y) (dd (x * 16 + y) ^^^ v)), ob, od, ou, lt, IW, OW, 0, e1, e2, e3, e4, e5, e6, e7, e8, e9, e10, e11, e12, mw, mz, mM, mpl, mI, mO, (va_up mD (16 * x + y) (mD (16 * x + y) ^^^ v)), mG, mR, mB, mU, mF, congrFun hNW _, congrFun hNM _, qL_scr hL hxt hyt hrd v⟩)
      · have hM5 : ∀ z : Nat, vx_Met l yX5_scratch wsX5_scratch ({ frames := 6, cells := 1, slots := 6, locals := 90 } : Room) (va_Pc [.ref x0, .int (nI x), .int (nI y), .int (sI v)] (fun U => U.heap.size = z ∧ va_P (dC, dI) vwCl Wc U.heap ∧ va_K (dC, dI) vwCl [(cI, .int), (cZ, .boolean), (cG, .array .int)] U ∧ qn_N U ∧ qx_P U)) (va_Qv (fun (_ : Unit) => False) (fun _ _ => True) (fun q => z ≤ q)) (qx_X "java/lang/IllegalStateException" z) 1 6 (fun q => z ≤ q) := by
          intro z
          subst hWc
          exact qx_scr3 l hl9 dC dI cI cZ cG x0 i0 i1 i2 i3 i4 i5 i6 i7 o0 o1 o2 o3 o4 o5 o6 o7 d0 d1 w0 w1 w2 r0 r1 r2 r3 r4 tw tr me du fi le ra rb yi zi lin si ai ci vi yo zo lou so ao co vo dd ob od ou lt IW OW x y v z hxt htw hyt (by omega) (by omega)
        obtain ⟨NM, hNM⟩ : ∃ NM : Unit → va_W, NM = fun _ => [(h0, .inr (5, [.int (nI 3), .int (nI tw), .ref e1, .ref e2, .ref e3, .int (nI tr), .ref e4, .ref e5, .ref e6, .ref e7, .ref e8, .int (nI me), .int (nI du), .int (nI fi), .int (nI le), .ref e9, .ref e10, .ref e11, .ref e12])), (e9, .inl (cI, 16, .inl (qS mw))), (e10, .inl (cZ, 16, .inl (qZ mz))), (e11, .inl (cI, 20, .inl (qS (qg_f mM)))), (e12, .inl (cI, 4, .inl (qN mpl))), (e1, .inl (cI, 576, .inl (qS mI))), (e2, .inl (cI, 768, .inl (qS mO))), (e3, .inl (cI, 768, .inl (qS mD))), (e4, .inl (cI, 768, .inl (qS mG))), (e5, .inl (cI, 576, .inl (qS mR))), (e6, .inl (cZ, 48, .inl (qZ mB))), (e7, .inl (cI, 384, .inl (qS mU))), (e8, .inl (cZ, 384, .inl (qZ mF)))] := ⟨_, rfl⟩
        have hMm : ∀ z : Nat, Met l yX6_scratch wsX6_scratch ({ frames := 1, cells := 0, slots := 0, locals := 22 } : Room) (va_Pc [.ref h0, .int (nI x), .int (nI y), .int (sI v)] (fun U => U.heap.size = z ∧ va_P (dC, dI) vwCl Wm U.heap ∧ va_K (dC, dI) vwCl [(cI, .int), (cZ, .boolean)] U ∧ va_D (fun _ => True) Wm)) (va_Qv (fun (_ : Unit) => True) (fun u t => va_P (dC, dI) vwCl (NM u) t.heap ∧ va_K (dC, dI) vwCl [(cI, .int), (cZ, .boolean)] t ∧ va_D (va_A Wm z) (NM u)) (va_A Wm z)) 0 0 (va_A Wm z) := by
          intro z
          subst hNM
          subst hWm
          exact qc_mscr3 l dC dI cI cZ h0 k0 tw tr me du fi le e1 e2 e3 e4 e5 e6 e7 e8 e9 e10 e11 e12 mw mz mM mpl mI mO mD mG mR mB mU mF x y v z hxt htw hyt (by omega) (by omega)
        have hMt : ∀ u2 : Unit, Met l yX6_thrown wsX6_thrown ({ frames := 0, cells := 0, slots := 0, locals := 0 } : Room) (va_Pc [.ref h0] (fun U => va_P (dC, dI) vwCl (NM u2) U.heap ∧ va_K (dC, dI) vwCl [(cI, .int), (cZ, .boolean)] U)) (vp_Si (fun r => r = nI 3)) 0 0 (fun _ => False) := by
          intro u2
          subst hNM
          exact qc_thrown l dC dI cI cZ h0 3 tw tr me du fi le e1 e2 e3 e4 e5 e6 e7 e8 e9 e10 e11 e12 mw mz mM mpl mI mO mD mG mR mB mU mF
        have hadm : ∀ u, (NM u).map (fun q => q.1) = Wm.map (fun q => q.1) := by
          intro u
          subst hNM
          subst hWm
          exact qM_adr [h0, e9, e10, e11, e12, e1, e2, e3, e4, e5, e6, e7, e8] rfl rfl
        have hm1 : ∀ u, ∃ fs, (NM u)[0]? = some (h0, .inr (5, fs)) := by
          intro u
          subst hNM
          exact ⟨_, rfl⟩
        refine qz_scratch C hi hrm hl hP hD hS (nI x) hx0 (nI y) hy0 (sI v) hv0 3 (by decide) Unit _ (fun _ => fJ) (fun _ => Wc) (fun _ => rfl) (fun z => ql_scratch3 l dC dI cI cZ cG cJ Wc x0 u0 _ fJ (nI x) (nI y) (sI v) z hW0 hM5) Unit _ NM hadm _ (by exact ⟨rfl, rfl, by decide, by decide⟩) hm0 hm1 hMm (fun u2 _ => hMt u2) (by
          intro u u2 H locs ls h1 h2 hl hP hD hS
          refine kc _ _ _ H locs ls ?_ hl hP hD hS
          exact ⟨i0, i1, i2, i3, i4, i5, i6, i7, o0, o1, o2, o3, o4, o5, o6, o7, d0, d1, w0, w1, w2, r0, r1, r2, r3, r4, tw, tr, me, du, fi, le, ra, rb, yi, zi, lin, si, ai, ci, vi, yo, zo, lou, so, ao, co, vo, dd, ob, od, ou, lt, IW, OW, 3, e1, e2, e3, e4, e5, e6, e7, e8, e9, e10, e11, e12, mw, mz, mM, mpl, mI, mO, mD, mG, mR, mB, mU, mF, hWc, congrFun hNM _, hL⟩)
    · have hM5 : ∀ z : Nat, vx_Met l yX5_scratch wsX5_scratch ({ frames := 6, cells := 1, slots := 6, locals := 90 } : Room) (va_Pc [.ref x0, .int (nI x), .int (nI y), .int (xs (i + 3))] (fun U => U.heap.size = z ∧ va_P (dC, dI) vwCl Wc U.heap ∧ va_K (dC, dI) vwCl [(cI, .int), (cZ, .boolean), (cG, .array .int)] U ∧ qn_N U ∧ qx_P U)) (va_Qv (fun (_ : Unit) => False) (fun _ _ => True) (fun q => z ≤ q)) (qx_X "java/lang/IllegalArgumentException" z) 1 6 (fun q => z ≤ q) := by
        intro z
        subst hWc
        exact qx_scr2 l hl9 dC dI cI cZ cG x0 i0 i1 i2 i3 i4 i5 i6 i7 o0 o1 o2 o3 o4 o5 o6 o7 d0 d1 w0 w1 w2 r0 r1 r2 r3 r4 tw tr me du fi le ra rb yi zi lin si ai ci vi yo zo lou so ao co vo dd ob od ou lt IW OW x y (xs (i + 3)) z hxt htw hyt hsy
      obtain ⟨NM, hNM⟩ : ∃ NM : Unit → va_W, NM = fun _ => [(h0, .inr (5, [.int (nI 2), .int (nI tw), .ref e1, .ref e2, .ref e3, .int (nI tr), .ref e4, .ref e5, .ref e6, .ref e7, .ref e8, .int (nI me), .int (nI du), .int (nI fi), .int (nI le), .ref e9, .ref e10, .ref e11, .ref e12])), (e9, .inl (cI, 16, .inl (qS mw))), (e10, .inl (cZ, 16, .inl (qZ mz))), (e11, .inl (cI, 20, .inl (qS (qg_f mM)))), (e12, .inl (cI, 4, .inl (qN mpl))), (e1, .inl (cI, 576, .inl (qS mI))), (e2, .inl (cI, 768, .inl (qS mO))), (e3, .inl (cI, 768, .inl (qS mD))), (e4, .inl (cI, 768, .inl (qS mG))), (e5, .inl (cI, 576, .inl (qS mR))), (e6, .inl (cZ, 48, .inl (qZ mB))), (e7, .inl (cI, 384, .inl (qS mU))), (e8, .inl (cZ, 384, .inl (qZ mF)))] := ⟨_, rfl⟩
      have hMm : ∀ z : Nat, Met l yX6_scratch wsX6_scratch ({ frames := 1, cells := 0, slots := 0, locals := 22 } : Room) (va_Pc [.ref h0, .int (nI x), .int (nI y), .int (xs (i + 3))] (fun U => U.heap.size = z ∧ va_P (dC, dI) vwCl Wm U.heap ∧ va_K (dC, dI) vwCl [(cI, .int), (cZ, .boolean)] U ∧ va_D (fun _ => True) Wm)) (va_Qv (fun (_ : Unit) => True) (fun u t => va_P (dC, dI) vwCl (NM u) t.heap ∧ va_K (dC, dI) vwCl [(cI, .int), (cZ, .boolean)] t ∧ va_D (va_A Wm z) (NM u)) (va_A Wm z)) 0 0 (va_A Wm z) := by
        intro z
        subst hNM
        subst hWm
        exact qc_mscr2 l dC dI cI cZ h0 k0 tw tr me du fi le e1 e2 e3 e4 e5 e6 e7 e8 e9 e10 e11 e12 mw mz mM mpl mI mO mD mG mR mB mU mF x y (xs (i + 3)) z hxt htw hyt hsy
      have hMt : ∀ u2 : Unit, Met l yX6_thrown wsX6_thrown ({ frames := 0, cells := 0, slots := 0, locals := 0 } : Room) (va_Pc [.ref h0] (fun U => va_P (dC, dI) vwCl (NM u2) U.heap ∧ va_K (dC, dI) vwCl [(cI, .int), (cZ, .boolean)] U)) (vp_Si (fun r => r = nI 2)) 0 0 (fun _ => False) := by
        intro u2
        subst hNM
        exact qc_thrown l dC dI cI cZ h0 2 tw tr me du fi le e1 e2 e3 e4 e5 e6 e7 e8 e9 e10 e11 e12 mw mz mM mpl mI mO mD mG mR mB mU mF
      have hadm : ∀ u, (NM u).map (fun q => q.1) = Wm.map (fun q => q.1) := by
        intro u
        subst hNM
        subst hWm
        exact qM_adr [h0, e9, e10, e11, e12, e1, e2, e3, e4, e5, e6, e7, e8] rfl rfl
      have hm1 : ∀ u, ∃ fs, (NM u)[0]? = some (h0, .inr (5, fs)) := by
        intro u
        subst hNM
        exact ⟨_, rfl⟩
      refine qz_scratch C hi hrm hl hP hD hS (nI x) hx0 (nI y) hy0 (xs (i + 3)) rfl 2 (by decide) Unit _ (fun _ => fJ) (fun _ => Wc) (fun _ => rfl) (fun z => ql_scratch2 l dC dI cI cZ cG cJ Wc x0 u0 _ fJ (nI x) (nI y) (xs (i + 3)) z hW0 hM5) Unit _ NM hadm _ (by exact ⟨rfl, rfl, by decide, by decide⟩) hm0 hm1 hMm (fun u2 _ => hMt u2) (by
        intro u u2 H locs ls h1 h2 hl hP hD hS
        refine kc _ _ _ H locs ls ?_ hl hP hD hS
        exact ⟨i0, i1, i2, i3, i4, i5, i6, i7, o0, o1, o2, o3, o4, o5, o6, o7, d0, d1, w0, w1, w2, r0, r1, r2, r3, r4, tw, tr, me, du, fi, le, ra, rb, yi, zi, lin, si, ai, ci, vi, yo, zo, lou, so, ao, co, vo, dd, ob, od, ou, lt, IW, OW, 2, e1, e2, e3, e4, e5, e6, e7, e8, e9, e10, e11, e12, mw, mz, mM, mpl, mI, mO, mD, mG, mR, mB, mU, mF, hWc, congrFun hNM _, hL⟩)
  · have hM5 : ∀ z : Nat, vx_Met l yX5_scratch wsX5_scratch ({ frames := 6, cells := 1, slots := 6, locals := 90 } : Room) (va_Pc [.ref x0, .int (xs (i + 1)), .int (xs (i + 2)), .int (xs (i + 3))] (fun U => U.heap.size = z ∧ va_P (dC, dI) vwCl Wc U.heap ∧ va_K (dC, dI) vwCl [(cI, .int), (cZ, .boolean), (cG, .array .int)] U ∧ qn_N U ∧ qx_P U)) (va_Qv (fun (_ : Unit) => False) (fun _ _ => True) (fun q => z ≤ q)) (qx_X "java/lang/IndexOutOfBoundsException" z) 1 6 (fun q => z ≤ q) := by
      intro z
      subst hWc
      exact qx_scr1 l hl9 dC dI cI cZ cG x0 i0 i1 i2 i3 i4 i5 i6 i7 o0 o1 o2 o3 o4 o5 o6 o7 d0 d1 w0 w1 w2 r0 r1 r2 r3 r4 tw tr me du fi le ra rb yi zi lin si ai ci vi yo zo lou so ao co vo dd ob od ou lt IW OW (xs (i + 1)) (xs (i + 2)) (xs (i + 3)) z hon
    obtain ⟨NM, hNM⟩ : ∃ NM : Unit → va_W, NM = fun _ => [(h0, .inr (5, [.int (nI 1), .int (nI tw), .ref e1, .ref e2, .ref e3, .int (nI tr), .ref e4, .ref e5, .ref e6, .ref e7, .ref e8, .int (nI me), .int (nI du), .int (nI fi), .int (nI le), .ref e9, .ref e10, .ref e11, .ref e12])), (e9, .inl (cI, 16, .inl (qS mw))), (e10, .inl (cZ, 16, .inl (qZ mz))), (e11, .inl (cI, 20, .inl (qS (qg_f mM)))), (e12, .inl (cI, 4, .inl (qN mpl))), (e1, .inl (cI, 576, .inl (qS mI))), (e2, .inl (cI, 768, .inl (qS mO))), (e3, .inl (cI, 768, .inl (qS mD))), (e4, .inl (cI, 768, .inl (qS mG))), (e5, .inl (cI, 576, .inl (qS mR))), (e6, .inl (cZ, 48, .inl (qZ mB))), (e7, .inl (cI, 384, .inl (qS mU))), (e8, .inl (cZ, 384, .inl (qZ mF)))] := ⟨_, rfl⟩
    have hMm : ∀ z : Nat, Met l yX6_scratch wsX6_scratch ({ frames := 1, cells := 0, slots := 0, locals := 22 } : Room) (va_Pc [.ref h0, .int (xs (i + 1)), .int (xs (i + 2)), .int (xs (i + 3))] (fun U => U.heap.size = z ∧ va_P (dC, dI) vwCl Wm U.heap ∧ va_K (dC, dI) vwCl [(cI, .int), (cZ, .boolean)] U ∧ va_D (fun _ => True) Wm)) (va_Qv (fun (_ : Unit) => True) (fun u t => va_P (dC, dI) vwCl (NM u) t.heap ∧ va_K (dC, dI) vwCl [(cI, .int), (cZ, .boolean)] t ∧ va_D (va_A Wm z) (NM u)) (va_A Wm z)) 0 0 (va_A Wm z) := by
      intro z
      subst hNM
      subst hWm
      exact qc_mscr1 l dC dI cI cZ h0 k0 tw tr me du fi le e1 e2 e3 e4 e5 e6 e7 e8 e9 e10 e11 e12 mw mz mM mpl mI mO mD mG mR mB mU mF (xs (i + 1)) (xs (i + 2)) (xs (i + 3)) z hon
    have hMt : ∀ u2 : Unit, Met l yX6_thrown wsX6_thrown ({ frames := 0, cells := 0, slots := 0, locals := 0 } : Room) (va_Pc [.ref h0] (fun U => va_P (dC, dI) vwCl (NM u2) U.heap ∧ va_K (dC, dI) vwCl [(cI, .int), (cZ, .boolean)] U)) (vp_Si (fun r => r = nI 1)) 0 0 (fun _ => False) := by
      intro u2
      subst hNM
      exact qc_thrown l dC dI cI cZ h0 1 tw tr me du fi le e1 e2 e3 e4 e5 e6 e7 e8 e9 e10 e11 e12 mw mz mM mpl mI mO mD mG mR mB mU mF
    have hadm : ∀ u, (NM u).map (fun q => q.1) = Wm.map (fun q => q.1) := by
      intro u
      subst hNM
      subst hWm
      exact qM_adr [h0, e9, e10, e11, e12, e1, e2, e3, e4, e5, e6, e7, e8] rfl rfl
    have hm1 : ∀ u, ∃ fs, (NM u)[0]? = some (h0, .inr (5, fs)) := by
      intro u
      subst hNM
      exact ⟨_, rfl⟩
    refine qz_scratch C hi hrm hl hP hD hS (xs (i + 1)) rfl (xs (i + 2)) rfl (xs (i + 3)) rfl 1 (by decide) Unit _ (fun _ => fJ) (fun _ => Wc) (fun _ => rfl) (fun z => ql_scratch1 l dC dI cI cZ cG cJ Wc x0 u0 _ fJ (xs (i + 1)) (xs (i + 2)) (xs (i + 3)) z hW0 hM5) Unit _ NM hadm _ (by exact ⟨rfl, rfl, by decide, by decide⟩) hm0 hm1 hMm (fun u2 _ => hMt u2) (by
      intro u u2 H locs ls h1 h2 hl hP hD hS
      refine kc _ _ _ H locs ls ?_ hl hP hD hS
      exact ⟨i0, i1, i2, i3, i4, i5, i6, i7, o0, o1, o2, o3, o4, o5, o6, o7, d0, d1, w0, w1, w2, r0, r1, r2, r3, r4, tw, tr, me, du, fi, le, ra, rb, yi, zi, lin, si, ai, ci, vi, yo, zo, lou, so, ao, co, vo, dd, ob, od, ou, lt, IW, OW, 1, e1, e2, e3, e4, e5, e6, e7, e8, e9, e10, e11, e12, mw, mz, mM, mpl, mI, mO, mD, mG, mR, mB, mU, mF, hWc, congrFun hNM _, hL⟩)
