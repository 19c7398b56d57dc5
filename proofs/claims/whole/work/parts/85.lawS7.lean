set_option maxHeartbeats 4000000 in
set_option maxRecDepth 100000 in
theorem qt_figure {p : Program} {l : Launch} {e : Env} {s : State} {m : MethodId} {below : List Frame} {meth : Method} {c : Code} {dC : Nat → ClassId} {dI : Nat → Nat → Nat} {cI cZ cG cJ : ClassId} {b L : Nat} {xs : Nat → Int32} (C : qz_C p s m c dC dI cI cZ cG cJ b L xs) {Q : State → Prop} {H : Heap} {locs : List Loc} {cells slots : Nat} {ls : Array Slot} {x0 h0 u0 i : Nat} {fJ : Nat → Int64} {Wc Wm : va_W} (hl9 : l.stackTraces = false) (hi : i + 4 ≤ L) (hrm : cells + 1 ≤ room_1.cells ∧ slots + 6 ≤ room_1.slots) (hI : qI cI cZ cG x0 h0 Wc Wm) (hl : lv_has ls 7 [(4, .int (nI i)), (3, .ref u0), (2, .ref h0), (1, .ref x0), (0, .ref b)]) (hP : va_P (dC, dI) vwCl (([(u0, .inl (cJ, 1, .inr (.inl fJ)))] ++ Wc) ++ Wm) H) (hD : va_D (fun q => s.heap.size ≤ q) (([(u0, .inl (cJ, 1, .inr (.inl fJ)))] ++ Wc) ++ Wm)) (hS : va_S (fun q => s.heap.size ≤ q) s.heap H locs) (kc : ∀ (fJ : Nat → Int64) (Wc Wm : va_W) (H : Heap) (locs : List Loc) (ls : Array Slot), qI cI cZ cG x0 h0 Wc Wm → lv_has ls 7 [(4, .int (nI i)), (3, .ref u0), (2, .ref h0), (1, .ref x0), (0, .ref b)] → va_P (dC, dI) vwCl (([(u0, .inl (cJ, 1, .inr (.inl fJ)))] ++ Wc) ++ Wm) H → va_D (fun q => s.heap.size ≤ q) (([(u0, .inl (cJ, 1, .inr (.inl fJ)))] ++ Wc) ++ Wm) → va_S (fun q => s.heap.size ≤ q) s.heap H locs → W p l e room_1 s m #[Value.ref b] below meth c H locs (cells + 1) (slots + 6) Q (F0 m 772 ls [])) : W p l e room_1 s m #[Value.ref b] below meth c H locs cells slots Q (F0 m 548 ls []) := by
  obtain ⟨i0, i1, i2, i3, i4, i5, i6, i7, o0, o1, o2, o3, o4, o5, o6, o7, d0, d1, w0, w1, w2, r0, r1, r2, r3, r4, tw, tr, me, du, fi, le, ra, rb, yi, zi, lin, si, ai, ci, vi, yo, zo, lou, so, ao, co, vo, dd, ob, od, ou, lt, IW, OW, k0, e1, e2, e3, e4, e5, e6, e7, e8, e9, e10, e11, e12, mw, mz, mM, mpl, mI, mO, mD, mG, mR, mB, mU, mF, hWc, hWm, hL⟩ := hI
  obtain ⟨htr, htw, hli, hlo, hmD, -, -, -, -, -, hmU, hmF, hlt0, -⟩ := id hL
  have hW0 : Wc[0]? = some (x0, .inr (4, [.ref i0, .ref d0, .ref w0, .ref r0])) := by
    subst hWc
    rfl
  have hm0 : Wm[0]? = some (h0, .inr (5, [.int (nI k0), .int (nI tw), .ref e1, .ref e2, .ref e3, .int (nI tr), .ref e4, .ref e5, .ref e6, .ref e7, .ref e8, .int (nI me), .int (nI du), .int (nI fi), .int (nI le), .ref e9, .ref e10, .ref e11, .ref e12])) := by
    subst hWm
    rfl
  by_cases hon : xs (i + 1) < 0 ∨ ¬ xs (i + 1) ≤ nI 6
  · have hM5 : ∀ z : Nat, vx_Met l yX5_figure wsX5_figure ({ frames := 6, cells := 1, slots := 6, locals := 90 } : Room) (va_Pc [.ref x0, .int (xs (i + 1))] (fun U => U.heap.size = z ∧ va_P (dC, dI) vwCl Wc U.heap ∧ va_K (dC, dI) vwCl [(cI, .int), (cZ, .boolean), (cG, .array .int)] U ∧ qn_N U ∧ qx_P U)) (va_Qi (fun (_ : Int32) (_ : Unit) => False) (fun _ _ => True) (fun q => z ≤ q)) (qx_X "java/lang/IllegalArgumentException" z) 1 6 (fun q => z ≤ q) := by
      intro z
      subst hWc
      exact qx_fig l hl9 dC dI cI cZ cG x0 i0 i1 i2 i3 i4 i5 i6 i7 o0 o1 o2 o3 o4 o5 o6 o7 d0 d1 w0 w1 w2 r0 r1 r2 r3 r4 tw tr me du fi le ra rb yi zi lin si ai ci vi yo zo lou so ao co vo dd ob od ou lt IW OW (xs (i + 1)) z hon
    obtain ⟨NM, hNM⟩ : ∃ NM : Unit → va_W, NM = fun _ => [(h0, .inr (5, [.int (nI 1), .int (nI tw), .ref e1, .ref e2, .ref e3, .int (nI tr), .ref e4, .ref e5, .ref e6, .ref e7, .ref e8, .int (nI me), .int (nI du), .int (nI fi), .int (nI le), .ref e9, .ref e10, .ref e11, .ref e12])), (e9, .inl (cI, 16, .inl (qS mw))), (e10, .inl (cZ, 16, .inl (qZ mz))), (e11, .inl (cI, 20, .inl (qS (qg_f mM)))), (e12, .inl (cI, 4, .inl (qN mpl))), (e1, .inl (cI, 576, .inl (qS mI))), (e2, .inl (cI, 768, .inl (qS mO))), (e3, .inl (cI, 768, .inl (qS mD))), (e4, .inl (cI, 768, .inl (qS mG))), (e5, .inl (cI, 576, .inl (qS mR))), (e6, .inl (cZ, 48, .inl (qZ mB))), (e7, .inl (cI, 384, .inl (qS mU))), (e8, .inl (cZ, 384, .inl (qZ mF)))] := ⟨_, rfl⟩
    have hMm : ∀ z : Nat, Met l yX6_figure wsX6_figure ({ frames := 0, cells := 0, slots := 0, locals := 0 } : Room) (va_Pc [.ref h0, .int (xs (i + 1))] (fun U => U.heap.size = z ∧ va_P (dC, dI) vwCl Wm U.heap ∧ va_K (dC, dI) vwCl [(cI, .int), (cZ, .boolean)] U ∧ va_D (fun _ => True) Wm)) (va_Qi (fun (r : Int32) (_ : Unit) => r = nI 0) (fun u t => va_P (dC, dI) vwCl (NM u) t.heap ∧ va_K (dC, dI) vwCl [(cI, .int), (cZ, .boolean)] t ∧ va_D (va_A Wm z) (NM u)) (va_A Wm z)) 0 0 (va_A Wm z) := by
      intro z
      subst hNM
      subst hWm
      exact qc_mfigX l dC dI cI cZ h0 k0 tw tr me du fi le e1 e2 e3 e4 e5 e6 e7 e8 e9 e10 e11 e12 mw mz mM mpl mI mO mD mG mR mB mU mF (xs (i + 1)) z hon
    have hMt : ∀ u2 : Unit, Met l yX6_thrown wsX6_thrown ({ frames := 0, cells := 0, slots := 0, locals := 0 } : Room) (va_Pc [.ref h0] (fun U => va_P (dC, dI) vwCl (NM u2) U.heap ∧ va_K (dC, dI) vwCl [(cI, .int), (cZ, .boolean)] U)) (vp_Si (fun r => r = nI 1)) 0 0 (fun _ => False) := by
      intro u2
      subst hNM
      exact qc_thrown l dC dI cI cZ h0 1 tw tr me du fi le e1 e2 e3 e4 e5 e6 e7 e8 e9 e10 e11 e12 mw mz mM mpl mI mO mD mG mR mB mU mF
    have hadm : ∀ u, (NM u).map (fun q => q.1) = Wm.map (fun q => q.1) := by
      intro u
      subst hNM
      subst hWm
      exact qM_adr [h0, e9, e10, e11, e12, e1, e2, e3, e4, e5, e6, e7, e8] rfl rfl
    have hm1 : ∀ u, ∃ fs, (NM u)[0]? = some (h0, .inr (5, fs)) := by
      intro u
      subst hNM
      exact ⟨_, rfl⟩
    refine qz_figure C hi hrm hl hP hD hS (xs (i + 1)) rfl 1 (by decide) Unit _ (fun _ => fJ) (fun _ => Wc) (fun _ => rfl) (fun z => ql_figure1 l dC dI cI cZ cG cJ Wc x0 u0 _ fJ (xs (i + 1)) z hW0 hM5) Unit _ NM hadm _ (by exact ⟨rfl, rfl, by decide, by decide⟩) hm0 hm1 hMm (fun _ u2 _ => hMt u2) (by intro h0; exact absurd h0 (by decide)) (by
      intro u r u2 H locs ls h1 h2 hl hP hD hS
      refine kc _ _ _ H locs ls ?_ hl hP hD hS
      exact ⟨i0, i1, i2, i3, i4, i5, i6, i7, o0, o1, o2, o3, o4, o5, o6, o7, d0, d1, w0, w1, w2, r0, r1, r2, r3, r4, tw, tr, me, du, fi, le, ra, rb, yi, zi, lin, si, ai, ci, vi, yo, zo, lou, so, ao, co, vo, dd, ob, od, ou, lt, IW, OW, 1, e1, e2, e3, e4, e5, e6, e7, e8, e9, e10, e11, e12, mw, mz, mM, mpl, mI, mO, mD, mG, mR, mB, mU, mF, hWc, congrFun hNM _, hL⟩)
  · obtain ⟨k, hk6, hk0⟩ := qz_six hon
    rcases (show k = 0 ∨ k = 1 ∨ k = 2 ∨ k = 3 ∨ k = 4 ∨ k = 5 ∨ k = 6 by omega) with rfl | rfl | rfl | rfl | rfl | rfl | rfl
    · have hM5 : ∀ z : Nat, Met l yX5_figure wsX5_figure ({ frames := 0, cells := 0, slots := 0, locals := 0 } : Room) (va_Pc [.ref x0, .int (nI 0)] (fun U => U.heap.size = z ∧ va_P (dC, dI) vwCl Wc U.heap ∧ va_K (dC, dI) vwCl [(cI, .int), (cZ, .boolean), (cG, .array .int)] U ∧ va_D (fun _ => True) Wc ∧ qn_N U)) (va_Qi (fun (r : Int32) (_ : Unit) => r = nI (tr)) (fun _ t => va_P (dC, dI) vwCl Wc t.heap ∧ va_K (dC, dI) vwCl [(cI, .int), (cZ, .boolean), (cG, .array .int)] t ∧ va_D (va_A Wc z) Wc) (va_A Wc z)) 0 0 (va_A Wc z) := by
        intro z
        subst hWc
        exact qc_fig0 l dC dI cI cZ cG x0 i0 i1 i2 i3 i4 i5 i6 i7 o0 o1 o2 o3 o4 o5 o6 o7 d0 d1 w0 w1 w2 r0 r1 r2 r3 r4 tw tr me du fi le ra rb yi zi lin si ai ci vi yo zo lou so ao co vo dd ob od ou lt IW OW  z 
      have hadw : ∀ _ : Unit, Wc.map (fun q => q.1) = Wc.map (fun q => q.1) := fun _ => rfl
      obtain ⟨NM, hNM⟩ : ∃ NM : Unit → va_W, NM = fun _ => [(h0, .inr (5, [.int (nI 0), .int (nI tw), .ref e1, .ref e2, .ref e3, .int (nI tr), .ref e4, .ref e5, .ref e6, .ref e7, .ref e8, .int (nI me), .int (nI du), .int (nI fi), .int (nI le), .ref e9, .ref e10, .ref e11, .ref e12])), (e9, .inl (cI, 16, .inl (qS mw))), (e10, .inl (cZ, 16, .inl (qZ mz))), (e11, .inl (cI, 20, .inl (qS (qg_f mM)))), (e12, .inl (cI, 4, .inl (qN mpl))), (e1, .inl (cI, 576, .inl (qS mI))), (e2, .inl (cI, 768, .inl (qS mO))), (e3, .inl (cI, 768, .inl (qS mD))), (e4, .inl (cI, 768, .inl (qS mG))), (e5, .inl (cI, 576, .inl (qS mR))), (e6, .inl (cZ, 48, .inl (qZ mB))), (e7, .inl (cI, 384, .inl (qS mU))), (e8, .inl (cZ, 384, .inl (qZ mF)))] := ⟨_, rfl⟩
      have hMm : ∀ z : Nat, Met l yX6_figure wsX6_figure ({ frames := 0, cells := 0, slots := 0, locals := 0 } : Room) (va_Pc [.ref h0, .int (nI 0)] (fun U => U.heap.size = z ∧ va_P (dC, dI) vwCl Wm U.heap ∧ va_K (dC, dI) vwCl [(cI, .int), (cZ, .boolean)] U ∧ va_D (fun _ => True) Wm)) (va_Qi (fun (r : Int32) (_ : Unit) => r = nI (tr)) (fun u t => va_P (dC, dI) vwCl (NM u) t.heap ∧ va_K (dC, dI) vwCl [(cI, .int), (cZ, .boolean)] t ∧ va_D (va_A Wm z) (NM u)) (va_A Wm z)) 0 0 (va_A Wm z) := by
        intro z
        subst hNM
        subst hWm
        exact qc_mfig0 l dC dI cI cZ h0 k0 tw tr me du fi le e1 e2 e3 e4 e5 e6 e7 e8 e9 e10 e11 e12 mw mz mM mpl mI mO mD mG mR mB mU mF  z 
      have hMt : ∀ u2 : Unit, Met l yX6_thrown wsX6_thrown ({ frames := 0, cells := 0, slots := 0, locals := 0 } : Room) (va_Pc [.ref h0] (fun U => va_P (dC, dI) vwCl (NM u2) U.heap ∧ va_K (dC, dI) vwCl [(cI, .int), (cZ, .boolean)] U)) (vp_Si (fun r => r = nI 0)) 0 0 (fun _ => False) := by
        intro u2
        subst hNM
        exact qc_thrown l dC dI cI cZ h0 0 tw tr me du fi le e1 e2 e3 e4 e5 e6 e7 e8 e9 e10 e11 e12 mw mz mM mpl mI mO mD mG mR mB mU mF
      have hadm : ∀ u, (NM u).map (fun q => q.1) = Wm.map (fun q => q.1) := by
        intro u
        subst hNM
        subst hWm
        exact qM_adr [h0, e9, e10, e11, e12, e1, e2, e3, e4, e5, e6, e7, e8] rfl rfl
      have hm1 : ∀ u, ∃ fs, (NM u)[0]? = some (h0, .inr (5, fs)) := by
        intro u
        subst hNM
        exact ⟨_, rfl⟩
      refine qz_figure C hi hrm hl hP hD hS (nI 0) hk0 0 (by decide) (Int32 × Unit) _ (fun u => vp_updL fJ 0 u.1.toInt64) (fun _ => Wc) (fun _ => rfl) (fun z => ql_figure l dC dI cI cZ cG cJ Wc x0 u0 _ fJ (nI 0) z _ _ (fun _ => Wc) _ (by exact ⟨rfl, rfl, by decide, by decide⟩) hW0 hadw hM5) Unit _ NM hadm _ (by exact ⟨rfl, rfl, by decide, by decide⟩) hm0 hm1 hMm (fun _ u2 _ => hMt u2) (by intro _ u r u2 h1 h2; exact (if_pos rfl).trans (congrArg Int32.toInt64 (Eq.trans h1 (Eq.trans (rfl) (Eq.symm h2))))) (by
        intro u r u2 H locs ls h1 h2 hl hP hD hS
        refine kc _ _ _ H locs ls ?_ hl hP hD hS
        exact ⟨i0, i1, i2, i3, i4, i5, i6, i7, o0, o1, o2, o3, o4, o5, o6, o7, d0, d1, w0, w1, w2, r0, r1, r2, r3, r4, tw, tr, me, du, fi, le, ra, rb, yi, zi, lin, si, ai, ci, vi, yo, zo, lou, so, ao, co, vo, dd, ob, od, ou, lt, IW, OW, 0, e1, e2, e3, e4, e5, e6, e7, e8, e9, e10, e11, e12, mw, mz, mM, mpl, mI, mO, mD, mG, mR, mB, mU, mF, hWc, congrFun hNM _, hL⟩)
    · have hM5 : ∀ z : Nat, Met l yX5_figure wsX5_figure ({ frames := 0, cells := 0, slots := 0, locals := 0 } : Room) (va_Pc [.ref x0, .int (nI 1)] (fun U => U.heap.size = z ∧ va_P (dC, dI) vwCl Wc U.heap ∧ va_K (dC, dI) vwCl [(cI, .int), (cZ, .boolean), (cG, .array .int)] U ∧ va_D (fun _ => True) Wc ∧ qn_N U)) (va_Qi (fun (r : Int32) (_ : Unit) => r = nI (tr * 8)) (fun _ t => va_P (dC, dI) vwCl Wc t.heap ∧ va_K (dC, dI) vwCl [(cI, .int), (cZ, .boolean), (cG, .array .int)] t ∧ va_D (va_A Wc z) Wc) (va_A Wc z)) 0 0 (va_A Wc z) := by
        intro z
        subst hWc
        exact qc_fig1 l dC dI cI cZ cG x0 i0 i1 i2 i3 i4 i5 i6 i7 o0 o1 o2 o3 o4 o5 o6 o7 d0 d1 w0 w1 w2 r0 r1 r2 r3 r4 tw tr me du fi le ra rb yi zi lin si ai ci vi yo zo lou so ao co vo dd ob od ou lt IW OW  z 
      have hadw : ∀ _ : Unit, Wc.map (fun q => q.1) = Wc.map (fun q => q.1) := fun _ => rfl
      obtain ⟨NM, hNM⟩ : ∃ NM : Unit → va_W, NM = fun _ => [(h0, .inr (5, [.int (nI 0), .int (nI tw), .ref e1, .ref e2, .ref e3, .int (nI tr), .ref e4, .ref e5, .ref e6, .ref e7, .ref e8, .int (nI me), .int (nI du), .int (nI fi), .int (nI le), .ref e9, .ref e10, .ref e11, .ref e12])), (e9, .inl (cI, 16, .inl (qS mw))), (e10, .inl (cZ, 16, .inl (qZ mz))), (e11, .inl (cI, 20, .inl (qS (qg_f mM)))), (e12, .inl (cI, 4, .inl (qN mpl))), (e1, .inl (cI, 576, .inl (qS mI))), (e2, .inl (cI, 768, .inl (qS mO))), (e3, .inl (cI, 768, .inl (qS mD))), (e4, .inl (cI, 768, .inl (qS mG))), (e5, .inl (cI, 576, .inl (qS mR))), (e6, .inl (cZ, 48, .inl (qZ mB))), (e7, .inl (cI, 384, .inl (qS mU))), (e8, .inl (cZ, 384, .inl (qZ mF)))] := ⟨_, rfl⟩
      have hMm : ∀ z : Nat, Met l yX6_figure wsX6_figure ({ frames := 0, cells := 0, slots := 0, locals := 0 } : Room) (va_Pc [.ref h0, .int (nI 1)] (fun U => U.heap.size = z ∧ va_P (dC, dI) vwCl Wm U.heap ∧ va_K (dC, dI) vwCl [(cI, .int), (cZ, .boolean)] U ∧ va_D (fun _ => True) Wm)) (va_Qi (fun (r : Int32) (_ : Unit) => r = nI (8 * tr)) (fun u t => va_P (dC, dI) vwCl (NM u) t.heap ∧ va_K (dC, dI) vwCl [(cI, .int), (cZ, .boolean)] t ∧ va_D (va_A Wm z) (NM u)) (va_A Wm z)) 0 0 (va_A Wm z) := by
        intro z
        subst hNM
        subst hWm
        exact qc_mfig1 l dC dI cI cZ h0 k0 tw tr me du fi le e1 e2 e3 e4 e5 e6 e7 e8 e9 e10 e11 e12 mw mz mM mpl mI mO mD mG mR mB mU mF  z 
      have hMt : ∀ u2 : Unit, Met l yX6_thrown wsX6_thrown ({ frames := 0, cells := 0, slots := 0, locals := 0 } : Room) (va_Pc [.ref h0] (fun U => va_P (dC, dI) vwCl (NM u2) U.heap ∧ va_K (dC, dI) vwCl [(cI, .int), (cZ, .boolean)] U)) (vp_Si (fun r => r = nI 0)) 0 0 (fun _ => False) := by
        intro u2
        subst hNM
        exact qc_thrown l dC dI cI cZ h0 0 tw tr me du fi le e1 e2 e3 e4 e5 e6 e7 e8 e9 e10 e11 e12 mw mz mM mpl mI mO mD mG mR mB mU mF
      have hadm : ∀ u, (NM u).map (fun q => q.1) = Wm.map (fun q => q.1) := by
        intro u
        subst hNM
        subst hWm
        exact qM_adr [h0, e9, e10, e11, e12, e1, e2, e3, e4, e5, e6, e7, e8] rfl rfl
      have hm1 : ∀ u, ∃ fs, (NM u)[0]? = some (h0, .inr (5, fs)) := by
        intro u
        subst hNM
        exact ⟨_, rfl⟩
      refine qz_figure C hi hrm hl hP hD hS (nI 1) hk0 0 (by decide) (Int32 × Unit) _ (fun u => vp_updL fJ 0 u.1.toInt64) (fun _ => Wc) (fun _ => rfl) (fun z => ql_figure l dC dI cI cZ cG cJ Wc x0 u0 _ fJ (nI 1) z _ _ (fun _ => Wc) _ (by exact ⟨rfl, rfl, by decide, by decide⟩) hW0 hadw hM5) Unit _ NM hadm _ (by exact ⟨rfl, rfl, by decide, by decide⟩) hm0 hm1 hMm (fun _ u2 _ => hMt u2) (by intro _ u r u2 h1 h2; exact (if_pos rfl).trans (congrArg Int32.toInt64 (Eq.trans h1 (Eq.trans (congrArg nI (Nat.mul_comm _ _)) (Eq.symm h2))))) (by
        intro u r u2 H locs ls h1 h2 hl hP hD hS
        refine kc _ _ _ H locs ls ?_ hl hP hD hS
        exact ⟨i0, i1, i2, i3, i4, i5, i6, i7, o0, o1, o2, o3, o4, o5, o6, o7, d0, d1, w0, w1, w2, r0, r1, r2, r3, r4, tw, tr, me, du, fi, le, ra, rb, yi, zi, lin, si, ai, ci, vi, yo, zo, lou, so, ao, co, vo, dd, ob, od, ou, lt, IW, OW, 0, e1, e2, e3, e4, e5, e6, e7, e8, e9, e10, e11, e12, mw, mz, mM, mpl, mI, mO, mD, mG, mR, mB, mU, mF, hWc, congrFun hNM _, hL⟩)
    · have hM5 : ∀ z : Nat, Met l yX5_figure wsX5_figure ({ frames := 0, cells := 0, slots := 0, locals := 0 } : Room) (va_Pc [.ref x0, .int (nI 2)] (fun U => U.heap.size = z ∧ va_P (dC, dI) vwCl Wc U.heap ∧ va_K (dC, dI) vwCl [(cI, .int), (cZ, .boolean), (cG, .array .int)] U ∧ va_D (fun _ => True) Wc ∧ qn_N U)) (va_Qi (fun (r : Int32) (_ : Unit) => r = nI (me)) (fun _ t => va_P (dC, dI) vwCl Wc t.heap ∧ va_K (dC, dI) vwCl [(cI, .int), (cZ, .boolean), (cG, .array .int)] t ∧ va_D (va_A Wc z) Wc) (va_A Wc z)) 0 0 (va_A Wc z) := by
        intro z
        subst hWc
        exact qc_fig2 l dC dI cI cZ cG x0 i0 i1 i2 i3 i4 i5 i6 i7 o0 o1 o2 o3 o4 o5 o6 o7 d0 d1 w0 w1 w2 r0 r1 r2 r3 r4 tw tr me du fi le ra rb yi zi lin si ai ci vi yo zo lou so ao co vo dd ob od ou lt IW OW  z 
      have hadw : ∀ _ : Unit, Wc.map (fun q => q.1) = Wc.map (fun q => q.1) := fun _ => rfl
      obtain ⟨NM, hNM⟩ : ∃ NM : Unit → va_W, NM = fun _ => [(h0, .inr (5, [.int (nI 0), .int (nI tw), .ref e1, .ref e2, .ref e3, .int (nI tr), .ref e4, .ref e5, .ref e6, .ref e7, .ref e8, .int (nI me), .int (nI du), .int (nI fi), .int (nI le), .ref e9, .ref e10, .ref e11, .ref e12])), (e9, .inl (cI, 16, .inl (qS mw))), (e10, .inl (cZ, 16, .inl (qZ mz))), (e11, .inl (cI, 20, .inl (qS (qg_f mM)))), (e12, .inl (cI, 4, .inl (qN mpl))), (e1, .inl (cI, 576, .inl (qS mI))), (e2, .inl (cI, 768, .inl (qS mO))), (e3, .inl (cI, 768, .inl (qS mD))), (e4, .inl (cI, 768, .inl (qS mG))), (e5, .inl (cI, 576, .inl (qS mR))), (e6, .inl (cZ, 48, .inl (qZ mB))), (e7, .inl (cI, 384, .inl (qS mU))), (e8, .inl (cZ, 384, .inl (qZ mF)))] := ⟨_, rfl⟩
      have hMm : ∀ z : Nat, Met l yX6_figure wsX6_figure ({ frames := 0, cells := 0, slots := 0, locals := 0 } : Room) (va_Pc [.ref h0, .int (nI 2)] (fun U => U.heap.size = z ∧ va_P (dC, dI) vwCl Wm U.heap ∧ va_K (dC, dI) vwCl [(cI, .int), (cZ, .boolean)] U ∧ va_D (fun _ => True) Wm)) (va_Qi (fun (r : Int32) (_ : Unit) => r = nI (me)) (fun u t => va_P (dC, dI) vwCl (NM u) t.heap ∧ va_K (dC, dI) vwCl [(cI, .int), (cZ, .boolean)] t ∧ va_D (va_A Wm z) (NM u)) (va_A Wm z)) 0 0 (va_A Wm z) := by
        intro z
        subst hNM
        subst hWm
        exact qc_mfig2 l dC dI cI cZ h0 k0 tw tr me du fi le e1 e2 e3 e4 e5 e6 e7 e8 e9 e10 e11 e12 mw mz mM mpl mI mO mD mG mR mB mU mF  z 
      have hMt : ∀ u2 : Unit, Met l yX6_thrown wsX6_thrown ({ frames := 0, cells := 0, slots := 0, locals := 0 } : Room) (va_Pc [.ref h0] (fun U => va_P (dC, dI) vwCl (NM u2) U.heap ∧ va_K (dC, dI) vwCl [(cI, .int), (cZ, .boolean)] U)) (vp_Si (fun r => r = nI 0)) 0 0 (fun _ => False) := by
        intro u2
        subst hNM
        exact qc_thrown l dC dI cI cZ h0 0 tw tr me du fi le e1 e2 e3 e4 e5 e6 e7 e8 e9 e10 e11 e12 mw mz mM mpl mI mO mD mG mR mB mU mF
      have hadm : ∀ u, (NM u).map (fun q => q.1) = Wm.map (fun q => q.1) := by
        intro u
        subst hNM
        subst hWm
        exact qM_adr [h0, e9, e10, e11, e12, e1, e2, e3, e4, e5, e6, e7, e8] rfl rfl
      have hm1 : ∀ u, ∃ fs, (NM u)[0]? = some (h0, .inr (5, fs)) := by
        intro u
        subst hNM
        exact ⟨_, rfl⟩
      refine qz_figure C hi hrm hl hP hD hS (nI 2) hk0 0 (by decide) (Int32 × Unit) _ (fun u => vp_updL fJ 0 u.1.toInt64) (fun _ => Wc) (fun _ => rfl) (fun z => ql_figure l dC dI cI cZ cG cJ Wc x0 u0 _ fJ (nI 2) z _ _ (fun _ => Wc) _ (by exact ⟨rfl, rfl, by decide, by decide⟩) hW0 hadw hM5) Unit _ NM hadm _ (by exact ⟨rfl, rfl, by decide, by decide⟩) hm0 hm1 hMm (fun _ u2 _ => hMt u2) (by intro _ u r u2 h1 h2; exact (if_pos rfl).trans (congrArg Int32.toInt64 (Eq.trans h1 (Eq.trans (rfl) (Eq.symm h2))))) (by
        intro u r u2 H locs ls h1 h2 hl hP hD hS
        refine kc _ _ _ H locs ls ?_ hl hP hD hS
        exact ⟨i0, i1, i2, i3, i4, i5, i6, i7, o0, o1, o2, o3, o4, o5, o6, o7, d0, d1, w0, w1, w2, r0, r1, r2, r3, r4, tw, tr, me, du, fi, le, ra, rb, yi, zi, lin, si, ai, ci, vi, yo, zo, lou, so, ao, co, vo, dd, ob, od, ou, lt, IW, OW, 0, e1, e2, e3, e4, e5, e6, e7, e8, e9, e10, e11, e12, mw, mz, mM, mpl, mI, mO, mD, mG, mR, mB, mU, mF, hWc, congrFun hNM _, hL⟩)
    · have hM5 : ∀ z : Nat, Met l yX5_figure wsX5_figure ({ frames := 0, cells := 0, slots := 0, locals := 0 } : Room) (va_Pc [.ref x0, .int (nI 3)] (fun U => U.heap.size = z ∧ va_P (dC, dI) vwCl Wc U.heap ∧ va_K (dC, dI) vwCl [(cI, .int), (cZ, .boolean), (cG, .array .int)] U ∧ va_D (fun _ => True) Wc ∧ qn_N U)) (va_Qi (fun (r : Int32) (_ : Unit) => r = nI (du)) (fun _ t => va_P (dC, dI) vwCl Wc t.heap ∧ va_K (dC, dI) vwCl [(cI, .int), (cZ, .boolean), (cG, .array .int)] t ∧ va_D (va_A Wc z) Wc) (va_A Wc z)) 0 0 (va_A Wc z) := by
        intro z
        subst hWc
        exact qc_fig3 l dC dI cI cZ cG x0 i0 i1 i2 i3 i4 i5 i6 i7 o0 o1 o2 o3 o4 o5 o6 o7 d0 d1 w0 w1 w2 r0 r1 r2 r3 r4 tw tr me du fi le ra rb yi zi lin si ai ci vi yo zo lou so ao co vo dd ob od ou lt IW OW  z 
      have hadw : ∀ _ : Unit, Wc.map (fun q => q.1) = Wc.map (fun q => q.1) := fun _ => rfl
      obtain ⟨NM, hNM⟩ : ∃ NM : Unit → va_W, NM = fun _ => [(h0, .inr (5, [.int (nI 0), .int (nI tw), .ref e1, .ref e2, .ref e3, .int (nI tr), .ref e4, .ref e5, .ref e6, .ref e7, .ref e8, .int (nI me), .int (nI du), .int (nI fi), .int (nI le), .ref e9, .ref e10, .ref e11, .ref e12])), (e9, .inl (cI, 16, .inl (qS mw))), (e10, .inl (cZ, 16, .inl (qZ mz))), (e11, .inl (cI, 20, .inl (qS (qg_f mM)))), (e12, .inl (cI, 4, .inl (qN mpl))), (e1, .inl (cI, 576, .inl (qS mI))), (e2, .inl (cI, 768, .inl (qS mO))), (e3, .inl (cI, 768, .inl (qS mD))), (e4, .inl (cI, 768, .inl (qS mG))), (e5, .inl (cI, 576, .inl (qS mR))), (e6, .inl (cZ, 48, .inl (qZ mB))), (e7, .inl (cI, 384, .inl (qS mU))), (e8, .inl (cZ, 384, .inl (qZ mF)))] := ⟨_, rfl⟩
      have hMm : ∀ z : Nat, Met l yX6_figure wsX6_figure ({ frames := 0, cells := 0, slots := 0, locals := 0 } : Room) (va_Pc [.ref h0, .int (nI 3)] (fun U => U.heap.size = z ∧ va_P (dC, dI) vwCl Wm U.heap ∧ va_K (dC, dI) vwCl [(cI, .int), (cZ, .boolean)] U ∧ va_D (fun _ => True) Wm)) (va_Qi (fun (r : Int32) (_ : Unit) => r = nI (du)) (fun u t => va_P (dC, dI) vwCl (NM u) t.heap ∧ va_K (dC, dI) vwCl [(cI, .int), (cZ, .boolean)] t ∧ va_D (va_A Wm z) (NM u)) (va_A Wm z)) 0 0 (va_A Wm z) := by
        intro z
        subst hNM
        subst hWm
        exact qc_mfig3 l dC dI cI cZ h0 k0 tw tr me du fi le e1 e2 e3 e4 e5 e6 e7 e8 e9 e10 e11 e12 mw mz mM mpl mI mO mD mG mR mB mU mF  z 
      have hMt : ∀ u2 : Unit, Met l yX6_thrown wsX6_thrown ({ frames := 0, cells := 0, slots := 0, locals := 0 } : Room) (va_Pc [.ref h0] (fun U => va_P (dC, dI) vwCl (NM u2) U.heap ∧ va_K (dC, dI) vwCl [(cI, .int), (cZ, .boolean)] U)) (vp_Si (fun r => r = nI 0)) 0 0 (fun _ => False) := by
        intro u2
        subst hNM
        exact qc_thrown l dC dI cI cZ h0 0 tw tr me du fi le e1 e2 e3 e4 e5 e6 e7 e8 e9 e10 e11 e12 mw mz mM mpl mI mO mD mG mR mB mU mF
      have hadm : ∀ u, (NM u).map (fun q => q.1) = Wm.map (fun q => q.1) := by
        intro u
        subst hNM
        subst hWm
        exact qM_adr [h0, e9, e10, e11, e12, e1, e2, e3, e4, e5, e6, e7, e8] rfl rfl
      have hm1 : ∀ u, ∃ fs, (NM u)[0]? = some (h0, .inr (5, fs)) := by
        intro u
        subst hNM
        exact ⟨_, rfl⟩
      refine qz_figure C hi hrm hl hP hD hS (nI 3) hk0 0 (by decide) (Int32 × Unit) _ (fun u => vp_updL fJ 0 u.1.toInt64) (fun _ => Wc) (fun _ => rfl) (fun z => ql_figure l dC dI cI cZ cG cJ Wc x0 u0 _ fJ (nI 3) z _ _ (fun _ => Wc) _ (by exact ⟨rfl, rfl, by decide, by decide⟩) hW0 hadw hM5) Unit _ NM hadm _ (by exact ⟨rfl, rfl, by decide, by decide⟩) hm0 hm1 hMm (fun _ u2 _ => hMt u2) (by intro _ u r u2 h1 h2; exact (if_pos rfl).trans (congrArg Int32.toInt64 (Eq.trans h1 (Eq.trans (rfl) (Eq.symm h2))))) (by
        intro u r u2 H locs ls h1 h2 hl hP hD hS
        refine kc _ _ _ H locs ls ?_ hl hP hD hS
        exact ⟨i0, i1, i2, i3, i4, i5, i6, i7, o0, o1, o2, o3, o4, o5, o6, o7, d0, d1, w0, w1, w2, r0, r1, r2, r3, r4, tw, tr, me, du, fi, le, ra, rb, yi, zi, lin, si, ai, ci, vi, yo, zo, lou, so, ao, co, vo, dd, ob, od, ou, lt, IW, OW, 0, e1, e2, e3, e4, e5, e6, e7, e8, e9, e10, e11, e12, mw, mz, mM, mpl, mI, mO, mD, mG, mR, mB, mU, mF, hWc, congrFun hNM _, hL⟩)
    · have hM5 : ∀ z : Nat, Met l yX5_figure wsX5_figure ({ frames := 0, cells := 0, slots := 0, locals := 0 } : Room) (va_Pc [.ref x0, .int (nI 4)] (fun U => U.heap.size = z ∧ va_P (dC, dI) vwCl Wc U.heap ∧ va_K (dC, dI) vwCl [(cI, .int), (cZ, .boolean), (cG, .array .int)] U ∧ va_D (fun _ => True) Wc ∧ qn_N U)) (va_Qi (fun (r : Int32) (_ : Unit) => r = nI (fi)) (fun _ t => va_P (dC, dI) vwCl Wc t.heap ∧ va_K (dC, dI) vwCl [(cI, .int), (cZ, .boolean), (cG, .array .int)] t ∧ va_D (va_A Wc z) Wc) (va_A Wc z)) 0 0 (va_A Wc z) := by
        intro z
        subst hWc
        exact qc_fig4 l dC dI cI cZ cG x0 i0 i1 i2 i3 i4 i5 i6 i7 o0 o1 o2 o3 o4 o5 o6 o7 d0 d1 w0 w1 w2 r0 r1 r2 r3 r4 tw tr me du fi le ra rb yi zi lin si ai ci vi yo zo lou so ao co vo dd ob od ou lt IW OW  z 
      have hadw : ∀ _ : Unit, Wc.map (fun q => q.1) = Wc.map (fun q => q.1) := fun _ => rfl
      obtain ⟨NM, hNM⟩ : ∃ NM : Unit → va_W, NM = fun _ => [(h0, .inr (5, [.int (nI 0), .int (nI tw), .ref e1, .ref e2, .ref e3, .int (nI tr), .ref e4, .ref e5, .ref e6, .ref e7, .ref e8, .int (nI me), .int (nI du), .int (nI fi), .int (nI le), .ref e9, .ref e10, .ref e11, .ref e12])), (e9, .inl (cI, 16, .inl (qS mw))), (e10, .inl (cZ, 16, .inl (qZ mz))), (e11, .inl (cI, 20, .inl (qS (qg_f mM)))), (e12, .inl (cI, 4, .inl (qN mpl))), (e1, .inl (cI, 576, .inl (qS mI))), (e2, .inl (cI, 768, .inl (qS mO))), (e3, .inl (cI, 768, .inl (qS mD))), (e4, .inl (cI, 768, .inl (qS mG))), (e5, .inl (cI, 576, .inl (qS mR))), (e6, .inl (cZ, 48, .inl (qZ mB))), (e7, .inl (cI, 384, .inl (qS mU))), (e8, .inl (cZ, 384, .inl (qZ mF)))] := ⟨_, rfl⟩
      have hMm : ∀ z : Nat, Met l yX6_figure wsX6_figure ({ frames := 0, cells := 0, slots := 0, locals := 0 } : Room) (va_Pc [.ref h0, .int (nI 4)] (fun U => U.heap.size = z ∧ va_P (dC, dI) vwCl Wm U.heap ∧ va_K (dC, dI) vwCl [(cI, .int), (cZ, .boolean)] U ∧ va_D (fun _ => True) Wm)) (va_Qi (fun (r : Int32) (_ : Unit) => r = nI (fi)) (fun u t => va_P (dC, dI) vwCl (NM u) t.heap ∧ va_K (dC, dI) vwCl [(cI, .int), (cZ, .boolean)] t ∧ va_D (va_A Wm z) (NM u)) (va_A Wm z)) 0 0 (va_A Wm z) := by
        intro z
        subst hNM
        subst hWm
        exact qc_mfig4 l dC dI cI cZ h0 k0 tw tr me du fi le e1 e2 e3 e4 e5 e6 e7 e8 e9 e10 e11 e12 mw mz mM mpl mI mO mD mG mR mB mU mF  z 
      have hMt : ∀ u2 : Unit, Met l yX6_thrown wsX6_thrown ({ frames := 0, cells := 0, slots := 0, locals := 0 } : Room) (va_Pc [.ref h0] (fun U => va_P (dC, dI) vwCl (NM u2) U.heap ∧ va_K (dC, dI) vwCl [(cI, .int), (cZ, .boolean)] U)) (vp_Si (fun r => r = nI 0)) 0 0 (fun _ => False) := by
        intro u2
        subst hNM
        exact qc_thrown l dC dI cI cZ h0 0 tw tr me du fi le e1 e2 e3 e4 e5 e6 e7 e8 e9 e10 e11 e12 mw mz mM mpl mI mO mD mG mR mB mU mF
      have hadm : ∀ u, (NM u).map (fun q => q.1) = Wm.map (fun q => q.1) := by
        intro u
        subst hNM
        subst hWm
        exact qM_adr [h0, e9, e10, e11, e12, e1, e2, e3, e4, e5, e6, e7, e8] rfl rfl
      have hm1 : ∀ u, ∃ fs, (NM u)[0]? = some (h0, .inr (5, fs)) := by
        intro u
        subst hNM
        exact ⟨_, rfl⟩
      refine qz_figure C hi hrm hl hP hD hS (nI 4) hk0 0 (by decide) (Int32 × Unit) _ (fun u => vp_updL fJ 0 u.1.toInt64) (fun _ => Wc) (fun _ => rfl) (fun z => ql_figure l dC dI cI cZ cG cJ Wc x0 u0 _ fJ (nI 4) z _ _ (fun _ => Wc) _ (by exact ⟨rfl, rfl, by decide, by decide⟩) hW0 hadw hM5) Unit _ NM hadm _ (by exact ⟨rfl, rfl, by decide, by decide⟩) hm0 hm1 hMm (fun _ u2 _ => hMt u2) (by intro _ u r u2 h1 h2; exact (if_pos rfl).trans (congrArg Int32.toInt64 (Eq.trans h1 (Eq.trans (rfl) (Eq.symm h2))))) (by
        intro u r u2 H locs ls h1 h2 hl hP hD hS
        refine kc _ _ _ H locs ls ?_ hl hP hD hS
        exact ⟨i0, i1, i2, i3, i4, i5, i6, i7, o0, o1, o2, o3, o4, o5, o6, o7, d0, d1, w0, w1, w2, r0, r1, r2, r3, r4, tw, tr, me, du, fi, le, ra, rb, yi, zi, lin, si, ai, ci, vi, yo, zo, lou, so, ao, co, vo, dd, ob, od, ou, lt, IW, OW, 0, e1, e2, e3, e4, e5, e6, e7, e8, e9, e10, e11, e12, mw, mz, mM, mpl, mI, mO, mD, mG, mR, mB, mU, mF, hWc, congrFun hNM _, hL⟩)
    · have hM5 : ∀ z : Nat, Met l yX5_figure wsX5_figure ({ frames := 0, cells := 0, slots := 0, locals := 0 } : Room) (va_Pc [.ref x0, .int (nI 5)] (fun U => U.heap.size = z ∧ va_P (dC, dI) vwCl Wc U.heap ∧ va_K (dC, dI) vwCl [(cI, .int), (cZ, .boolean), (cG, .array .int)] U ∧ va_D (fun _ => True) Wc ∧ qn_N U)) (va_Qi (fun (r : Int32) (_ : Unit) => r = nI (le)) (fun _ t => va_P (dC, dI) vwCl Wc t.heap ∧ va_K (dC, dI) vwCl [(cI, .int), (cZ, .boolean), (cG, .array .int)] t ∧ va_D (va_A Wc z) Wc) (va_A Wc z)) 0 0 (va_A Wc z) := by
        intro z
        subst hWc
        exact qc_fig5 l dC dI cI cZ cG x0 i0 i1 i2 i3 i4 i5 i6 i7 o0 o1 o2 o3 o4 o5 o6 o7 d0 d1 w0 w1 w2 r0 r1 r2 r3 r4 tw tr me du fi le ra rb yi zi lin si ai ci vi yo zo lou so ao co vo dd ob od ou lt IW OW  z 
      have hadw : ∀ _ : Unit, Wc.map (fun q => q.1) = Wc.map (fun q => q.1) := fun _ => rfl
      obtain ⟨NM, hNM⟩ : ∃ NM : Unit → va_W, NM = fun _ => [(h0, .inr (5, [.int (nI 0), .int (nI tw), .ref e1, .ref e2, .ref e3, .int (nI tr), .ref e4, .ref e5, .ref e6, .ref e7, .ref e8, .int (nI me), .int (nI du), .int (nI fi), .int (nI le), .ref e9, .ref e10, .ref e11, .ref e12])), (e9, .inl (cI, 16, .inl (qS mw))), (e10, .inl (cZ, 16, .inl (qZ mz))), (e11, .inl (cI, 20, .inl (qS (qg_f mM)))), (e12, .inl (cI, 4, .inl (qN mpl))), (e1, .inl (cI, 576, .inl (qS mI))), (e2, .inl (cI, 768, .inl (qS mO))), (e3, .inl (cI, 768, .inl (qS mD))), (e4, .inl (cI, 768, .inl (qS mG))), (e5, .inl (cI, 576, .inl (qS mR))), (e6, .inl (cZ, 48, .inl (qZ mB))), (e7, .inl (cI, 384, .inl (qS mU))), (e8, .inl (cZ, 384, .inl (qZ mF)))] := ⟨_, rfl⟩
      have hMm : ∀ z : Nat, Met l yX6_figure wsX6_figure ({ frames := 0, cells := 0, slots := 0, locals := 0 } : Room) (va_Pc [.ref h0, .int (nI 5)] (fun U => U.heap.size = z ∧ va_P (dC, dI) vwCl Wm U.heap ∧ va_K (dC, dI) vwCl [(cI, .int), (cZ, .boolean)] U ∧ va_D (fun _ => True) Wm)) (va_Qi (fun (r : Int32) (_ : Unit) => r = nI (le)) (fun u t => va_P (dC, dI) vwCl (NM u) t.heap ∧ va_K (dC, dI) vwCl [(cI, .int), (cZ, .boolean)] t ∧ va_D (va_A Wm z) (NM u)) (va_A Wm z)) 0 0 (va_A Wm z) := by
        intro z
        subst hNM
        subst hWm
        exact qc_mfig5 l dC dI cI cZ h0 k0 tw tr me du fi le e1 e2 e3 e4 e5 e6 e7 e8 e9 e10 e11 e12 mw mz mM mpl mI mO mD mG mR mB mU mF  z 
      have hMt : ∀ u2 : Unit, Met l yX6_thrown wsX6_thrown ({ frames := 0, cells := 0, slots := 0, locals := 0 } : Room) (va_Pc [.ref h0] (fun U => va_P (dC, dI) vwCl (NM u2) U.heap ∧ va_K (dC, dI) vwCl [(cI, .int), (cZ, .boolean)] U)) (vp_Si (fun r => r = nI 0)) 0 0 (fun _ => False) := by
        intro u2
        subst hNM
        exact qc_thrown l dC dI cI cZ h0 0 tw tr me du fi le e1 e2 e3 e4 e5 e6 e7 e8 e9 e10 e11 e12 mw mz mM mpl mI mO mD mG mR mB mU mF
      have hadm : ∀ u, (NM u).map (fun q => q.1) = Wm.map (fun q => q.1) := by
        intro u
        subst hNM
        subst hWm
        exact qM_adr [h0, e9, e10, e11, e12, e1, e2, e3, e4, e5, e6, e7, e8] rfl rfl
      have hm1 : ∀ u, ∃ fs, (NM u)[0]? = some (h0, .inr (5, fs)) := by
        intro u
        subst hNM
        exact ⟨_, rfl⟩
      refine qz_figure C hi hrm hl hP hD hS (nI 5) hk0 0 (by decide) (Int32 × Unit) _ (fun u => vp_updL fJ 0 u.1.toInt64) (fun _ => Wc) (fun _ => rfl) (fun z => ql_figure l dC dI cI cZ cG cJ Wc x0 u0 _ fJ (nI 5) z _ _ (fun _ => Wc) _ (by exact ⟨rfl, rfl, by decide, by decide⟩) hW0 hadw hM5) Unit _ NM hadm _ (by exact ⟨rfl, rfl, by decide, by decide⟩) hm0 hm1 hMm (fun _ u2 _ => hMt u2) (by intro _ u r u2 h1 h2; exact (if_pos rfl).trans (congrArg Int32.toInt64 (Eq.trans h1 (Eq.trans (rfl) (Eq.symm h2))))) (by
        intro u r u2 H locs ls h1 h2 hl hP hD hS
        refine kc _ _ _ H locs ls ?_ hl hP hD hS
        exact ⟨i0, i1, i2, i3, i4, i5, i6, i7, o0, o1, o2, o3, o4, o5, o6, o7, d0, d1, w0, w1, w2, r0, r1, r2, r3, r4, tw, tr, me, du, fi, le, ra, rb, yi, zi, lin, si, ai, ci, vi, yo, zo, lou, so, ao, co, vo, dd, ob, od, ou, lt, IW, OW, 0, e1, e2, e3, e4, e5, e6, e7, e8, e9, e10, e11, e12, mw, mz, mM, mpl, mI, mO, mD, mG, mR, mB, mU, mF, hWc, congrFun hNM _, hL⟩)
    · have hM5 : ∀ z : Nat, Met l yX5_figure wsX5_figure ({ frames := 0, cells := 0, slots := 0, locals := 0 } : Room) (va_Pc [.ref x0, .int (nI 6)] (fun U => U.heap.size = z ∧ va_P (dC, dI) vwCl Wc U.heap ∧ va_K (dC, dI) vwCl [(cI, .int), (cZ, .boolean), (cG, .array .int)] U ∧ va_D (fun _ => True) Wc ∧ qn_N U)) (va_Qi (fun (r : Int32) (_ : Unit) => r = nI (le * 8)) (fun _ t => va_P (dC, dI) vwCl Wc t.heap ∧ va_K (dC, dI) vwCl [(cI, .int), (cZ, .boolean), (cG, .array .int)] t ∧ va_D (va_A Wc z) Wc) (va_A Wc z)) 0 0 (va_A Wc z) := by
        intro z
        subst hWc
        exact qc_fig6 l dC dI cI cZ cG x0 i0 i1 i2 i3 i4 i5 i6 i7 o0 o1 o2 o3 o4 o5 o6 o7 d0 d1 w0 w1 w2 r0 r1 r2 r3 r4 tw tr me du fi le ra rb yi zi lin si ai ci vi yo zo lou so ao co vo dd ob od ou lt IW OW  z 
      have hadw : ∀ _ : Unit, Wc.map (fun q => q.1) = Wc.map (fun q => q.1) := fun _ => rfl
      obtain ⟨NM, hNM⟩ : ∃ NM : Unit → va_W, NM = fun _ => [(h0, .inr (5, [.int (nI 0), .int (nI tw), .ref e1, .ref e2, .ref e3, .int (nI tr), .ref e4, .ref e5, .ref e6, .ref e7, .ref e8, .int (nI me), .int (nI du), .int (nI fi), .int (nI le), .ref e9, .ref e10, .ref e11, .ref e12])), (e9, .inl (cI, 16, .inl (qS mw))), (e10, .inl (cZ, 16, .inl (qZ mz))), (e11, .inl (cI, 20, .inl (qS (qg_f mM)))), (e12, .inl (cI, 4, .inl (qN mpl))), (e1, .inl (cI, 576, .inl (qS mI))), (e2, .inl (cI, 768, .inl (qS mO))), (e3, .inl (cI, 768, .inl (qS mD))), (e4, .inl (cI, 768, .inl (qS mG))), (e5, .inl (cI, 576, .inl (qS mR))), (e6, .inl (cZ, 48, .inl (qZ mB))), (e7, .inl (cI, 384, .inl (qS mU))), (e8, .inl (cZ, 384, .inl (qZ mF)))] := ⟨_, rfl⟩
      have hMm : ∀ z : Nat, Met l yX6_figure wsX6_figure ({ frames := 0, cells := 0, slots := 0, locals := 0 } : Room) (va_Pc [.ref h0, .int (nI 6)] (fun U => U.heap.size = z ∧ va_P (dC, dI) vwCl Wm U.heap ∧ va_K (dC, dI) vwCl [(cI, .int), (cZ, .boolean)] U ∧ va_D (fun _ => True) Wm)) (va_Qi (fun (r : Int32) (_ : Unit) => r = nI (8 * le)) (fun u t => va_P (dC, dI) vwCl (NM u) t.heap ∧ va_K (dC, dI) vwCl [(cI, .int), (cZ, .boolean)] t ∧ va_D (va_A Wm z) (NM u)) (va_A Wm z)) 0 0 (va_A Wm z) := by
        intro z
        subst hNM
        subst hWm
        exact qc_mfig6 l dC dI cI cZ h0 k0 tw tr me du fi le e1 e2 e3 e4 e5 e6 e7 e8 e9 e10 e11 e12 mw mz mM mpl mI mO mD mG mR mB mU mF  z 
      have hMt : ∀ u2 : Unit, Met l yX6_thrown wsX6_thrown ({ frames := 0, cells := 0, slots := 0, locals := 0 } : Room) (va_Pc [.ref h0] (fun U => va_P (dC, dI) vwCl (NM u2) U.heap ∧ va_K (dC, dI) vwCl [(cI, .int), (cZ, .boolean)] U)) (vp_Si (fun r => r = nI 0)) 0 0 (fun _ => False) := by
        intro u2
        subst hNM
        exact qc_thrown l dC dI cI cZ h0 0 tw tr me du fi le e1 e2 e3 e4 e5 e6 e7 e8 e9 e10 e11 e12 mw mz mM mpl mI mO mD mG mR mB mU mF
      have hadm : ∀ u, (NM u).map (fun q => q.1) = Wm.map (fun q => q.1) := by
        intro u
        subst hNM
        subst hWm
        exact qM_adr [h0, e9, e10, e11, e12, e1, e2, e3, e4, e5, e6, e7, e8] rfl rfl
      have hm1 : ∀ u, ∃ fs, (NM u)[0]? = some (h0, .inr (5, fs)) := by
        intro u
        subst hNM
        exact ⟨_, rfl⟩
      refine qz_figure C hi hrm hl hP hD hS (nI 6) hk0 0 (by decide) (Int32 × Unit) _ (fun u => vp_updL fJ 0 u.1.toInt64) (fun _ => Wc) (fun _ => rfl) (fun z => ql_figure l dC dI cI cZ cG cJ Wc x0 u0 _ fJ (nI 6) z _ _ (fun _ => Wc) _ (by exact ⟨rfl, rfl, by decide, by decide⟩) hW0 hadw hM5) Unit _ NM hadm _ (by exact ⟨rfl, rfl, by decide, by decide⟩) hm0 hm1 hMm (fun _ u2 _ => hMt u2) (by intro _ u r u2 h1 h2; exact (if_pos rfl).trans (congrArg Int32.toInt64 (Eq.trans h1 (Eq.trans (congrArg nI (Nat.mul_comm _ _)) (Eq.symm h2))))) (by
        intro u r u2 H locs ls h1 h2 hl hP hD hS
        refine kc _ _ _ H locs ls ?_ hl hP hD hS
        exact ⟨i0, i1, i2, i3, i4, i5, i6, i7, o0, o1, o2, o3, o4, o5, o6, o7, d0, d1, w0, w1, w2, r0, r1, r2, r3, r4, tw, tr, me, du, fi, le, ra, rb, yi, zi, lin, si, ai, ci, vi, yo, zo, lou, so, ao, co, vo, dd, ob, od, ou, lt, IW, OW, 0, e1, e2, e3, e4, e5, e6, e7, e8, e9, e10, e11, e12, mw, mz, mM, mpl, mI, mO, mD, mG, mR, mB, mU, mF, hWc, congrFun hNM _, hL⟩)
