/-! arrays of arrays: the 48 rows of 12, by their numbers; joining behind a call, in place -/
def qP (cI : ClassId) (ra : Nat → Nat) (M : Nat → Nat → BitVec 8) : va_W := (List.range 48).map (fun i => (ra i, .inl (cI, 12, .inl (qS (M i)))))
theorem qP_len (cI : ClassId) (ra : Nat → Nat) (M : Nat → Nat → BitVec 8) : (qP cI ra M).length = 48 := by unfold qP; simp
theorem qP_at {cI : ClassId} {ra : Nat → Nat} {M : Nat → Nat → BitVec 8} {i : Nat} (hi : i < 48) : (qP cI ra M)[i]? = some (ra i, .inl (cI, 12, .inl (qS (M i)))) := by
  unfold qP
  rw [List.getElem?_map, List.getElem?_range hi]
  rfl
theorem qP_set {cI : ClassId} {ra : Nat → Nat} {M : Nat → Nat → BitVec 8} {i : Nat} (hi : i < 48) (w : Nat → BitVec 8) : (qP cI ra M).set i (ra i, .inl (cI, 12, .inl (qS w))) = qP cI ra (va_up M i w) := by
  apply List.ext_getElem?
  intro k
  rw [List.getElem?_set]
  by_cases h : k < 48
  · rw [qP_at h]
    by_cases e : i = k
    · subst e
      rw [if_pos rfl, if_pos (by rw [qP_len]; exact hi), qP_at hi, va_up_self]
    · rw [if_neg e, qP_at h, va_up_ne _ _ (fun q => e q.symm)]
  · rw [if_neg (by omega), List.getElem?_eq_none (by rw [qP_len]; omega), List.getElem?_eq_none (by rw [qP_len]; omega)]
theorem qp_at1 {F P2 : va_W} {cI : ClassId} {ra : Nat → Nat} {M : Nat → Nat → BitVec 8} {i : Nat} (hi : i < 48) : (F ++ (qP cI ra M ++ P2))[F.length + i]? = some (ra i, .inl (cI, 12, .inl (qS (M i)))) := by
  rw [List.getElem?_append_right (by omega), Nat.add_sub_cancel_left, List.getElem?_append_left (by rw [qP_len]; exact hi), qP_at hi]
theorem qp_at2 {F P1 : va_W} (h1 : P1.length = 48) {cI : ClassId} {ra : Nat → Nat} {M : Nat → Nat → BitVec 8} {i : Nat} (hi : i < 48) : (F ++ (P1 ++ qP cI ra M))[F.length + (48 + i)]? = some (ra i, .inl (cI, 12, .inl (qS (M i)))) := by
  rw [List.getElem?_append_right (by omega), Nat.add_sub_cancel_left, List.getElem?_append_right (by omega), h1, Nat.add_sub_cancel_left, qP_at hi]
theorem qp_set1 {F P2 : va_W} {cI : ClassId} {ra : Nat → Nat} {M : Nat → Nat → BitVec 8} {i : Nat} (hi : i < 48) (w : Nat → BitVec 8) : (F ++ (qP cI ra M ++ P2)).set (F.length + i) (ra i, .inl (cI, 12, .inl (qS w))) = F ++ (qP cI ra (va_up M i w) ++ P2) := by
  rw [List.set_append_right _ _ (by omega), Nat.add_sub_cancel_left, List.set_append_left _ _ (by rw [qP_len]; exact hi), qP_set hi]
theorem qp_set2 {F P1 : va_W} (h1 : P1.length = 48) {cI : ClassId} {ra : Nat → Nat} {M : Nat → Nat → BitVec 8} {i : Nat} (hi : i < 48) (w : Nat → BitVec 8) : (F ++ (P1 ++ qP cI ra M)).set (F.length + (48 + i)) (ra i, .inl (cI, 12, .inl (qS w))) = F ++ (P1 ++ qP cI ra (va_up M i w)) := by
  rw [List.set_append_right _ _ (by omega), Nat.add_sub_cancel_left, List.set_append_right _ _ (by omega), h1, Nat.add_sub_cancel_left, qP_set hi]
section QP
variable {p : Program} {l : Launch} {e : Env} {R : Room} {s : State} {m : MethodId} {args : Array Value} {below : List Frame} {meth : Method} {c : Code} {H : Heap} {locs : List Loc} {cells slots : Nat} {Q : State → Prop}
variable {cc : ByteArray} {pc : Nat} {ls : Array Slot} {rest : List Value} {D : va_G} {cl : List vw_C} {tys : List (ClassId × FieldType)} {ws F P1 P2 : va_W} {A : Nat → Prop} {H0 : Heap} {a : Nat}
/-- a row of an array of arrays -/
theorem qr_ald (hexec : p.tables.exec = Jvm.exec) (hb : c.code = cc) (hK : va_K D cl tys s) (hP : va_P D cl ws H) (q0 t0 : Nat) {cA : ClassId} {n : Nat} {f : Nat → Nat} (ha : ws[q0]? = some (a, .inl (cA, n, .inr (.inr (.inr (.inr (fun i => some (f i)))))))) (ht : tys[t0]? = some (cA, .array .int)) {i : Nat} (hi : i < n) (hn : n < 2 ^ 31) (hdg : decode cc pc = .ok (.aaload, 1))
    (kk : W p l e R s m args below meth c H locs cells slots Q (F0 m (pc + 1) ls (.ref (f i) :: rest))) : W p l e R s m args below meth c H locs cells slots Q (F0 m pc ls (.int (nI i) :: .ref a :: rest)) := by
  have hin := vp_in_nI hi hn
  have hlt : (nI i).toNatClampNeg < n := Nat.not_le.mp fun q => hin (Or.inr q)
  refine W.aald (v := .ref (f i)) (ty := .array .int) hexec hb (hP q0 _ ha) ((hK.2 t0 _ ht).1 n (fun j => va_rf (some (f j)))) rfl (fun q => by cases q) (by show ¬ (nI i < 0 ∨ (arrV _ _ _).slots.size ≤ _); rw [arrV_size]; exact hin) ?_ rfl rfl hdg kk
  show (arrV _ _ _).slots[_]? = _
  rw [arrV_read _ _ hlt, nI_clamp (by omega)]
  rfl
theorem qp_ld1 (hexec : p.tables.exec = Jvm.exec) (hb : c.code = cc) (hK : va_K D cl tys s) {cI : ClassId} {ra : Nat → Nat} {M : Nat → Nat → BitVec 8} (hP : va_P D cl (F ++ (qP cI ra M ++ P2)) H) (t0 : Nat) (ht : tys[t0]? = some (cI, .int)) {i j : Nat} (hi : i < 48) (hj : j < 12) (hdg : decode cc pc = .ok (.iaload, 1))
    (kk : W p l e R s m args below meth c H locs cells slots Q (F0 m (pc + 1) ls (.int (sI (M i j)) :: rest))) : W p l e R s m args below meth c H locs cells slots Q (F0 m pc ls (.int (nI j) :: .ref (ra i) :: rest)) :=
  qr_ildS hexec hb hK hP (F.length + i) t0 (qp_at1 hi) ht hj (by omega) hdg kk
theorem qp_ld2 (hexec : p.tables.exec = Jvm.exec) (hb : c.code = cc) (hK : va_K D cl tys s) {cI : ClassId} {ra : Nat → Nat} {M : Nat → Nat → BitVec 8} (hP : va_P D cl (F ++ (P1 ++ qP cI ra M)) H) (h1 : P1.length = 48) (t0 : Nat) (ht : tys[t0]? = some (cI, .int)) {i j : Nat} (hi : i < 48) (hj : j < 12) (hdg : decode cc pc = .ok (.iaload, 1))
    (kk : W p l e R s m args below meth c H locs cells slots Q (F0 m (pc + 1) ls (.int (sI (M i j)) :: rest))) : W p l e R s m args below meth c H locs cells slots Q (F0 m pc ls (.int (nI j) :: .ref (ra i) :: rest)) :=
  qr_ildS hexec hb hK hP (F.length + (48 + i)) t0 (qp_at2 h1 hi) ht hj (by omega) hdg kk
theorem qp_st1 (hexec : p.tables.exec = Jvm.exec) (hb : c.code = cc) (hK : va_K D cl tys s) {cI : ClassId} {ra : Nat → Nat} {M : Nat → Nat → BitVec 8} (hP : va_P D cl (F ++ (qP cI ra M ++ P2)) H) (hD : va_D A (F ++ (qP cI ra M ++ P2))) (hS : va_S A H0 H locs) (t0 : Nat) (ht : tys[t0]? = some (cI, .int)) {i j : Nat} {x : BitVec 8} (hi : i < 48) (hj : j < 12) (hdg : decode cc pc = .ok (.iastore, 1))
    (kk : ∀ (H1 : Heap) (locs1 : List Loc), va_P D cl (F ++ (qP cI ra (va_up M i (va_up (M i) j x)) ++ P2)) H1 → va_D A (F ++ (qP cI ra (va_up M i (va_up (M i) j x)) ++ P2)) → va_S A H0 H1 locs1 → W p l e R s m args below meth c H1 locs1 cells slots Q (F0 m (pc + 1) ls rest)) : W p l e R s m args below meth c H locs cells slots Q (F0 m pc ls (.int (sI x) :: .int (nI j) :: .ref (ra i) :: rest)) := by
  refine qr_istS hexec hb hK hP hD hS (F.length + i) t0 (qp_at1 hi) ht hj (by omega) hdg (fun H1 locs1 h1 h2 h3 => ?_)
  rw [qp_set1 hi] at h1 h2
  exact kk H1 locs1 h1 h2 h3
theorem qp_st2 (hexec : p.tables.exec = Jvm.exec) (hb : c.code = cc) (hK : va_K D cl tys s) {cI : ClassId} {ra : Nat → Nat} {M : Nat → Nat → BitVec 8} (hP : va_P D cl (F ++ (P1 ++ qP cI ra M)) H) (hD : va_D A (F ++ (P1 ++ qP cI ra M))) (hS : va_S A H0 H locs) (hl1 : P1.length = 48) (t0 : Nat) (ht : tys[t0]? = some (cI, .int)) {i j : Nat} {x : BitVec 8} (hi : i < 48) (hj : j < 12) (hdg : decode cc pc = .ok (.iastore, 1))
    (kk : ∀ (H1 : Heap) (locs1 : List Loc), va_P D cl (F ++ (P1 ++ qP cI ra (va_up M i (va_up (M i) j x)))) H1 → va_D A (F ++ (P1 ++ qP cI ra (va_up M i (va_up (M i) j x)))) → va_S A H0 H1 locs1 → W p l e R s m args below meth c H1 locs1 cells slots Q (F0 m (pc + 1) ls rest)) : W p l e R s m args below meth c H locs cells slots Q (F0 m pc ls (.int (sI x) :: .int (nI j) :: .ref (ra i) :: rest)) := by
  refine qr_istS hexec hb hK hP hD hS (F.length + (48 + i)) t0 (qp_at2 hl1 hi) ht hj (by omega) hdg (fun H1 locs1 h1 h2 h3 => ?_)
  rw [qp_set2 hl1 hi] at h1 h2
  exact kk H1 locs1 h1 h2 h3
end QP
/-! behind a call: the callee's cells, at their places -/
def qj_set : va_W → List (Nat × (Nat × va_E)) → va_W
  | ws, [] => ws
  | ws, x :: l => qj_set (ws.set x.1 x.2) l
theorem qj_at (l : List (Nat × (Nat × va_E))) : ∀ (ws : va_W) (k : Nat) (q : Nat × va_E), (qj_set ws l)[k]? = some q → (k, q) ∈ l ∨ (ws[k]? = some q ∧ (∀ x ∈ l, x.1 ≠ k)) := by
  induction l with
  | nil => intro ws k q h; exact Or.inr ⟨h, fun x hx => absurd hx List.not_mem_nil⟩
  | cons x l ih =>
    intro ws k q h
    rw [qj_set] at h
    rcases ih _ k q h with h1 | ⟨h1, h2⟩
    · exact Or.inl (List.mem_cons_of_mem _ h1)
    · rw [List.getElem?_set] at h1
      by_cases e : x.1 = k
      · rw [if_pos e] at h1
        by_cases hl : x.1 < ws.length
        · rw [if_pos hl] at h1
          refine Or.inl ?_
          have : x = (k, q) := by
            obtain ⟨a, b⟩ := x
            have e1 : a = k := e
            have e2 : b = q := Option.some.inj h1
            rw [e1, e2]
          rw [this]
          exact List.mem_cons_self
        · rw [if_neg hl] at h1
          cases h1
      · rw [if_neg e] at h1
        exact Or.inr ⟨h1, fun y hy => (List.mem_cons.mp hy).elim (fun e2 => by rw [e2]; exact e) (h2 y)⟩
theorem qj_zip {α β : Type} {a : List α} {b : List β} {x : α} {y : β} (h : (x, y) ∈ a.zip b) : ∃ j : Nat, a[j]? = some x ∧ b[j]? = some y := by
  obtain ⟨j, hj⟩ := List.getElem?_of_mem h
  rw [List.getElem?_zip_eq_some] at hj
  exact ⟨j, hj.1, hj.2⟩
theorem qj_join {A0 : Nat → Prop} {D : va_G} {cl : List vw_C} {ws wc w1 : va_W} {H H1 : Heap} (hP : va_P D cl ws H) (hD : va_D A0 ws) (isC : List Nat) (hC : isC.map (fun i => ws[i]?) = wc.map some) (ha : w1.map (fun q => q.1) = wc.map (fun q => q.1))
    (hk : ∀ q : Nat, q < H.size → ¬ va_A wc H.size q → H1[q]? = H[q]?) (hP1 : va_P D cl w1 H1) : va_P D cl (qj_set ws (isC.zip w1)) H1 ∧ va_D A0 (qj_set ws (isC.zip w1)) := by
  have hlen : isC.length = wc.length := by
    have h := congrArg List.length hC
    rwa [List.length_map, List.length_map] at h
  have hlen1 : w1.length = wc.length := by
    have h := congrArg List.length ha
    rwa [List.length_map, List.length_map] at h
  have at' : ∀ (j i : Nat), isC[j]? = some i → ∃ q, wc[j]? = some q ∧ ws[i]? = some q := by
    intro j i h
    have h1 : (isC.map (fun i => ws[i]?))[j]? = some (ws[i]?) := by rw [List.getElem?_map, h]; rfl
    rw [hC, List.getElem?_map] at h1
    cases hw : wc[j]? with
    | none => rw [hw] at h1; cases h1
    | some q => rw [hw] at h1; exact ⟨q, rfl, (Option.some.inj h1).symm⟩
  have adr : ∀ (j : Nat) (q q1 : Nat × va_E), wc[j]? = some q → w1[j]? = some q1 → q1.1 = q.1 := by
    intro j q q1 h1 h2
    have h3 : (w1.map (fun q => q.1))[j]? = some q1.1 := by rw [List.getElem?_map, h2]; rfl
    rw [ha, List.getElem?_map, h1] at h3
    exact (Option.some.inj h3).symm
  have old : ∀ (k : Nat) (q : Nat × va_E), (qj_set ws (isC.zip w1))[k]? = some q → ∃ q0, ws[k]? = some q0 ∧ q0.1 = q.1 := by
    intro k q h
    rcases qj_at _ ws k q h with h1 | ⟨h1, -⟩
    · obtain ⟨j, h2, h3⟩ := qj_zip h1
      obtain ⟨q0, h4, h5⟩ := at' j k h2
      exact ⟨q0, h5, (adr j q0 q h4 h3).symm⟩
    · exact ⟨q, h1, rfl⟩
  refine ⟨fun k q h => ?_, fun i j x y hi hj e => ?_, fun k q h => ?_⟩
  · rcases qj_at _ ws k q h with h1 | ⟨h1, h2⟩
    · obtain ⟨j, -, h3⟩ := qj_zip h1
      exact hP1 j q h3
    · have hlt := (hP k q h1).lt
      refine (hP k q h1).kept (hk q.1 hlt (fun h3 => ?_))
      rcases h3 with ⟨j, e, h3⟩ | h3
      · have hj : j < isC.length := by rw [hlen]; exact (List.getElem?_eq_some_iff.mp h3).1
        have hi : isC[j]? = some isC[j] := List.getElem?_eq_getElem hj
        obtain ⟨q0, h4, h5⟩ := at' j _ hi
        have e1 : q0 = (q.1, e) := Option.some.inj (h4.symm.trans h3)
        have e2 := hD.1 _ _ q0 q h5 h1 (by rw [e1])
        have hj1 : j < w1.length := by rw [hlen1, ← hlen]; exact hj
        have hz : (isC[j], w1[j]) ∈ isC.zip w1 := List.mem_of_getElem? (i := j) (by rw [List.getElem?_zip_eq_some]; exact ⟨hi, List.getElem?_eq_getElem hj1⟩)
        exact h2 _ hz e2
      · omega
  · obtain ⟨x0, hx, ex⟩ := old i x hi
    obtain ⟨y0, hy, ey⟩ := old j y hj
    exact hD.1 i j x0 y0 hx hy (by rw [ex, ey]; exact e)
  · obtain ⟨q0, hq, eq⟩ := old k q h
    rw [← eq]
    exact hD.2 k q0 hq
/-- a call over the whole world -/
theorem qj_free {A0 : Nat → Prop} {ws : va_W} {H0 H : Heap} {locs : List Loc} (hD : va_D A0 ws) (hS : va_S A0 H0 H locs) (hA : ∀ q, H0.size ≤ q → A0 q) : ∀ q, va_A ws H.size q → A0 q := by
  intro q h
  rcases h with ⟨k, e, h⟩ | h
  · exact hD.2 k (q, e) h
  · exact hA q (Nat.le_trans hS.1 h)
