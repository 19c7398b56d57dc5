/-! for the constructors -/
def qm_lo (n i : Nat) : Nat → BitVec 8 := fun j => if i ≤ j ∧ j < n then qw_X n j else 0#8
theorem qm_lo_n (n : Nat) {j : Nat} (hj : j < n) : (fun _ => 0#8 : Nat → BitVec 8) j = qm_lo n n j := (if_neg (by omega)).symm
theorem qm_lo_0 {n j : Nat} (hj : j < n) : qm_lo n 0 j = qw_X n j := if_pos ⟨by omega, hj⟩
theorem qm_lo_E (n : Nat) {k : Nat} (h : k + 1 ≤ n) : qf_E (n - k) = qf_m (qf_E (n - (k + 1))) 2#8 := by
  rw [show n - k = (n - (k + 1)) + 1 by omega, qf_E_add, show qf_E 1 = 2#8 by decide +kernel]
theorem qm_lo_s (n : Nat) {k : Nat} (h : k + 1 ≤ n) : qm_lo n k = va_up (qm_lo n (k + 1)) k (qf_E (n - (k + 1))) := by
  funext j
  by_cases e : j = k
  · subst e
    rw [va_up_self]
    exact (if_pos ⟨Nat.le_refl _, by omega⟩).trans (congrArg qf_E (by omega))
  · rw [va_up_ne _ _ e]
    by_cases h1 : k ≤ j ∧ j < n
    · exact (if_pos h1).trans (if_pos (show k + 1 ≤ j ∧ j < n from ⟨by omega, h1.2⟩)).symm
    · exact (if_neg h1).trans (if_neg (show ¬ (k + 1 ≤ j ∧ j < n) from by omega)).symm
theorem qm_dec1 (k : Nat) : nI k + Int32.ofInt (-1) = nI k - nI 1 := by
  rw [Int32.sub_eq_add_neg]
  exact congrArg (fun z => nI k + z) (by decide)
theorem qm_dec2 (k : Nat) : nI (k + 1) - nI 1 = nI k := (pk_sub (by omega)).trans (by rw [Nat.add_sub_cancel])
section QJ4
variable {A0 : Nat → Prop} {D : va_G} {cl : List vw_C} {X Y X1 Y1 F P1 R P2 : va_W} {H H1 : Heap}
/-- behind a call that made cells: the right half has grown -/
theorem qj_gr (hP : va_P D cl (X ++ Y) H) (hD : va_D A0 (X ++ Y)) (hF : ∀ q, va_A Y H.size q → A0 q) (hk : ∀ q : Nat, q < H.size → ¬ va_A Y H.size q → H1[q]? = H[q]?) (hP1 : va_P D cl Y1 H1) (hD1 : va_D (va_A Y H.size) Y1) : va_P D cl (X ++ Y1) H1 ∧ va_D A0 (X ++ Y1) := by
  have no : ∀ (k : Nat) (q : Nat × va_E), X[k]? = some q → ¬ va_A Y H.size q.1 := by
    intro k q h1 h4
    have h3 : (X ++ Y)[k]? = some q := qj_lift h1
    rcases h4 with ⟨j, e, h4⟩ | h4
    · have h5 := hD.1 (X.length + j) k _ _ (qj_liftR h4) h3 rfl
      have h6 := (List.getElem?_eq_some_iff.mp h1).1
      omega
    · have h7 := (hP k q h3).lt
      omega
  refine ⟨fun k q h => ?_, va_D.app (qj_DL hD) (hD1.weaken (fun _ q _ h => hF q.1 h)) (fun i j x y hi hj e => ?_)⟩
  · rcases qj_spl h with h1 | ⟨h1, h2⟩
    · exact (hP k q (qj_lift h1)).kept (hk q.1 (hP k q (qj_lift h1)).lt (no k q h1))
    · exact hP1 _ q h2
  · exact no i x hi (by rw [e]; exact hD1.2 j y hj)
theorem qj_mixP (h : va_P D cl ((F ++ P1) ++ (R ++ P2)) H) : va_P D cl ((F ++ R) ++ (P1 ++ P2)) H := by
  have h1 := va_P.swap h
  rw [← List.append_assoc F R P2] at h1
  have h2 := va_P.swap h1
  rw [List.append_assoc (F ++ R) P1 P2] at h2
  exact h2
theorem qj_mixD (h : va_D A0 ((F ++ P1) ++ (R ++ P2))) : va_D A0 ((F ++ R) ++ (P1 ++ P2)) := by
  have h1 := va_D.swap h
  rw [← List.append_assoc F R P2] at h1
  have h2 := va_D.swap h1
  rw [List.append_assoc (F ++ R) P1 P2] at h2
  exact h2
end QJ4
/-! int[48][12] -/
def qv_AO (U : State) : Prop := (Cond.arrayOver (.array .int)).before #[] U = true
theorem qv_AO_moved {u U : State} (hvm : u.vm.Alike U.vm) (h : qv_AO u) : qv_AO U := over_moved hvm h
def qv_P (U : State) : Prop := va_Nw (.classLink RX4 22 "[[I") U ∧ va_Nw (.classLink RX2 22 "[[I") U ∧ qv_AO U
theorem qv_same {u U : State} (h : u.vm = U.vm) (hN : qv_P u) : qv_P U := ⟨va_Nw.same rfl h hN.1, va_Nw.same rfl h hN.2.1, qv_AO_moved (by rw [← h]; exact Vm.Alike.refl u.vm) hN.2.2⟩
theorem qv_warm {s U : State} (hW : s.WarmedH U.vm) (hN : qv_P s) : qv_P U := ⟨word_at hW (good_of_word rfl) hN.1, word_at hW (good_of_word rfl) hN.2.1, qv_AO_moved hW.alike hN.2.2⟩
theorem qv_arr {c : ClassId} {N : Nat} {f g : Nat → Value} (h : ∀ j, j < N → f j = g j) : arrV c N f = arrV c N g := by
  unfold arrV
  congr 1
  congr 1
  funext j
  exact h j.val j.isLt
theorem qv_outer (c : ClassId) (N h0 : Nat) : ∀ i : Nat, Jvm.Free.Multi.outerC c N h0 i = arrV c N (fun j => va_rf (if j < i then some (h0 + 1 + j) else none))
  | 0 => by
    show ({ cls := c, slots := Array.replicate N .null, vm := .none } : Cell) = _
    rw [arrV_new]
    refine congrArg (arrV c N) (funext fun j => ?_)
    simp [va_rf]
  | i + 1 => by
    show (Jvm.Free.Multi.outerC c N h0 i).setSlot i (.ref (h0 + 1 + i)) = _
    rw [qv_outer c N h0 i, arrV_store]
    refine congrArg (arrV c N) (funext fun j => ?_)
    by_cases e : j = i
    · subst e
      simp [updV, va_rf]
    · by_cases h : j < i
      · simp [updV, e, h, Nat.lt_succ_of_lt h]
      · simp [updV, e, h, show ¬ j < i + 1 by omega]
section QV
variable {p : Program} {l : Launch} {e : Env} {R : Room} {s : State} {m : MethodId} {args : Array Value} {below : List Frame} {meth : Method} {c : Code} {H : Heap} {locs : List Loc} {cells slots : Nat} {Q : State → Prop}
variable {cc : ByteArray} {pc : Nat} {ls : Array Slot} {rest : List Value} {D : va_G} {cl : List vw_C} {A : Nat → Prop} {tys : List (ClassId × FieldType)} {ws : va_W} {H0 : Heap}
theorem qv_mna (hexec : p.tables.exec = Jvm.exec) (hb : c.code = cc) {own : String} {index : Nat} {cI : ClassId} (hown : s.vm.findClass own = some m.cls) (hclink : (Cond.classLink own index "[[I").before args s = true) (hover : qv_AO s) (harr : (Cond.arrayClass .int).before args s = true) (hcI : s.vm.findClass (FieldType.array .int).toString = some cI)
    (hK : va_K D cl tys s) (hP : va_P D cl ws H) (hD : va_D A ws) (hS : va_S A H0 H locs) (hA : ∀ q, H0.size ≤ q → A q) (hcells : cells + 49 ≤ R.cells) (hslots : slots + 624 ≤ R.slots) (hdg : decode cc pc = .ok (.multianewarray index 2, 4))
    (kk : ∀ (q : Nat) (r : Nat → Nat) (cA : ClassId) (H1 : Heap), va_K D cl (tys ++ [(cA, .array .int)]) s →
      va_P D cl ((ws ++ [(q, .inl (cA, 48, .inr (.inr (.inr (.inr (fun i => some (r i)))))))]) ++ qP cI r (fun _ _ => 0#8)) H1 → va_D A ((ws ++ [(q, .inl (cA, 48, .inr (.inr (.inr (.inr (fun i => some (r i)))))))]) ++ qP cI r (fun _ _ => 0#8)) → va_S A H0 H1 locs →
      W p l e R s m args below meth c H1 locs (cells + 49) (slots + 624) Q (F0 m (pc + 4) ls (.ref q :: rest))) : W p l e R s m args below meth c H locs cells slots Q (F0 m pc ls (.int (nI 12) :: .int (nI 48) :: rest)) := by
  intro T hT Xs
  have e48 : (nI 48).toNatClampNeg = 48 := nI_clamp (by decide)
  have e12 : (nI 12).toNatClampNeg = 12 := nI_clamp (by decide)
  obtain ⟨vm₁, cA, comp, -, fA, fC, hO, -, X', step⟩ := Xs.multianewarray2F (ty := .int) hexec hown hclink hover harr (g := F0 m pc ls (.int (nI 12) :: .int (nI 48) :: rest)) rfl (by rw [hb]; exact hdg) rfl (nI_pos (by decide)) (nI_pos (by decide)) (by rw [e48]; decide) (by rw [e12]; decide +kernel) (by rw [e12]; decide) rfl rfl (by rw [e48]; exact hcells) (by rw [e48, e12]; exact hslots)
  rw [e48, e12] at X' step
  have ec : some cI = some comp := hcI.symm.trans fC
  cases ec
  generalize hF : Jvm.Free.Multi.fill (T.setVm vm₁) cA cI 48 12 (defaultValue .int) 48 = F at X' step
  have hTh : (T.setVm vm₁).heap = H := hT
  obtain ⟨f1, f2, -, -⟩ := Jvm.Free.Multi.fill_facts (T.setVm vm₁) cA cI 48 12 (defaultValue .int) 48
  rw [hF, hTh] at f1 f2
  have hold : ∀ x : Nat, x < H.size → F.heap[x]? = H[x]? := fun x hx => by
    have h := Jvm.Free.Multi.fill_old (T.setVm vm₁) cA cI 48 12 (defaultValue .int) (a := x) (by rw [hTh]; exact hx) 48
    rw [hF, hTh] at h
    exact h
  have hz : Jvm.Free.Multi.innerC cI 12 (defaultValue .int) = vp_cell cI (12, .inl (qS (fun _ => 0#8))) := (arrV_new cI 12 (defaultValue .int)).trans (qa_zS 12 cI).symm
  have hrow : ∀ j : Nat, j < 48 → F.heap[H.size + 1 + j]? = some (vp_cell cI (12, .inl (qS (fun _ => 0#8)))) := fun j hj => by
    have h := Jvm.Free.Multi.fill_inner (T.setVm vm₁) cA cI 48 12 (defaultValue .int) 48 j hj
    rw [hF, hTh, hz] at h
    exact h
  have hout : Jvm.Free.Multi.outerC cA 48 H.size 48 = vp_cell cA (48, .inr (.inr (.inr (.inr (fun i => some (H.size + 1 + i)))))) := by
    rw [vp_cell_q, qv_outer cA 48 H.size 48]
    exact qv_arr (fun j hj => by rw [if_pos hj])
  rw [hout] at f2
  have hP0 : va_P D cl ws F.heap := hP.kept (fun k9 x hx => hold x.1 ((hP k9 x hx).lt))
  have hP1 : va_P D cl (ws ++ [(H.size, .inl (cA, 48, .inr (.inr (.inr (.inr (fun i => some (H.size + 1 + i)))))))]) F.heap := hP0.app (fun k9 x hx => by
    have h0 : k9 < 1 := (List.getElem?_eq_some_iff.mp hx).1
    rw [show k9 = 0 by omega] at hx
    cases hx
    exact f2)
  have pk : ∀ {k9 : Nat} {x : Nat × va_E}, (qP cI (fun i => H.size + 1 + i) (fun _ _ => 0#8))[k9]? = some x → k9 < 48 ∧ x = (H.size + 1 + k9, .inl (cI, 12, .inl (qS (fun _ => 0#8)))) := by
    intro k9 x hx
    have h0 := (List.getElem?_eq_some_iff.mp hx).1
    rw [qP_len] at h0
    rw [qP_at h0] at hx
    exact ⟨h0, (Option.some.inj hx).symm⟩
  have hP2 : va_P D cl ((ws ++ [(H.size, .inl (cA, 48, .inr (.inr (.inr (.inr (fun i => some (H.size + 1 + i)))))))]) ++ qP cI (fun i => H.size + 1 + i) (fun _ _ => 0#8)) F.heap := hP1.app (fun k9 x hx => by
    obtain ⟨h0, h1⟩ := pk hx
    rw [h1]
    exact hrow k9 h0)
  have hD1 : va_D A (ws ++ [(H.size, .inl (cA, 48, .inr (.inr (.inr (.inr (fun i => some (H.size + 1 + i)))))))]) := hD.push hP rfl (hA _ hS.1)
  have hDp : va_D A (qP cI (fun i => H.size + 1 + i) (fun _ _ => 0#8)) := ⟨fun i j x y hi hj e9 => by
      obtain ⟨h0, h1⟩ := pk hi
      obtain ⟨h2, h3⟩ := pk hj
      rw [h1, h3] at e9
      have e8 : H.size + 1 + i = H.size + 1 + j := e9
      omega, fun k9 x hx => by
      obtain ⟨h0, h1⟩ := pk hx
      rw [h1]
      exact hA _ (by have h7 := hS.1; show H0.size ≤ H.size + 1 + k9; omega)⟩
  have hD2 := va_D.app hD1 hDp (fun i j x y hi hj e9 => by
    obtain ⟨h2, h3⟩ := pk hj
    have e8 : x.1 = H.size + 1 + j := by rw [e9, h3]
    rcases qj_spl hi with h1 | ⟨h1, h4⟩
    · have h5 := (hP i x h1).lt
      omega
    · have h0 : i - ws.length < 1 := (List.getElem?_eq_some_iff.mp h4).1
      rw [show i - ws.length = 0 by omega] at h4
      cases h4
      have e7 : H.size = H.size + 1 + j := e8
      omega)
  have hAr : ArrOfT s cA (.array .int) := fun N9 z9 => by
    obtain ⟨-, k9, hk9, cm9, hkk9⟩ := (hO 0 0 0).1
    exact ⟨(fun q hq => by cases hq), k9, hk9, cm9, hkk9⟩
  have hK2 : va_K D cl (tys ++ [(cA, .array .int)]) s := ⟨hK.1, fun k9 x hx => by
    by_cases hl : k9 < tys.length
    · rw [List.getElem?_append_left hl] at hx
      exact hK.2 k9 x hx
    · rw [List.getElem?_append_right (by omega)] at hx
      have h0 : k9 - tys.length < 1 := (List.getElem?_eq_some_iff.mp hx).1
      rw [show k9 - tys.length = 0 by omega] at hx
      cases hx
      exact ⟨hAr, fA⟩⟩
  rw [show cells + 1 + 48 = cells + 49 by omega, show slots + 48 + 48 * 12 = slots + 624 by omega] at X'
  obtain ⟨t, a1, b1⟩ := kk H.size (fun i => H.size + 1 + i) cA F.heap hK2 hP2 hD2 ⟨by rw [f1]; have h7 := hS.1; omega, fun x h1 h2 => (hold x (Nat.lt_of_lt_of_le h1 hS.1)).trans (hS.2.1 x h1 h2), hS.2.2⟩ F rfl X'
  refine ⟨t, step t ?_, b1⟩
  have e9 : T.heap.size = H.size := by rw [hT]
  rw [e9]
  exact a1
end QV
