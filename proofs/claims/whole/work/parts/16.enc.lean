/-! the word that begins with given symbols: one function for system and reference -/
theorem qs_R_congr {z y : Nat → Bool} {w v : Nat → BitVec 8} {n : Nat} (h : ∀ i, i < n → z i = y i) (hw : ∀ i, i < n → y i = false → w i = v i) : qk_R n z w = qk_R n y v := by
  funext k
  unfold qk_R
  refine qw_h_congr (fun i hi => ?_)
  rw [h i hi]
  cases hy : y i with
  | true => rfl
  | false => exact hw i hi hy
theorem qs_N_congr {z y : Nat → Bool} {w v : Nat → BitVec 8} {d e : Nat → Nat} {n : Nat} (h : ∀ i, i < n → z i = y i) (hw : ∀ i, i < n → y i = false → w i = v i) : qk_N n z d w = qk_N n y e v := by
  unfold qk_N
  rw [qs_R_congr h hw, qd_c_congr h]
  congr 1
  funext k c
  unfold qg_M0
  by_cases h4 : c < 4
  · rw [if_pos h4, if_pos h4]
    by_cases hc : c < qd_c y n
    · rw [if_pos hc, if_pos hc, qd_d_congr h]
      show qf_p (qw_X n (qd_d y d n c)) k = qf_p (qw_X n (qd_d y e n c)) k
      rw [qd_d_any y d e n hc]
    · rw [if_neg hc, if_neg hc]
  · rw [if_neg h4, if_neg h4]
theorem qs_can_congr {z y : Nat → Bool} {w v : Nat → BitVec 8} {d e : Nat → Nat} {n : Nat} (h : ∀ i, i < n → z i = y i) (hw : ∀ i, i < n → y i = false → w i = v i) : qk_can n z d w ↔ qk_can n y e v := by
  unfold qk_can
  rw [qs_N_congr (d := d) (e := e) h hw, qd_c_congr h]
/-- filled: what stood at the doubted places doesn't matter -/
theorem qs_p_same {z y : Nat → Bool} {w v : Nat → BitVec 8} {d e : Nat → Nat} {n : Nat} (h : ∀ i, i < n → z i = y i) (hw : ∀ i, i < n → y i = false → w i = v i) {i : Nat} (hi : i < n) : qk_p w (qd_d z d n) (fun c => qk_N n z d w c 4) (qd_c z n) i = qk_p v (qd_d y e n) (fun c => qk_N n y e v c 4) (qd_c y n) i := by
  rw [qs_N_congr (d := d) (e := e) h hw]
  cases hy : y i with
  | true =>
    have hz : z i = true := (h i hi).trans hy
    have e1 := qk_p_in (w := w) (d := qd_d z d n) (x := fun c => qk_N n y e v c 4) (qd_c_lt z hi hz) (fun a b ha hb hne => qd_d_ne z d n ha hb hne)
    have e2 := qk_p_in (w := v) (d := qd_d y e n) (x := fun c => qk_N n y e v c 4) (qd_c_lt y hi hy) (fun a b ha hb hne => qd_d_ne y e n ha hb hne)
    rw [qd_d_all z d n hi hz] at e1
    rw [qd_d_all y e n hi hy] at e2
    rw [e1, e2, qd_c_congr (z := z) (y := y) (fun j hj => h j (by omega))]
  | false =>
    have hz : z i = false := (h i hi).trans hy
    rw [qk_p_out (fun c hc q => by have h9 := (qd_d_in z d n c hc).2.1; rw [q, hz] at h9; exact absurd h9 (by decide)), qk_p_out (fun c hc q => by have h9 := (qd_d_in y e n c hc).2.1; rw [q, hy] at h9; exact absurd h9 (by decide))]
    exact hw i hi hy
theorem qs_both {n : Nat} (hn : n ≤ 16) {z y : Nat → Bool} {w v : Nat → BitVec 8} {d e : Nat → Nat} (hm : qd_c z n ≤ 4) (h : ∀ i, i < n → z i = y i) (hw : ∀ i, i < n → y i = false → w i = v i) (hc : qk_can n z d w) {i : Nat} (hi : i < n) : qw_a w (qd_d z d n) (qk_ch n z d w) (qd_c z n) i = qk_p v (qd_d y e n) (fun c => qk_N n y e v c 4) (qd_c y n) i :=
  (qk_same hn hm hc hi).trans (qs_p_same h hw hi)
/-- the word of n symbols that begins with f 0 .. -/
def qs_Z (n : Nat) : Nat → Bool := qm_fi n (fun _ => false) 16
def qs_enc (n : Nat) (f : Nat → BitVec 8) : Nat → BitVec 8 := qk_p f (qd_d (qs_Z n) (fun _ => 0) n) (fun c => qk_N n (qs_Z n) (fun _ => 0) f c 4) (qd_c (qs_Z n) n)
theorem qs_Z_f {n i : Nat} (hn : n ≤ 16) (hi : i < n) (h : qs_Z n i = false) : i < n - 4 := by
  unfold qs_Z at h
  rw [qm_fi_at (by omega), decide_eq_true hi, Bool.and_true] at h
  have := of_decide_eq_false h
  omega
theorem qs_class {n : Nat} (hn : n ≤ 16) (h4 : 4 ≤ n) {z : Nat → Bool} {w f : Nat → BitVec 8} {d : Nat → Nat} (hw : ∀ i, i < n - 4 → w i = f i) {i : Nat} (hi : i < n) : qw_a w (qd_d (qm_mc n z n) d n) (qk_ch n (qm_mc n z n) d w) 4 i = qs_enc n f i := by
  have hc4 : qd_c (qm_mc n z n) n = 4 := qm_mc_4 z h4
  have h := qs_both (n := n) hn (z := qm_mc n z n) (y := qs_Z n) (w := w) (v := f) (d := d) (e := fun _ => 0) (by rw [hc4]; exact Nat.le_refl 4) (qm_fi_mc hn z _) (fun i hi hz => hw i (qs_Z_f hn hi hz)) (fun k h1 h2 => absurd h2 (by rw [hc4] at h1; omega)) hi
  rw [hc4] at h
  exact h
theorem qs_ref {n : Nat} (hn : n ≤ 16) (h4 : 4 ≤ n) {z : Nat → Bool} {w f : Nat → BitVec 8} {d : Nat → Nat} (hw : ∀ i, i < n - 4 → w i = f i) {i : Nat} (hi : i < n) : qk_p w (qd_d (qm_fi n z 16) d n) (fun c => qk_N n (qm_fi n z 16) d w c 4) 4 i = qs_enc n f i := by
  have hc4 : qd_c (qm_fi n z 16) n = 4 := qm_fi_4 hn z h4
  have h := qs_p_same (n := n) (z := qm_fi n z 16) (y := qs_Z n) (w := w) (v := f) (d := d) (e := fun _ => 0) (fun i hi => by unfold qs_Z; rw [qm_fi_at (by omega), qm_fi_at (by omega)]) (fun i hi hz => hw i (qs_Z_f hn hi hz)) hi
  rw [hc4] at h
  exact h
theorem qs_enc_congr {n : Nat} (hn : n ≤ 16) {f g : Nat → BitVec 8} (h : ∀ i, i < n - 4 → f i = g i) {i : Nat} (hi : i < n) : qs_enc n f i = qs_enc n g i :=
  qs_p_same (fun _ _ => rfl) (fun i hi hz => h i (qs_Z_f hn hi hz)) hi
/-- rows of a pool that agree below 12 -/
theorem qp_sameG {D : va_G} {cl : List vw_C} {A : Nat → Prop} {ws ws' : va_W} {H : Heap} (hP : va_P D cl ws H) (hD : va_D A ws) (h : ∀ (k : Nat) (q : Nat × va_E), ws'[k]? = some q → ∃ q0, ws[k]? = some q0 ∧ q0.1 = q.1 ∧ (va_at D cl q0 H → va_at D cl q H)) : va_P D cl ws' H ∧ va_D A ws' := by
  refine ⟨fun k q hk => ?_, fun i j x y hi hj e => ?_, fun k q hk => ?_⟩
  · obtain ⟨q0, h1, -, h3⟩ := h k q hk
    exact h3 (hP k q0 h1)
  · obtain ⟨x0, h1, h2, -⟩ := h i x hi
    obtain ⟨y0, h3, h4, -⟩ := h j y hj
    exact hD.1 i j x0 y0 h1 h3 (by rw [h2, h4]; exact e)
  · obtain ⟨q0, h1, h2, -⟩ := h k q hk
    rw [← h2]
    exact hD.2 k q0 h1
theorem qp_row {D : va_G} {cl : List vw_C} {H : Heap} {cI : ClassId} {ra : Nat → Nat} {M N : Nat → Nat → BitVec 8} (h : ∀ i, i < 48 → ∀ j, j < 12 → M i j = N i j) (k : Nat) (q : Nat × va_E) (hk : (qP cI ra N)[k]? = some q) : ∃ q0, (qP cI ra M)[k]? = some q0 ∧ q0.1 = q.1 ∧ (va_at D cl q0 H → va_at D cl q H) := by
  have hl : k < 48 := by
    have := (List.getElem?_eq_some_iff.mp hk).1
    rwa [qP_len] at this
  rw [qP_at hl] at hk
  refine ⟨_, qP_at hl, ?_, ?_⟩
  · rw [← Option.some.inj hk]
  · intro h1
    rw [← Option.some.inj hk]
    have h2 : H[ra k]? = some (vp_cell cI (12, .inl (qS (M k)))) := h1
    rw [qr_cell cI (f := qS (M k)) (g := qS (N k)) (fun j hj => congrArg sI (h k hl j hj))] at h2
    exact h2
theorem qp_same1 {D : va_G} {cl : List vw_C} {A : Nat → Prop} {F P2 : va_W} {H : Heap} {cI : ClassId} {ra : Nat → Nat} {M N : Nat → Nat → BitVec 8} (hP : va_P D cl (F ++ (qP cI ra M ++ P2)) H) (hD : va_D A (F ++ (qP cI ra M ++ P2))) (h : ∀ i, i < 48 → ∀ j, j < 12 → M i j = N i j) : va_P D cl (F ++ (qP cI ra N ++ P2)) H ∧ va_D A (F ++ (qP cI ra N ++ P2)) := by
  refine qp_sameG hP hD (fun k q hk => ?_)
  by_cases h1 : k < F.length
  · rw [List.getElem?_append_left h1] at hk
    exact ⟨q, by rw [List.getElem?_append_left h1]; exact hk, rfl, id⟩
  · rw [List.getElem?_append_right (by omega)] at hk
    by_cases h2 : k - F.length < 48
    · rw [List.getElem?_append_left (by rw [qP_len]; exact h2)] at hk
      obtain ⟨q0, a1, a2, a3⟩ := qp_row (D := D) (cl := cl) (H := H) h _ q hk
      exact ⟨q0, by rw [List.getElem?_append_right (by omega), List.getElem?_append_left (by rw [qP_len]; exact h2)]; exact a1, a2, a3⟩
    · rw [List.getElem?_append_right (by rw [qP_len]; omega), qP_len] at hk
      exact ⟨q, by rw [List.getElem?_append_right (by omega), List.getElem?_append_right (by rw [qP_len]; omega), qP_len]; exact hk, rfl, id⟩
theorem qp_same2 {D : va_G} {cl : List vw_C} {A : Nat → Prop} {F P1 : va_W} {H : Heap} {cI : ClassId} {ra : Nat → Nat} {M N : Nat → Nat → BitVec 8} (hP : va_P D cl (F ++ (P1 ++ qP cI ra M)) H) (hD : va_D A (F ++ (P1 ++ qP cI ra M))) (h : ∀ i, i < 48 → ∀ j, j < 12 → M i j = N i j) : va_P D cl (F ++ (P1 ++ qP cI ra N)) H ∧ va_D A (F ++ (P1 ++ qP cI ra N)) := by
  refine qp_sameG hP hD (fun k q hk => ?_)
  rw [← List.append_assoc] at hk ⊢
  by_cases h1 : k < (F ++ P1).length
  · rw [List.getElem?_append_left h1] at hk
    exact ⟨q, by rw [List.getElem?_append_left h1]; exact hk, rfl, id⟩
  · rw [List.getElem?_append_right (by omega)] at hk
    obtain ⟨q0, a1, a2, a3⟩ := qp_row (D := D) (cl := cl) (H := H) h _ q hk
    exact ⟨q0, by rw [List.getElem?_append_right (by omega)]; exact a1, a2, a3⟩
/-! hidden fields across the nest -/
def qn_L : List Cond := [.fieldLinkNest "DiscCoder" 100 "DiscCoder$Reader" "output" "[I" "DiscCoder", .fieldLinkNest "DiscCoder" 103 "DiscCoder$Reader" "lost" "[Z" "DiscCoder", .fieldLinkNest "DiscCoder" 107 "DiscCoder$Reader" "wordsMended" "I" "DiscCoder", .fieldLinkNest "DiscCoder" 110 "DiscCoder$Reader" "wordsDoubted" "I" "DiscCoder", .fieldLinkNest "DiscCoder" 113 "DiscCoder$Reader" "symbolsFilled" "I" "DiscCoder", .fieldLinkNest "DiscCoder" 116 "DiscCoder$Reader" "wordsLost" "I" "DiscCoder", .fieldLinkNest "DiscCoder" 130 "DiscCoder$Word" "symbols" "[I" "DiscCoder", .fieldLinkNest "DiscCoder" 41 "DiscCoder$Disc" "rowsWritten" "I" "DiscCoder", .fieldLinkNest "DiscCoder" 65 "DiscCoder$Disc" "symbols" "[I" "DiscCoder", .fieldLinkNest "DiscCoder" 80 "DiscCoder$Disc" "rowsRead" "I" "DiscCoder", .fieldLinkNest "DiscCoder$Reader" 38 "DiscCoder$Disc" "rowsRead" "I" "DiscCoder", .fieldLinkNest "DiscCoder$Reader" 57 "DiscCoder$Word" "symbols" "[I" "DiscCoder", .fieldLinkNest "DiscCoder$Reader" 79 "DiscCoder$Word" "doubted" "[Z" "DiscCoder", .fieldLinkNest "DiscCoder$Writer" 31 "DiscCoder$Disc" "rowsWritten" "I" "DiscCoder", .fieldLinkNest "DiscCoder$Writer" 57 "DiscCoder$Word" "symbols" "[I" "DiscCoder"]
def qn_N (U : State) : Prop := ∀ w ∈ qn_L, va_Nw w U
theorem qn_tab : ∀ w ∈ qn_L, w.onTables = true := by decide +kernel
theorem qn_same {u U : State} (h : u.vm = U.vm) (hN : qn_N u) : qn_N U := fun w hw => va_Nw.same (qn_tab w hw) h (hN w hw)
theorem qn_warm {s U : State} (hW : s.WarmedH U.vm) (hN : qn_N s) : qn_N U := by
  intro w hw
  have h := hN w hw
  simp only [qn_L, List.mem_cons, List.not_mem_nil, or_false] at hw
  rcases hw with rfl | rfl | rfl | rfl | rfl | rfl | rfl | rfl | rfl | rfl | rfl | rfl | rfl | rfl | rfl <;> exact va_Nw.warmF hW h
