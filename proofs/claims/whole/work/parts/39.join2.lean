/-- joining in place, the addresses by a list of their own -/
theorem qj_join2 {A0 : Nat → Prop} {D : va_G} {cl : List vw_C} {ws wc w1 : va_W} {H H1 : Heap} (hP : va_P D cl ws H) (hD : va_D A0 ws) (isC : List Nat) (hC : isC.map (fun i => ws[i]?) = wc.map some) (as : List Nat) (ha : w1.map (fun q => q.1) = as) (hb : wc.map (fun q => q.1) = as)
    (hk : ∀ q : Nat, q < H.size → ¬ va_A wc H.size q → H1[q]? = H[q]?) (hP1 : va_P D cl w1 H1) : va_P D cl (qj_set ws (isC.zip w1)) H1 ∧ va_D A0 (qj_set ws (isC.zip w1)) :=
  qj_join hP hD isC hC (ha.trans hb.symm) hk hP1
