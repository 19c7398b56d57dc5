theorem qu_td (n : Nat) {l : List Cond} {w : Cond} (h : w ∈ l) : w ∈ l.take n ∨ w ∈ l.drop n := by
  rw [← List.take_append_drop n l] at h
  exact List.mem_append.mp h
theorem qu_in_0 : ∀ w ∈ wsL_law.take 38, w ∈ lw_tbl := by decide +kernel
theorem qu_in_1 : ∀ w ∈ (wsL_law.drop 38).take 38, w ∈ lw_tbl := by decide +kernel
theorem qu_in_2 : ∀ w ∈ (wsL_law.drop 76).take 38, w ∈ lw_tbl := by decide +kernel
theorem qu_in_3 : ∀ w ∈ (wsL_law.drop 114).take 38, w ∈ lw_tbl := by decide +kernel
theorem qu_in_4 : ∀ w ∈ (wsL_law.drop 152).take 38, w ∈ lw_tbl := by decide +kernel
theorem qu_in_5 : ∀ w ∈ (wsL_law.drop 190).take 38, w ∈ lw_tbl := by decide +kernel
theorem qu_in_6 : ∀ w ∈ (wsL_law.drop 228).take 38, w ∈ lw_tbl := by decide +kernel
theorem qu_in_7 : ∀ w ∈ (wsL_law.drop 266).take 38, w ∈ lw_tbl := by decide +kernel
theorem qu_in_8 : ∀ w ∈ (wsL_law.drop 304).take 38, w ∈ lw_tbl := by decide +kernel
theorem qu_in_9 : ∀ w ∈ (wsL_law.drop 342).take 38, w ∈ lw_tbl := by decide +kernel
theorem qu_in_10 : ∀ w ∈ (wsL_law.drop 380).take 38, w ∈ lw_tbl := by decide +kernel
theorem qu_in_11 : ∀ w ∈ (wsL_law.drop 418), w ∈ lw_tbl := by decide +kernel
theorem qu_in_law : ∀ w ∈ wsL_law, w ∈ lw_tbl := by
  intro w h
  rcases qu_td 38 h with h | h
  · exact qu_in_0 w h
  have h : w ∈ wsL_law.drop 38 := h
  rcases qu_td 38 h with h | h
  · exact qu_in_1 w h
  rw [List.drop_drop] at h
  have h : w ∈ wsL_law.drop 76 := h
  rcases qu_td 38 h with h | h
  · exact qu_in_2 w h
  rw [List.drop_drop] at h
  have h : w ∈ wsL_law.drop 114 := h
  rcases qu_td 38 h with h | h
  · exact qu_in_3 w h
  rw [List.drop_drop] at h
  have h : w ∈ wsL_law.drop 152 := h
  rcases qu_td 38 h with h | h
  · exact qu_in_4 w h
  rw [List.drop_drop] at h
  have h : w ∈ wsL_law.drop 190 := h
  rcases qu_td 38 h with h | h
  · exact qu_in_5 w h
  rw [List.drop_drop] at h
  have h : w ∈ wsL_law.drop 228 := h
  rcases qu_td 38 h with h | h
  · exact qu_in_6 w h
  rw [List.drop_drop] at h
  have h : w ∈ wsL_law.drop 266 := h
  rcases qu_td 38 h with h | h
  · exact qu_in_7 w h
  rw [List.drop_drop] at h
  have h : w ∈ wsL_law.drop 304 := h
  rcases qu_td 38 h with h | h
  · exact qu_in_8 w h
  rw [List.drop_drop] at h
  have h : w ∈ wsL_law.drop 342 := h
  rcases qu_td 38 h with h | h
  · exact qu_in_9 w h
  rw [List.drop_drop] at h
  have h : w ∈ wsL_law.drop 380 := h
  rcases qu_td 38 h with h | h
  · exact qu_in_10 w h
  rw [List.drop_drop] at h
  have h : w ∈ wsL_law.drop 418 := h
  exact qu_in_11 w h
theorem qu_in_n : ∀ w ∈ qn_L, w ∈ lw_tbl := by decide +kernel
theorem qu_in_s : ∀ q ∈ qx_S, Cond.stringRef RX5 q.1 q.2 ∈ lw_tbl := by decide +kernel
theorem qu_in_e : ∀ q ∈ qx_S, Cond.exactly (.string RX5 q.1) "java/lang/String" ∈ flatC (Jvm.Cond.and given_1 narrow_1) := by decide +kernel
theorem qu_in_x0 : ∀ w ∈ qx_ws (45, 49, "java/lang/IllegalStateException"), w ∈ lw_tbl := by decide +kernel
theorem qu_in_x1 : ∀ w ∈ qx_ws (60, 64, "java/lang/IndexOutOfBoundsException"), w ∈ lw_tbl := by decide +kernel
theorem qu_in_x2 : ∀ w ∈ qx_ws (75, 79, "java/lang/IllegalArgumentException"), w ∈ lw_tbl := by decide +kernel
theorem qu_in_x3 : ∀ w ∈ qx_ws (89, 93, "java/util/NoSuchElementException"), w ∈ lw_tbl := by decide +kernel
theorem qu_in_x : ∀ w ∈ qx_L, w ∈ lw_tbl := by
  intro w h
  obtain ⟨q, hq, hw⟩ := List.mem_flatMap.mp h
  simp only [qx_E, List.mem_cons, List.not_mem_nil, or_false] at hq
  rcases hq with rfl | rfl | rfl | rfl
  · exact qu_in_x0 w hw
  · exact qu_in_x1 w hw
  · exact qu_in_x2 w hw
  · exact qu_in_x3 w hw
