/-! what a throw rests on: words, texts, the two statics of Throwable -/
def qx_up : List String := ["java/lang/RuntimeException", "java/lang/Exception"]
def qx_E : List (Nat × Nat × String) := [(45, 49, "java/lang/IllegalStateException"), (60, 64, "java/lang/IndexOutOfBoundsException"), (75, 79, "java/lang/IllegalArgumentException"), (89, 93, "java/util/NoSuchElementException")]
def qx_rx : ByteArray := ⟨#[0x2a, 0x2b, 0xb7, 0x00, 0x0d, 0xb1]⟩
theorem qx_r0 : decode qx_rx 0 = .ok (.aload_n 0, 1) := by decide +kernel
theorem qx_r1 : decode qx_rx 1 = .ok (.aload_n 1, 1) := by decide +kernel
theorem qx_r2 : decode qx_rx 2 = .ok (.invokespecial 13, 3) := by decide +kernel
theorem qx_r5 : decode qx_rx 5 = .ok (.return_, 1) := by decide +kernel
def qx_at (ic : Nat) (E : String) : List Cond := if E = "java/util/NoSuchElementException" then .castable E E :: qy_at RX5 ic E "java/lang/RuntimeException" 13 qx_rx ["java/lang/Exception"] else vx_atS RX5 ic E qx_up
def qx_ws (q : Nat × Nat × String) : List Cond := Cond.classLink RX5 q.1 q.2.2 :: Cond.initialized q.2.2 :: qx_at q.2.1 q.2.2
def qx_L : List Cond := qx_E.flatMap qx_ws
def qx_S : List (Nat × String) := [(47, "the disc is full"), (62, "no such symbol on the disc"), (77, "what is added is no symbol"), (83, "the row was read"), (85, "fewer than none, or what is added is no symbol"), (87, "a row was read"), (91, "all rows were read"), (98, "no such symbol in the output"), (119, "no such figure"), (121, "no such check"), (131, "no symbol")]
def qx_kd : Cond → Bool
  | .castable _ _ => true
  | .declares _ => true
  | w => goodWord w
theorem qx_kd_ok : ∀ w ∈ qx_L, qx_kd w = true := by decide +kernel
theorem qx_ot_ok : ∀ w ∈ qx_L, vx_ot w = true := by decide +kernel
theorem qx_tab : ∀ w ∈ qx_L, w.onTables = true := by decide +kernel
theorem qx_fit : ∀ q ∈ qx_E, Bundle.fit q.2.2 = true := by decide +kernel
theorem qx_fit2 : ∀ n ∈ qx_up, Bundle.fit n = true := by decide +kernel
def qx_G (A : Nat → Prop) (U : State) (H : Heap) : Prop := (∀ w ∈ qx_L, va_Nw w U) ∧ (∀ q ∈ qx_S, ∃ a, vk_R RX5 q.1 q.2 a U) ∧ vx_Zq Bundle.tN "UNASSIGNED_STACK" Bundle.steD A U H ∧ vx_Zq Bundle.tN "SUPPRESSED_SENTINEL" Bundle.listD A U H
def qx_P (U : State) : Prop := qx_G (fun q => U.heap.size ≤ q) U U.heap
theorem qx_warm1 {w : Cond} {s U : State} (hk : qx_kd w = true) (hW : s.WarmedH U.vm) (h : va_Nw w s) : va_Nw w U := by
  cases w with
  | castable a b => exact va_Nw.warmC hW h
  | declares x => exact va_Nw.warmD hW h
  | _ => exact word_at hW (good_of_word hk) h
/-- ahead of a call: what the caller holds since its own start -/
theorem qx_pre {A : Nat → Prop} {s U : State} {H : Heap} {locs : List Loc} (hA : ∀ q : Nat, s.heap.size ≤ q → A q) (hS : va_S A s.heap H locs) (hW : s.WarmedH U.vm) (hU : U.heap = H) (hX : qx_G A s s.heap) : qx_P U := by
  refine ⟨fun w hw => qx_warm1 (qx_kd_ok w hw) hW (hX.1 w hw), fun q hq => ?_, ?_, ?_⟩
  · obtain ⟨a, h⟩ := hX.2.1 q hq
    exact ⟨a, vk_R.warm hW h⟩
  · rw [hU]
    exact vx_Zq.narrow (vx_Zq.moved hW.alike (vx_Zq.kept hX.2.2.1 hS.2.1)) (fun q h => hA q (Nat.le_trans hS.1 h))
  · rw [hU]
    exact vx_Zq.narrow (vx_Zq.moved hW.alike (vx_Zq.kept hX.2.2.2 hS.2.1)) (fun q h => hA q (Nat.le_trans hS.1 h))
theorem qx_narrow {A B : Nat → Prop} {U : State} {H : Heap} (hX : qx_G A U H) (h : ∀ q, B q → A q) : qx_G B U H := ⟨hX.1, hX.2.1, vx_Zq.narrow hX.2.2.1 h, vx_Zq.narrow hX.2.2.2 h⟩
theorem qx_blind {U : State} {g : JFrame} {mk : MethodId} {a : Array Value} (h : qx_P U) : qx_P (U.calling g mk a) :=
  ⟨fun w hw => va_Nw.same (u := U) (qx_tab w hw) rfl (h.1 w hw), fun q hq => (h.2.1 q hq).imp (fun _ h9 => vk_R.same (u := U) rfl h9), vx_Zq.moved (u := U) (U := U.calling g mk a) (Vm.Alike.refl U.vm) h.2.2.1, vx_Zq.moved (u := U) (U := U.calling g mk a) (Vm.Alike.refl U.vm) h.2.2.2⟩
theorem qx_use {A : Nat → Prop} {s : State} {H : Heap} {args : Array Value} {w : Cond} (hX : qx_G A s H) (hw : w ∈ qx_L) : w.before args s = true := va_Nw.use (qx_tab w hw) (hX.1 w hw)
/-- an exception of this kind left the method; nothing that was there has changed -/
def qx_X (E : String) (sz : Nat) : String → State → State → Prop := vx_X (fun _ : Unit => True) (fun E' _ _ => E' = E) (fun q => sz ≤ q)
section QXT
variable {p : Program} {l : Launch} {e : Env} {R : Room} {s : State} {m : MethodId} {args : Array Value} {below : List Frame} {meth : Method} {c : Code} {ls : Array Slot} {Qc : Array Value → State → Outcome → State → Prop} {cc : ByteArray} {pc : Nat}
theorem qx_throw (hexec : p.tables.exec = Jvm.exec) (hb : c.code = cc) (hl9 : l.stackTraces = false) (hown : s.vm.findClass RX5 = some m.cls) (hX : qx_P s) {E text : String} {ik is ic : Nat} (hE : (ik, ic, E) ∈ qx_E) (hs : (is, text) ∈ qx_S) (hsize : ls.size = c.maxLocals)
    (d0 : decode cc pc = .ok (.new ik, 3)) (d3 : decode cc (pc + 3) = .ok (.dup, 1)) (d4 : decode cc (pc + 4) = .ok (.ldc is, 2)) (d6 : decode cc (pc + 6) = .ok (.invokespecial ic, 3)) (d9 : decode cc (pc + 9) = .ok (.athrow, 1)) (hEx : ∀ x ∈ c.exceptionTable.toList, False) (hR1 : 6 ≤ R.frames) (hR2 : 90 ≤ R.locals) (hR3 : 1 ≤ R.cells) (hR4 : 6 ≤ R.slots) (hlocks : meth.locks = false) :
    W p l e R s m args below meth c s.heap [] 0 0 (vx_MQ below Qc (qx_X E s.heap.size) args s 1 6 (fun q => s.heap.size ≤ q)) (F0 m pc ls []) := by
  obtain ⟨sa, hsa⟩ := hX.2.1 _ hs
  have hm : ∀ w ∈ qx_ws (ik, ic, E), w ∈ qx_L := fun w hw => List.mem_flatMap.mpr ⟨_, hE, hw⟩
  have hat : ∀ w ∈ qx_at ic E, w ∈ qx_L := fun w hw => hm w (List.mem_cons_of_mem _ (List.mem_cons_of_mem _ hw))
  have hk1 : Cond.classLink RX5 ik E ∈ qx_L := hm _ List.mem_cons_self
  have hk2 : Cond.initialized E ∈ qx_L := hm _ (List.mem_cons_of_mem _ List.mem_cons_self)
  have hgd : ∀ L : List Cond, (∀ w ∈ L, w ∈ qx_L) → ∀ w ∈ Cond.classLink RX5 ik E :: Cond.initialized E :: L, vx_ot w = true := by
    intro L hL w hw
    rcases List.mem_cons.mp hw with rfl | hw
    · exact qx_ot_ok _ hk1
    · rcases List.mem_cons.mp hw with rfl | hw
      · exact qx_ot_ok _ hk2
      · exact qx_ot_ok _ (hL w hw)
  by_cases e9 : E = "java/util/NoSuchElementException"
  · have hat9 : ∀ w ∈ qy_at RX5 ic E "java/lang/RuntimeException" 13 qx_rx ["java/lang/Exception"], w ∈ qx_L := fun w hw => hat w (by unfold qx_at; rw [if_pos e9]; exact .tail _ hw)
    exact qy_throw (own := RX5) (E := E) (Y := "java/lang/RuntimeException") (up := ["java/lang/Exception"]) (A := fun q => s.heap.size ≤ q) hexec hb hl9 qx_r0 qx_r1 qx_r2 qx_r5 (qx_fit _ hE) (qx_fit2 _ (.head _)) (fun n hn => qx_fit2 n (.tail _ hn)) hown (qx_use hX hk1) (qx_use hX hk2) hsa
      (fun w hw => qx_use hX (hat9 w hw)) (hgd _ hat9) hX.2.2.1 hX.2.2.2 va_S.rf hsize d0 d3 d4 d6 d9 (fun x hx => (hEx x hx).elim)
      (Nat.lt_of_lt_of_le (by decide) hR1) (Nat.le_trans (by decide) hR2) (Nat.le_trans (by decide) hR3) (Nat.le_trans (by decide) hR4) hlocks (fun t ha hsz hk => ⟨(), trivial, rfl, hsz, fun q h1 _ => hk q h1⟩) (fun z hz => absurd hz List.not_mem_nil) (by decide) (by decide)
  · have hat9 : ∀ w ∈ vx_atS RX5 ic E qx_up, w ∈ qx_L := fun w hw => hat w (by unfold qx_at; rw [if_neg e9]; exact hw)
    exact vx_throwS (own := RX5) (cls := E) (names := qx_up) (A := fun q => s.heap.size ≤ q) hexec hb hl9 hown (qx_fit _ hE) qx_fit2 (qx_use hX hk1) (qx_use hX hk2) hsa
      (fun w hw => qx_use hX (hat9 w hw)) (hgd _ hat9) hX.2.2.1 hX.2.2.2 va_S.rf hsize d0 d3 d4 d6 d9 (fun x hx => (hEx x hx).elim)
      (Nat.lt_of_lt_of_le (by decide) hR1) (Nat.le_trans (by decide) hR2) (Nat.le_trans (by decide) hR3) (Nat.le_trans (by decide) hR4) hlocks (fun t ha hsz hk => ⟨(), trivial, rfl, hsz, fun q h1 _ => hk q h1⟩) (fun z hz => absurd hz List.not_mem_nil) (by decide) (by decide)
end QXT
