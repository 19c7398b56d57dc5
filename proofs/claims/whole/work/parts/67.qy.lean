/-! a throw of an exception of class E whose constructor hands its text on to Y's by any entry ix, while the constructors from Y up to Throwable's hand it on by entry 7 (NoSuchElementException: 13 to RuntimeException). Own cut: what the words say of the tables (qy_tab), of a field's place in an object of E (qy_pl), of Throwable's two statics (qy_two); the constructor's call as a rule (qy_make); athrow stands in qy_throw. -/
section QY
/-- a field of Throwable, named n, has its place in the objects of class number cE -/
def qy_pl (s : State) (cE : Nat) (k : Class) (f : Field) (n : String) : Prop := k.instanceTypes[f.slot]? = some f.type ∧ ∃ d, Jmm.declares? s.vm f.slot (cE + 1) cE = some d ∧ d.2.name = n
theorem qy_pl_of {args : Array Value} {s : State} {E n d : String} {cE cO i : Nat} {k kO : Class} {f : Field} (hE : s.vm.findClass E = some cE) (hk : s.vm.classes[cE]? = some k) (hF : s.fieldFound? Bundle.tN n d = some (cO, kO, i, f))
    (hn : f.name = n) (hw : (Cond.lays E Bundle.tN n d).before args s = true) : qy_pl s cE k f n :=
  let h := Cond.laysAt hE hk hF hw
  ⟨h.1, h.2.imp fun _ q => ⟨q.1, q.2.trans hn⟩⟩
theorem qy_pl_ne {s : State} {cE : Nat} {k : Class} {f f' : Field} {n n' : String} (h : qy_pl s cE k f n) (h' : qy_pl s cE k f' n') (hn : n ≠ n') : f.slot ≠ f'.slot := by
  intro he
  obtain ⟨d, q1, q2⟩ := h.2
  obtain ⟨d', r1, r2⟩ := h'.2
  rw [he, r1] at q1
  cases q1
  exact hn (q2.symm.trans r2)
/-- three fields written, and the cell entered: a fourth is as it was -/
theorem qy_null (T : ThrowableT) {x : Cell} {a : Addr} {u v : RefV} {t : ThreadId} {i : Nat} {y : Value} (h : x.slots[i]? = some y) (h1 : i ≠ T.fCause.slot) (h2 : i ≠ T.fStack.slot) (h3 : i ≠ T.fSupp.slot) :
    ((preparedCellV T x a u v).withEntry t).slots[i]? = some y := by
  have q : ∀ (z : Cell) (j : Nat) (w : Value), i ≠ j → (z.setSlot j w).slots[i]? = z.slots[i]? := fun z j w hj => Array.getElem?_setIfInBounds_ne (fun e => hj e.symm)
  show (((x.setSlot T.fCause.slot (.ref a)).setSlot T.fStack.slot u.v).setSlot T.fSupp.slot v.v).slots[i]? = some y
  rw [q _ _ _ h3, q _ _ _ h2, q _ _ _ h1]
  exact h
/-- a method of Throwable that E doesn't override -/
theorem qy_sel {l : Launch} {e : Env} {args : Array Value} {s : State} (ha : l.admits e) {E : String} {cE : Nat} {x : MethodName} {k : MethodId} (hE : s.vm.findClass E = some cE) (hn : s.methodNamed? x = some k)
    (hx : x.cls ≠ "java/lang/invoke/MethodHandle" ∧ x.cls ≠ "java/lang/invoke/VarHandle") (hw : (Cond.selects E x x).before args s = true) : selectMethod e.platform s.vm cE k = .method k := by
  obtain ⟨c1, k1, k2, f1, f2, f3, f4, -⟩ := Cond.selects_spec hw
  have g1 : c1 = cE := Option.some.inj (f1.symm.trans hE)
  have g2 : k1 = k := Option.some.inj (f2.symm.trans (State.methodFound?_of_named hn hx))
  have g3 : k2 = k := Option.some.inj (f3.symm.trans hn)
  subst g1 g2 g3
  exact (Launch.admits_selectMethod ha s.vm c1 _).trans f4
/-- the words of such a throw -/
def qy_fs : List (String × String) := [("detailMessage", "Ljava/lang/String;"), ("backtrace", "Ljava/lang/Object;"), ("cause", "Ljava/lang/Throwable;"), ("stackTrace", Bundle.steD), ("suppressedExceptions", Bundle.listD)]
def qy_ws (own : String) (ic : Nat) (E Y : String) (ix : Nat) (rx : ByteArray) (up : List String) : List Cond :=
  ([.instantiable E 6, .methodLink own ic (Bundle.initS E)] ++ [Bundle.tFill, Bundle.tFill0].map (fun x => .selects E x x) ++ qy_fs.map (fun q => .lays E Bundle.tN q.1 q.2)) ++
  ([.fieldLink Bundle.tN 198 Bundle.tN "backtrace" "Ljava/lang/Object;", .lays Bundle.tN Bundle.tN "backtrace" "Ljava/lang/Object;"] ++ [("UNASSIGNED_STACK", Bundle.steD), ("SUPPRESSED_SENTINEL", Bundle.listD)].map (fun q => .isRef (.static Bundle.tN q.1 q.2))) ++
  (Bundle.passSAtoms E Y ix rx ++ Bundle.chainSAtoms Y up) ++ (Bundle.throwableAtoms ++ Bundle.throwableSAtoms)
variable {own E Y : String} {up : List String} {ic ix : Nat} {rx : ByteArray} {args : Array Value} {s : State}
/-- what the words say of the tables -/
theorem qy_tab {pl : Platform} (h1 : pl.frameOwnsMonitors = true) (h2 : pl.finalization = false) (h3 : pl.magicAccessors = ({} : Platform).magicAccessors)
    (x0 : decode rx 0 = .ok (.aload_n 0, 1)) (x1 : decode rx 1 = .ok (.aload_n 1, 1)) (x2 : decode rx 2 = .ok (.invokespecial ix, 3)) (x5 : decode rx 5 = .ok (.return_, 1))
    (hE : Bundle.fit E = true) (hY : Bundle.fit Y = true) (hup : ∀ n ∈ up, Bundle.fit n = true) (hw : ∀ w ∈ qy_ws own ic E Y ix rx up, w.before args s = true) :
    ∃ (T : ThrowableC) (Z0 Z : Init0T) (M : MsgC) (Q : List PassC), T.Links pl s ∧ Bundle.Ties T Z0 s ∧ Z.LaidS T.toThrowableT ∧ M.Links T pl s ∧ (∀ P ∈ Q, P.LinksS pl s) ∧
      PassesOn (Z.m T.toThrowableT) (Q.map (·.toPassT)) ∧ Q.length = up.length + 2 ∧ s.methodNamed? (Bundle.initS E) = some (firstOf (Z.m T.toThrowableT) (Q.map (·.toPassT))) := by
  have hl : ∀ w ∈ Bundle.throwableAtoms ++ Bundle.throwableSAtoms, w.before args s = true := fun w m => hw w (List.mem_append_right _ m)
  have hc : ∀ w ∈ Bundle.passSAtoms E Y ix rx ++ Bundle.chainSAtoms Y up, w.before args s = true := fun w m => hw w (List.mem_append_left _ (List.mem_append_right _ m))
  obtain ⟨T, Z0, t1, -, t2⟩ := ThrowableC.of_atoms h1 h2 h3 (fun w m => hl w (List.mem_append_left _ m))
  obtain ⟨Z, M, z1, z2, z3⟩ := Init0T.ofS_atoms h3 t1 t2 (fun w m => hl w (List.mem_append_right _ m))
  obtain ⟨P, p1, p2, p3⟩ := PassC.ofS_atoms h3 (Bundle.fit_spec hE).1 (Bundle.fit_spec hY).2 x0 x1 x2 x5 (fun w m => hc w (List.mem_append_left _ m))
  obtain ⟨P', Q, q1, q2, q3, q4, q5, q6⟩ := Bundle.chainS h3 z3 up Y hY hup (fun w m => hc w (List.mem_append_right _ m))
  refine ⟨T, Z0, Z, M, P :: P' :: Q, t1, t2, z1, z2, fun q hq => ?_, ⟨Option.some.inj (p3.symm.trans q4), q5, q6⟩, by rw [List.length_cons, List.length_cons, q1], p2⟩
  cases hq with
  | head => exact p1
  | tail _ hq =>
    cases hq with
    | head => exact q2
    | tail _ hq => exact q3 q hq
/-- Throwable's two statics, where the heap of s lies unchanged in that of V -/
theorem qy_two {pl : Platform} {T : ThrowableC} {Z0 : Init0T} {V : State} (t1 : T.Links pl s) (t2 : Bundle.Ties T Z0 s) (hold : ∀ q : Nat, q < s.heap.size → V.heap[q]? = s.heap[q]?)
    (hw : ∀ q ∈ [("UNASSIGNED_STACK", Bundle.steD), ("SUPPRESSED_SENTINEL", Bundle.listD)], (Cond.isRef (.static Bundle.tN q.1 q.2)).before args s = true) :
    ∃ (d : Cell) (u v : RefV), T.aS < s.heap.size ∧ V.heap[T.aS]? = some d ∧ d.vm ≠ .unknown ∧ d.slots[T.fUnassigned.slot]? = some u.v ∧ d.slots[T.fSentinel.slot]? = some v.v := by
  obtain ⟨d, hd, hi⟩ := t2.statics
  have hlt : T.aS < s.heap.size := (Array.getElem?_eq_some_iff.mp hd).1
  obtain ⟨u, hu⟩ := Cond.staticRefV t2.unassigned t1.unassignedStatic t1.statics hd hi (hw _ (.head _))
  obtain ⟨v, hv⟩ := Cond.staticRefV t2.sentinel t1.sentinelStatic t1.statics hd hi (hw _ (.tail _ (.head _)))
  refine ⟨d, u, v, hlt, (hold _ hlt).trans hd, fun h => ?_, hu, hv⟩
  rw [h] at hi
  exact Bool.noConfusion hi
end QY
section QY2
variable {p : Program} {l : Launch} {e : Env} {R : Room} {s : State} {m : MethodId} {args : Array Value} {below : List Frame} {meth : Method} {c : Code} {cells slots : Nat} {own E Y : String} {up : List String} {ic ix : Nat} {rx : ByteArray}
set_option maxHeartbeats 4000000 in
/-- the call of E's constructor on a cell that 'new' has just laid: it returns, and only that cell is written -/
theorem qy_make {V : State} (X : Stand p l e R s m args below meth c V [] cells slots) (hexec : p.tables.exec = Jvm.exec) (htr : e.platform.stackTraces = false)
    (x0 : decode rx 0 = .ok (.aload_n 0, 1)) (x1 : decode rx 1 = .ok (.aload_n 1, 1)) (x2 : decode rx 2 = .ok (.invokespecial ix, 3)) (x5 : decode rx 5 = .ok (.return_, 1))
    (hE : Bundle.fit E = true) (hY : Bundle.fit Y = true) (hup : ∀ n ∈ up, Bundle.fit n = true) (hown : s.vm.findClass own = some m.cls) (hw : ∀ w ∈ qy_ws own ic E Y ix rx up, w.before args s = true)
    (hold : ∀ q : Nat, q < s.heap.size → V.heap[q]? = s.heap[q]?) {a : Addr} (hnew : s.heap.size ≤ a) {cE : Nat} {k : Class} (hcE : s.vm.findClass E = some cE) (hk : s.vm.classes[cE]? = some k) (hcell : V.heap[a]? = some (freshCell cE k))
    {g : JFrame} (hg : g.method = m) (hsize : g.locals.size = c.maxLocals) {msg : Value} (hmsg : msg.isRef = true) {rest : List Value} (hst : g.stack = msg :: .ref a :: rest) (hd : decode c.code g.pc = .ok (.invokespecial ic, 3))
    (hRf : up.length + 4 < R.frames) (hRl : 2 * g.monitorRoom + (rest.map fun v => v.category).sum + (13 * (up.length + 2) + 42) ≤ R.locals) :
    ∃ (Z : List Loc) (U : State), (∀ z ∈ Z, z.base = a) ∧ Stand p l e R s m args below meth c U Z cells slots ∧ (∃ ce, U.heap[a]? = some ce ∧ ce.vm = .none ∧ ce.cls = cE) ∧
      ∀ t, Steps p.tables e below (U.setTop { g with pc := g.pc + 3, stack := rest }) t → Steps p.tables e below (V.setTop g) t := by
  have hq := X.admits.platform
  have hma : e.platform.magicAccessors = ({} : Platform).magicAccessors := by rw [hq]
  obtain ⟨T, Z0, Z, M, Q, t1, t2, z1, z2, hQ, hon, hlen, hfst⟩ := qy_tab (by rw [hq]) (by rw [hq]) hma x0 x1 x2 x5 hE hY hup hw
  have wE : ∀ w ∈ [Cond.instantiable E 6, .methodLink own ic (Bundle.initS E)] ++ [Bundle.tFill, Bundle.tFill0].map (fun x => Cond.selects E x x) ++ qy_fs.map (fun q => Cond.lays E Bundle.tN q.1 q.2), w.before args s = true :=
    fun w h => hw w (List.mem_append_left _ (List.mem_append_left _ (List.mem_append_left _ h)))
  have wT : ∀ w ∈ [Cond.fieldLink Bundle.tN 198 Bundle.tN "backtrace" "Ljava/lang/Object;", .lays Bundle.tN Bundle.tN "backtrace" "Ljava/lang/Object;"] ++ [("UNASSIGNED_STACK", Bundle.steD), ("SUPPRESSED_SENTINEL", Bundle.listD)].map (fun q => Cond.isRef (.static Bundle.tN q.1 q.2)), w.before args s = true :=
    fun w h => hw w (List.mem_append_left _ (List.mem_append_left _ (List.mem_append_right _ h)))
  have wP : ∀ w ∈ Bundle.passSAtoms E Y ix rx, w.before args s = true := fun w h => hw w (List.mem_append_left _ (List.mem_append_right _ (List.mem_append_left _ h)))
  have wF : ∀ q ∈ qy_fs, (Cond.lays E Bundle.tN q.1 q.2).before args s = true := fun q h => wE _ (List.mem_append_right _ (List.mem_map.mpr ⟨q, h, rfl⟩))
  have wS : ∀ x ∈ [Bundle.tFill, Bundle.tFill0], (Cond.selects E x x).before args s = true := fun x h => wE _ (List.mem_append_left _ (List.mem_append_right _ (List.mem_map.mpr ⟨x, h, rfl⟩)))
  obtain ⟨d, u, v, hlt, hdV, hdk, hdu, hdv⟩ := qy_two t1 t2 hold (fun q h => wT _ (List.mem_append_right _ (List.mem_map.mpr ⟨q, h, rfl⟩)))
  obtain ⟨c1, k1, f1, f2, hord, -⟩ := Cond.instantiable_spec (wE _ (.head _))
  have g1 : c1 = cE := Option.some.inj (f1.symm.trans hcE)
  subst g1
  have g2 : k1 = k := Option.some.inj (f2.symm.trans hk)
  subst g2
  obtain ⟨b1, b2, fb, b3, b4, b5, b6, -, b7, b8, b9⟩ := Cond.ownField (t := .object "java/lang/Object") t2.found t1.cls (by decide +kernel) (wT _ (.head _)) (wT _ (.tail _ (.head _))) e.platform hma
  obtain ⟨im, hm⟩ := t2.msg
  have yC := qy_pl_of hcE hk t2.cause t2.causeName (wF _ (.tail _ (.tail _ (.head _))))
  have yS := qy_pl_of hcE hk t2.stack t2.stackName (wF _ (.tail _ (.tail _ (.tail _ (.head _)))))
  have yP := qy_pl_of hcE hk t2.supp t2.suppName (wF _ (.tail _ (.tail _ (.tail _ (.tail _ (.head _))))))
  have yB := qy_pl_of hcE hk b9 b7 (wF _ (.tail _ (.head _)))
  have yM := (Cond.laysAt hcE hk hm (wF _ (.head _))).1
  have hnull : (freshCell c1 k1).slots[fb.slot]? = some .null := by
    have h := fresh_default (c := c1) yB.1
    rw [b8] at h
    exact h
  obtain ⟨tm, -, -, -, vm1, n1, -, -, -, -, -, -, -, hW, st1⟩ := Steps.initColdS X.here hexec X.warmed hma hown (t := Bundle.initS E) rfl rfl (Bundle.fit_spec hE).2 (wE _ (.tail _ (.head _))) (wP _ (.head _)) (wP _ (.tail _ (.head _))) hg hst hd
  have htm : tm = firstOf (Z.m T.toThrowableT) (Q.map (·.toPassT)) := Option.some.inj (n1.symm.trans hfst)
  obtain ⟨vm2, X2, st2⟩ := (X.noted hW).ctorMessageOffV hexec (g := { g with stack := rest }) hg hsize T t1 Z z1 M z2 Q hQ hon hmsg (self := a) hcell (fun _ h => nomatch h) (fun h => nomatch h) rfl rfl
    (qy_sel X.admits hcE t2.fill0 (by decide) (wS _ (.tail _ (.head _)))) (qy_sel X.admits hcE t2.fill (by decide) (wS _ (.head _))) hdV (Nat.ne_of_lt (Nat.lt_of_lt_of_le hlt hnew)) hdk hdu hdv
    (Takes.of_laid hk hord yC.1 (by rw [t2.causeType]; rfl)) (Takes.of_laid hk hord yS.1 (by rw [t2.stackType]; exact fits_refV_array _ u)) (Takes.of_laid hk hord yP.1 (by rw [t2.suppType]; exact fits_refV_object _ v)) (Takes.of_laid hk hord yM (by rw [t2.msgType]; exact fits_refV_object _ ⟨msg, hmsg⟩))
    t2.objLocals ⟨⟨b1, b2, fb⟩, ⟨b3, b4, b5, b6⟩, qy_null _ hnull (qy_pl_ne yB yC (by decide)) (qy_pl_ne yB yS (by decide)) (qy_pl_ne yB yP (by decide)), fun _ _ => rfl⟩ htr [] hd (by rw [hlen]; omega) (by rw [hlen]; exact hRl)
  refine ⟨_, _, fun z hz => ?_, X2, ⟨_, heapAt_setCell_self _ (Array.getElem?_eq_some_iff.mp hcell).1, rfl, rfl⟩, fun t ht => st1 t fun acts => ?_⟩
  · simp only [List.nil_append, List.mem_cons, List.not_mem_nil, or_false] at hz
    rcases hz with h | h | h | h | h <;> rw [h]
  · rw [doInvoke_state, htm]
    exact st2 t ht
def qy_at (own : String) (ic : Nat) (E Y : String) (ix : Nat) (rx : ByteArray) (up : List String) : List Cond := (qy_ws own ic E Y ix rx up).filter vx_no
variable {locs : List Loc} {H : Heap} {ls : Array Slot} {rest : List Value} {mc ms : Nat} {free : Addr → Prop} {Qc : Array Value → State → Outcome → State → Prop} {XC : String → State → State → Prop}
set_option maxHeartbeats 4000000 in
/-- vx_throwS turned: the words are qy_at's, the constructor's call is qy_make, and athrow a step of its own -/
theorem qy_throw {cc : ByteArray} {pc : Nat} (hexec : p.tables.exec = Jvm.exec) (hb : c.code = cc) (hl : l.stackTraces = false) {text : String} {ik is sa : Nat} {A : Nat → Prop}
    (x0 : decode rx 0 = .ok (.aload_n 0, 1)) (x1 : decode rx 1 = .ok (.aload_n 1, 1)) (x2 : decode rx 2 = .ok (.invokespecial ix, 3)) (x5 : decode rx 5 = .ok (.return_, 1))
    (hE : Bundle.fit E = true) (hY : Bundle.fit Y = true) (hup : ∀ n ∈ up, Bundle.fit n = true) (hown : s.vm.findClass own = some m.cls)
    (hk : (Cond.classLink own ik E).before args s = true) (hini : (Cond.initialized E).before args s = true) (hstr : vk_R own is text sa s) (hat : ∀ w ∈ qy_at own ic E Y ix rx up, w.before args s = true)
    (hgood : ∀ w ∈ Cond.classLink own ik E :: Cond.initialized E :: qy_at own ic E Y ix rx up, vx_ot w = true)
    (hU : vx_Zq Bundle.tN "UNASSIGNED_STACK" Bundle.steD A s s.heap) (hN : vx_Zq Bundle.tN "SUPPRESSED_SENTINEL" Bundle.listD A s s.heap) (hS : va_S A s.heap H locs) (hsize : ls.size = c.maxLocals)
    (d0 : decode cc pc = .ok (.new ik, 3)) (d3 : decode cc (pc + 3) = .ok (.dup, 1)) (d4 : decode cc (pc + 4) = .ok (.ldc is, 2)) (d6 : decode cc (pc + 6) = .ok (.invokespecial ic, 3)) (d9 : decode cc (pc + 9) = .ok (.athrow, 1))
    (hout : ∀ x ∈ c.exceptionTable.toList, covers x (pc + 9) = false)
    (hRframes : up.length + 4 < R.frames) (hRlocals : (rest.map fun v => v.category).sum + (13 * (up.length + 2) + 43) ≤ R.locals) (hRcells : cells + 1 ≤ R.cells) (hRslots : slots + 6 ≤ R.slots) (hlocks : meth.locks = false)
    (hx : ∀ t : State, s.vm.Alike t.vm → H.size ≤ t.heap.size → (∀ q : Nat, q < H.size → t.heap[q]? = H[q]?) → XC E s t)
    (hf : ∀ z ∈ locs, free z.base) (hc : cells + 1 ≤ mc) (hs : slots + 6 ≤ ms) :
    W p l e R s m args below meth c H locs cells slots (vx_MQ below Qc XC args s mc ms free) (F0 m pc ls rest) := by
  intro T hT X
  have htr : e.platform.stackTraces = false := (show e.platform.stackTraces = l.stackTraces by rw [X.admits.platform]).trans hl
  have X0 := vx_rebase X (R' := { frames := R.frames, locals := R.locals, cells := 1, slots := 6 }) (Nat.le_refl _) (Nat.le_refl _) hRcells hRslots
  obtain ⟨s', hA⟩ : ∃ z, z = (T.setVm s.vm).setFrames (.invoking m args :: below) := ⟨_, rfl⟩
  rw [← hA] at X0
  have hvm : s'.vm = s.vm := by rw [hA]; rfl
  have hhp : s'.heap = H := by rw [hA]; exact hT
  have hW0 : s.WarmedH s'.vm := by rw [hvm]; exact State.WarmedH.refl s
  have hmv : ∀ w ∈ Cond.classLink own ik E :: Cond.initialized E :: qy_at own ic E Y ix rx up, w.before args s = true → w.before args s' = true := fun w hw h => vx_ot_at hW0 hvm.symm (hgood w hw) h
  have hU' : vx_Zq Bundle.tN "UNASSIGNED_STACK" Bundle.steD A s' s'.heap := by rw [hhp]; exact vx_Zq.moved hW0.alike (hU.kept hS.2.1)
  have hN' : vx_Zq Bundle.tN "SUPPRESSED_SENTINEL" Bundle.listD A s' s'.heap := by rw [hhp]; exact vx_Zq.moved hW0.alike (hN.kept hS.2.1)
  have h : ∀ w ∈ qy_ws own ic E Y ix rx up, w.before args s' = true := vx_own (fun w hw => hmv w (.tail _ (.tail _ hw)) (hat w hw)) (vx_isRefq hU'.1) (vx_isRefq hN'.1) hU'.2.word hN'.2.word
  have hown' : s'.vm.findClass own = some m.cls := by rw [hvm]; exact hown
  have hstr' : vk_R own is text sa s' := vk_R.warm hW0 hstr
  obtain ⟨vm1, cE, kE, hcE, hkE, -, -, X1, st1⟩ := X0.newCold hexec (own := own) (C := E) (index := ik) (n := 6) hown' (hmv _ (.head _) hk) (h _ (.head _)) (hmv _ (.tail _ (.head _)) hini)
    (g := F0 m pc ls rest) rfl (by rw [hb]; exact d0) (Nat.le_refl _) (Nat.le_refl _)
  generalize hT1 : (T.setVm vm1).pushCell { cls := cE, slots := kE.instanceTypes.map defaultValue, vm := .none } = T1 at X1 st1
  have hsz : s'.heap.size = T.heap.size := by rw [hhp, hT]
  have hold : ∀ q : Nat, q < s'.heap.size → T1.heap[q]? = s'.heap[q]? := fun q hq => by
    rw [← hT1, hhp, ← hT]
    exact State.heap_pushCell_of_lt _ _ (by rw [hsz] at hq; exact hq)
  have hcell : T1.heap[T.heap.size]? = some (freshCell cE kE) := by rw [← hT1]; exact State.heap_pushCell_size _ _
  obtain ⟨Z, U, hZ, X2, ⟨ce, hce, hcv, hcc⟩, st2⟩ := qy_make X1 hexec htr x0 x1 x2 x5 hE hY hup hown' h hold (a := T.heap.size) (Nat.le_of_eq hsz) hcE hkE hcell
    (g := { method := m, pc := pc + 6, locals := ls, stack := .ref sa :: .ref T.heap.size :: .ref T.heap.size :: rest, locked := none }) rfl hsize (msg := .ref sa) rfl (rest := .ref T.heap.size :: rest) rfl (by rw [hb]; exact d6)
    hRframes (by simp only [List.map_cons, List.sum_cons, show (Value.ref T.heap.size).category = 1 from rfl]; omega)
  obtain ⟨st3, hrun, hend, hW, hsm⟩ := X2.athrowLeaves hexec (g := { method := m, pc := pc + 9, locals := ls, stack := .ref T.heap.size :: rest, locked := none }) rfl rfl rfl hout rfl (by rw [hb]; exact d9) hlocks
  have hsame := hsm.weaken (l' := []) (fun z hz hlt => absurd hlt (by rw [hZ z hz, hsz]; exact Nat.lt_irrefl _)) (Nat.le_refl _) (Nat.le_refl _)
  obtain ⟨f1, f2⟩ := vx_frame hsame
  rw [hhp] at f1 f2
  have hWs : s.WarmedH (U.setFrames (.throwing T.heap.size :: below)).vm := State.WarmedH.trans hW0 hW
  have hcl : s.vm.findClass E = some ce.cls := by
    rw [hcc, ← hvm]
    exact hcE
  have hall : s.sameButNew ({ U.setFrames (.throwing T.heap.size :: below) with vm := s.vm } : State) locs mc ms := by
    subst hA
    obtain ⟨e1, e2⟩ := hsame
    rw [State.setFrames_setFrames] at e1
    have h2 : (T.setVm s.vm).sameButNew ({ U.setFrames (.throwing T.heap.size :: below) with vm := s.vm } : State) [] (0 + 1) (0 + 6) := ⟨e1, e2⟩
    have h3 := X.same.trans h2
    rw [List.append_nil] at h3
    exact h3.mono hc hs
  refine ⟨U.setFrames (.throwing T.heap.size :: below), st1 _ ?_, .threw T.heap.size, hrun, hend, Or.inr ⟨T.heap.size, rfl, E, ce, locs, hx _ hWs.alike f1 (fun q hq => f2 q hq (fun z hz => nomatch hz)), hce, hcv, hcl, hWs, hall, hf⟩⟩
  show Steps p.tables e below (T1.setTop { method := m, pc := pc + 3, locals := ls, stack := .ref T.heap.size :: rest, locked := none }) _
  have d3' : decode c.code (pc + 3) = .ok (.dup, 1) := by rw [hb]; exact d3
  jvm_step X1.here [X1.here.top, hexec, d3', Value.category]
  exact X1.ldcString hexec (own := own) (text := text) (index := is) (a := sa) hown' hstr'.1 hstr'.2
    (g := { method := m, pc := pc + 4, locals := ls, stack := .ref T.heap.size :: .ref T.heap.size :: rest, locked := none }) rfl (by rw [hb]; exact d4) _ (st2 _ st3)
end QY2
