/-! ===== 'new NoSuchElementException(text)': its constructor of a text calls the one above it by place 13 of its pool, those above that by place 7. A walk of our own over the library's rows for such constructors (ctorMessageOffV and what it asks for), by import alone ===== -/
abbrev zNSE : String := "java/util/NoSuchElementException"
def zthA : List Cond := Bundle.throwableAtoms ++ Bundle.throwableSAtoms ++ (Bundle.passSAtoms zNSE "java/lang/RuntimeException" 13 prog_30_method_4_code ++ Bundle.chainSAtoms "java/lang/RuntimeException" ["java/lang/Exception"]) ++
  [.methodLink RX11 156 (Bundle.initS zNSE), .instantiable zNSE 6, .castable zNSE zNSE, .selects zNSE Bundle.tFill0 Bundle.tFill0, .selects zNSE Bundle.tFill Bundle.tFill,
   .lays zNSE Bundle.tN "cause" "Ljava/lang/Throwable;", .lays zNSE Bundle.tN "stackTrace" Bundle.steD, .lays zNSE Bundle.tN "suppressedExceptions" Bundle.listD, .lays zNSE Bundle.tN "detailMessage" "Ljava/lang/String;",
   .isRef (.static Bundle.tN "UNASSIGNED_STACK" Bundle.steD), .isRef (.static Bundle.tN "SUPPRESSED_SENTINEL" Bundle.listD),
   .fieldLink Bundle.tN 198 Bundle.tN "backtrace" "Ljava/lang/Object;", .lays Bundle.tN Bundle.tN "backtrace" "Ljava/lang/Object;", .lays zNSE Bundle.tN "backtrace" "Ljava/lang/Object;"]
abbrev zthW : List Cond := zthA.filter vx_no
theorem zct_m1 {w : Cond} (h : w ∈ Bundle.throwableAtoms) : w ∈ zthA := List.mem_append_left _ (List.mem_append_left _ (List.mem_append_left _ h))
theorem zct_m2 {w : Cond} (h : w ∈ Bundle.throwableSAtoms) : w ∈ zthA := List.mem_append_left _ (List.mem_append_left _ (List.mem_append_right _ h))
theorem zct_m3 {w : Cond} (h : w ∈ Bundle.passSAtoms zNSE "java/lang/RuntimeException" 13 prog_30_method_4_code) : w ∈ zthA := List.mem_append_left _ (List.mem_append_right _ (List.mem_append_left _ h))
theorem zct_m4 {w : Cond} (h : w ∈ Bundle.chainSAtoms "java/lang/RuntimeException" ["java/lang/Exception"]) : w ∈ zthA := List.mem_append_left _ (List.mem_append_right _ (List.mem_append_right _ h))
section ZCT
variable {args : Array Value} {s : State} {cX : ClassId} {kX : Class}
/-- a field of the throwable, as it lies in a cell of the class -/
def zct_lay (s : State) (cX : ClassId) (kX : Class) (f : Field) : Prop := kX.instanceTypes[f.slot]? = some f.type ∧ ∃ q, Jmm.declares? s.vm f.slot (cX + 1) cX = some q ∧ q.2.name = f.name
theorem zct_ne {f g : Field} (h1 : zct_lay s cX kX f) (h2 : zct_lay s cX kX g) (hn : f.name ≠ g.name) : f.slot ≠ g.slot := by
  obtain ⟨-, q1, a1, b1⟩ := h1
  obtain ⟨-, q2, a2, b2⟩ := h2
  exact Cond.laysApart a1 a2 b1 b2 hn
theorem zct_sel {l : Launch} {e : Env} (he : l.admits e) (hc : s.vm.findClass zNSE = some cX) {y : MethodName} {m9 : MethodId} (hy : y.cls ≠ "java/lang/invoke/MethodHandle" ∧ y.cls ≠ "java/lang/invoke/VarHandle") (hm : s.methodNamed? y = some m9) (w : (Cond.selects zNSE y y).before args s = true) : selectMethod e.platform s.vm cX m9 = .method m9 := by
  have ⟨c2, r2, m2, h1, h2, h3, h4, _⟩ := Cond.selects_spec w
  have e1 : c2 = cX := Option.some.inj (h1.symm.trans hc)
  have e2 : r2 = m9 := Option.some.inj (h2.symm.trans (State.methodFound?_of_named hm hy))
  have e3 : m2 = m9 := Option.some.inj (h3.symm.trans hm)
  subst e1 e2 e3
  exact (Launch.admits_selectMethod he _ _ _).trans h4
/-- the row that holds the two statics: not in a state unknown, and with references in both -/
theorem zct_stat {pl : Platform} {T : ThrowableC} {Z : Init0T} (LT : T.Links pl s) (Y : Bundle.Ties T Z s) (h : ∀ w ∈ zthA, w.before args s = true) : ∃ (x : Cell) (u v : RefV), s.heap[T.aS]? = some x ∧ x.vm ≠ .unknown ∧ x.slots[T.fUnassigned.slot]? = some u.v ∧ x.slots[T.fSentinel.slot]? = some v.v := by
  obtain ⟨x, hx, hs⟩ := Y.statics
  have w1 : (Cond.isRef (.static Bundle.tN "UNASSIGNED_STACK" Bundle.steD)).before args s = true := h _ (by simp [zthA])
  have w2 : (Cond.isRef (.static Bundle.tN "SUPPRESSED_SENTINEL" Bundle.listD)).before args s = true := h _ (by simp [zthA])
  obtain ⟨u, hu⟩ := Cond.staticRefV Y.unassigned LT.unassignedStatic LT.statics hx hs w1
  obtain ⟨v, hv⟩ := Cond.staticRefV Y.sentinel LT.sentinelStatic LT.statics hx hs w2
  exact ⟨x, u, v, hx, fun z => by rw [z] at hs; exact absurd hs (by decide), hu, hv⟩
/-- a new cell of the class: it takes what the constructors put there, and its backtrace is null all the way -/
theorem zct_cell {pl : Platform} (hpl : pl.magicAccessors = ({} : Platform).magicAccessors) {T : ThrowableC} {Z : Init0T} (LT : T.Links pl s) (Y : Bundle.Ties T Z s) (h : ∀ w ∈ zthA, w.before args s = true) (hc : s.vm.findClass zNSE = some cX) (hk : s.vm.classes[cX]? = some kX) :
    (∀ q : Addr, Takes s (freshCell cX kX) T.fCause (.ref q)) ∧ (∀ u : RefV, Takes s (freshCell cX kX) T.fStack u.v) ∧ (∀ u : RefV, Takes s (freshCell cX kX) T.fSupp u.v) ∧ (∀ u : RefV, Takes s (freshCell cX kX) T.fMsg u.v) ∧
      ∀ (q : Addr) (u v : RefV) (t : ThreadId), SkipFacts T pl s (fun z => z) u ((preparedCellV T.toThrowableT (freshCell cX kX) q u v).withEntry t) := by
  have hor : kX.kind = .ordinary := by
    have w : (Cond.instantiable zNSE 6).before args s = true := h _ (by simp [zthA])
    obtain ⟨c2, k2, h1, h2, h3, -⟩ := Cond.instantiable_spec w
    have e1 : c2 = cX := Option.some.inj (h1.symm.trans hc)
    subst e1
    rw [← Option.some.inj (h2.symm.trans hk)]
    exact h3
  have wB : (Cond.lays zNSE Bundle.tN "backtrace" "Ljava/lang/Object;").before args s = true := h _ (by simp [zthA])
  have wL : (Cond.fieldLink Bundle.tN 198 Bundle.tN "backtrace" "Ljava/lang/Object;").before args s = true := h _ (by simp [zthA])
  have wD : (Cond.lays Bundle.tN Bundle.tN "backtrace" "Ljava/lang/Object;").before args s = true := h _ (by simp [zthA])
  have wC : (Cond.lays zNSE Bundle.tN "cause" "Ljava/lang/Throwable;").before args s = true := h _ (by simp [zthA])
  have wS : (Cond.lays zNSE Bundle.tN "stackTrace" Bundle.steD).before args s = true := h _ (by simp [zthA])
  have wP : (Cond.lays zNSE Bundle.tN "suppressedExceptions" Bundle.listD).before args s = true := h _ (by simp [zthA])
  have wM : (Cond.lays zNSE Bundle.tN "detailMessage" "Ljava/lang/String;").before args s = true := h _ (by simp [zthA])
  obtain ⟨ci, i, fB, b1, b2, b3, b4, -, bn, bt, bf⟩ := Cond.ownField (t := .object "java/lang/Object") Y.found LT.cls (by decide +kernel) wL wD pl hpl
  obtain ⟨iM, hM⟩ := Y.msg
  have lB : zct_lay s cX kX fB := Cond.laysAt hc hk bf wB
  have lC : zct_lay s cX kX T.fCause := Cond.laysAt hc hk Y.cause wC
  have lS : zct_lay s cX kX T.fStack := Cond.laysAt hc hk Y.stack wS
  have lP : zct_lay s cX kX T.fSupp := Cond.laysAt hc hk Y.supp wP
  have lM : zct_lay s cX kX T.fMsg := Cond.laysAt hc hk hM wM
  refine ⟨fun q => Takes.of_laid hk hor lC.1 (by rw [Y.causeType]; rfl), fun u => Takes.of_laid hk hor lS.1 (by rw [Y.stackType]; exact fits_refV_array _ u), fun u => Takes.of_laid hk hor lP.1 (by rw [Y.suppType]; exact fits_refV_object _ u), fun u => Takes.of_laid hk hor lM.1 (by rw [Y.msgType]; exact fits_refV_object _ u), fun q u v t => ⟨⟨ci, i, fB⟩, ⟨b1, b2, b3, b4⟩, ?_, fun _ _ => rfl⟩⟩
  have nC : T.fCause.slot ≠ fB.slot := zct_ne lC lB (by rw [Y.causeName, bn]; decide)
  have nS : T.fStack.slot ≠ fB.slot := zct_ne lS lB (by rw [Y.stackName, bn]; decide)
  have nP : T.fSupp.slot ≠ fB.slot := zct_ne lP lB (by rw [Y.suppName, bn]; decide)
  show ((((kX.instanceTypes.map defaultValue).setIfInBounds T.fCause.slot (.ref q)).setIfInBounds T.fStack.slot u.v).setIfInBounds T.fSupp.slot v.v)[fB.slot]? = some .null
  rw [Array.getElem?_setIfInBounds_ne nP, Array.getElem?_setIfInBounds_ne nS, Array.getElem?_setIfInBounds_ne nC, Array.getElem?_map, lB.1, bt]
  rfl
/-- the three constructors below the throwable's own: the first calls by place 13, the others by 7 -/
theorem zct_pass {pl : Platform} (hpl : pl.magicAccessors = ({} : Platform).magicAccessors) {top : MethodId} (ht : s.methodNamed? (Bundle.initS Bundle.tN) = some top) (h : ∀ w ∈ zthA, w.before args s = true) :
    ∃ Q : PassC, ∃ Qs : List PassC, Qs.length = 2 ∧ s.methodNamed? (Bundle.initS zNSE) = some Q.m ∧ (∀ P, P ∈ Q :: Qs → P.LinksS pl s) ∧ PassesOn top ((Q :: Qs).map (·.toPassT)) := by
  obtain ⟨Q, k1, k2, k3⟩ := PassC.ofS_atoms (args := args) (s := s) (pl := pl) (X := zNSE) (Y := "java/lang/RuntimeException") (index := 13) (bytes := prog_30_method_4_code) hpl (by decide +kernel) (by decide) (by decide +kernel) (by decide +kernel) (by decide +kernel) (by decide +kernel) (fun w hw => h w (zct_m3 hw))
  obtain ⟨R1, Rs, r1, r2, r3, r4, r5, r6⟩ := Bundle.chainS (args := args) hpl ht ["java/lang/Exception"] "java/lang/RuntimeException" (by decide +kernel) (by decide +kernel) (fun w hw => h w (zct_m4 hw))
  have e1 : Q.sup = R1.m := Option.some.inj (k3.symm.trans r4)
  refine ⟨Q, R1 :: Rs, by rw [List.length_cons, r1]; rfl, k2, fun P hP => ?_, e1, r5, r6⟩
  rcases List.mem_cons.mp hP with z | z
  · rw [z]
    exact k1
  · rcases List.mem_cons.mp z with z2 | z2
    · rw [z2]
      exact r2
    · exact r3 P z2
end ZCT
section ZCU
variable {p : Program} {l : Launch} {e : Env} {R : Room} {s W : State} {m9 : MethodId} {args : Array Value} {below : List Frame} {meth : Method} {c : Code} {locs : List Loc} {cells slots : Nat} {a b : Addr} {cX : ClassId} {kX : Class} {g : JFrame} {rest : List Value}
/-- behind the constructor: a world with the object in it, its five slots written -/
theorem zct_make (X : Stand p l e R s m9 args below meth c W locs cells slots) (hexec : p.tables.exec = Jvm.exec) (htr : e.platform.stackTraces = false) (hno : ∀ z ∈ locs, False) (hown : s.vm.findClass RX11 = some m9.cls) (h : ∀ w ∈ zthA, w.before args s = true)
    (hc : s.vm.findClass zNSE = some cX) (hk : s.vm.classes[cX]? = some kX) (ha : W.heap[a]? = some (freshCell cX kX)) (hnew : s.heap.size ≤ a) (hg : g.method = m9) (hsz : g.locals.size = c.maxLocals) (hst : g.stack = .ref b :: .ref a :: .ref a :: rest)
    (hd : decode c.code g.pc = .ok (.invokespecial 156, 3)) (hR1 : 5 < R.frames) (hR2 : 2 * g.monitorRoom + ((Value.ref a :: rest).map fun v => v.category).sum + (13 * 3 + 42) ≤ R.locals) :
    ∃ (W9 : State) (L9 : List Loc) (x : Cell), Stand p l e R s m9 args below meth c W9 (locs ++ L9) cells slots ∧ (∀ z ∈ L9, z.base = a) ∧ (W9.heap[a]? = some x ∧ x.cls = cX ∧ x.vm = .none) ∧
      ∀ U, Steps p.tables e below (W9.setTop { g with stack := .ref a :: rest, pc := g.pc + 3 }) U → Steps p.tables e below (W.setTop g) U := by
  have hpl : e.platform.magicAccessors = ({} : Platform).magicAccessors := by rw [X.admits.platform]
  obtain ⟨T, Z0, LT, -, Y⟩ := ThrowableC.of_atoms (args := args) (s := s) (pl := e.platform) (by rw [X.admits.platform]) (by rw [X.admits.platform]) hpl (fun w hw => h w (zct_m1 hw))
  obtain ⟨Z, M, LZ, LM, hZ⟩ := Init0T.ofS_atoms (args := args) hpl LT Y (fun w hw => h w (zct_m2 hw))
  obtain ⟨Q, Qs, q1, q2, q3, q4⟩ := zct_pass (args := args) hpl hZ h
  obtain ⟨x, u, v, x1, x2, x3, x4⟩ := zct_stat LT Y h
  obtain ⟨t1, t2, t3, t4, t5⟩ := zct_cell hpl LT Y h hc hk
  have hlt : T.aS < s.heap.size := (Array.getElem?_eq_some_iff.mp x1).1
  have hxW : W.heap[T.aS]? = some x := ((vx_frame X.same).2 T.aS hlt (fun z hz => (hno z hz).elim)).trans x1
  have s1 : selectMethod e.platform s.vm cX T.fill0 = .method T.fill0 := zct_sel (args := args) X.admits hc (by decide) Y.fill0 (h _ (by simp [zthA]))
  have s2 : selectMethod e.platform s.vm cX T.fill = .method T.fill := zct_sel (args := args) X.admits hc (by decide) Y.fill (h _ (by simp [zthA]))
  have n1 : (Cond.methodLink RX11 156 (Bundle.initS zNSE)).before args s = true := h _ (by simp [zthA])
  have n2 : (Cond.instanceMethod (Bundle.initS zNSE)).before args s = true := h _ (zct_m3 (by simp [Bundle.passSAtoms]))
  have n3 : (Cond.code (Bundle.initS zNSE) prog_30_method_4_code 2 none).before args s = true := h _ (zct_m3 (by simp [Bundle.passSAtoms]))
  obtain ⟨tm, -, -, -, vm1, y1, -, -, -, -, -, -, -, y2, y3⟩ := Steps.initColdS X.here hexec X.warmed hpl hown rfl rfl (by decide) n1 n2 n3 hg hst hd
  have e1 : tm = Q.m := Option.some.inj (y1.symm.trans q2)
  subst e1
  obtain ⟨vm2, X2, k2⟩ := (X.noted y2).ctorMessageOffV hexec (g := { g with stack := .ref a :: rest }) hg hsz T LT Z LZ M LM (Q :: Qs) q3 q4 (u0 := u) (sen := v) (self := a) (msg := .ref b) rfl (cell := freshCell cX kX) (cellS := x)
    ha (fun _ => by simp) (by simp) rfl rfl s1 s2 hxW (Nat.ne_of_lt (Nat.lt_of_lt_of_le hlt hnew)) x2 x3 x4 (t1 a) (t2 u) (t3 v) (t4 ⟨.ref b, rfl⟩) Y.objLocals (t5 a u v _) htr [] hd
    (by rw [List.length_cons, q1]; exact hR1) (by rw [List.length_cons, q1]; exact hR2)
  refine ⟨_, _, _, X2, fun z hz => ?_, ⟨heapAt_setCell_self _ (Array.getElem?_eq_some_iff.mp ha).1, rfl, rfl⟩, fun U hU => y3 U (fun acts => ?_)⟩
  · simp only [List.mem_cons, List.not_mem_nil, or_false] at hz
    rcases hz with z1 | z1 | z1 | z1 | z1 <;> rw [z1]
  · rw [doInvoke_state]
    exact k2 U hU
theorem zct_throw (X : Stand p l e R s m9 args below meth c W locs cells slots) (hexec : p.tables.exec = Jvm.exec) (htr : e.platform.stackTraces = false) (hown : s.vm.findClass RX11 = some m9.cls) (h : ∀ w ∈ zthA, w.before args s = true) (hno : ∀ z ∈ locs, False)
    (hc : s.vm.findClass zNSE = some cX) (hk : s.vm.classes[cX]? = some kX) (ha : W.heap[a]? = some (freshCell cX kX)) (hnew : s.heap.size ≤ a) (hg : g.method = m9) (hsz : g.locals.size = c.maxLocals) (hlk : g.locked = none) (hen : g.entered = []) (hst : g.stack = .ref b :: .ref a :: .ref a :: rest)
    (hd : decode c.code g.pc = .ok (.invokespecial 156, 3)) (hd3 : decode c.code (g.pc + 3) = .ok (.athrow, 1)) (hout : ∀ z ∈ c.exceptionTable.toList, covers z (g.pc + 3) = false)
    (hR1 : 5 < R.frames) (hR2 : 2 * g.monitorRoom + ((Value.ref a :: rest).map fun v => v.category).sum + (13 * 3 + 42) ≤ R.locals) (hlocks : meth.locks = false) :
    ∃ U : State, Steps p.tables e below (W.setTop g) U ∧ U.status = .running ∧ Ended U below (.threw a) ∧ s.WarmedH U.vm ∧ s.sameButNew ({ U with vm := s.vm } : State) locs cells slots ∧ ∃ ce, U.heap[a]? = some ce ∧ s.vm.findClass zNSE = some ce.cls ∧ ce.vm = .none := by
  obtain ⟨W9, L9, x, X9, hL, ⟨x1, x2, x3⟩, st⟩ := zct_make X hexec htr hno hown h hc hk ha hnew hg hsz hst hd hR1 hR2
  obtain ⟨k1, k2, k3, k4, k5⟩ := X9.athrowLeaves hexec (g := { g with stack := .ref a :: rest, pc := g.pc + 3 }) hg hlk hen hout (a := a) (rest := rest) rfl hd3 hlocks
  refine ⟨_, st _ k1, k2, k3, k4, k5.weaken (fun z hz hlt => ?_) (Nat.le_refl _) (Nat.le_refl _), x, x1, by rw [x2]; exact hc, x3⟩
  rcases List.mem_append.mp hz with z1 | z1
  · exact z1
  · rw [hL z z1] at hlt
    exact absurd hlt (Nat.not_lt.mpr hnew)
end ZCU
