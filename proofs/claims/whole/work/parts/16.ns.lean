/-- the words of a throw of a class whose constructor calls its superclass by another place of its pool -/
def nsAt (own : String) (ic : Nat) (X Y : String) (names : List String) (ix : Nat) (bytes : ByteArray) : List Cond :=
  Bundle.throwableAtoms ++ Bundle.throwableSAtoms ++ (Bundle.passSAtoms X Y ix bytes ++ Bundle.chainSAtoms Y names) ++
  [.methodLink own ic (Bundle.initS X), .instantiable X 6, .castable X X, .selects X Bundle.tFill0 Bundle.tFill0, .selects X Bundle.tFill Bundle.tFill, .lays X Bundle.tN "cause" "Ljava/lang/Throwable;", .lays X Bundle.tN "stackTrace" Bundle.steD, .lays X Bundle.tN "suppressedExceptions" Bundle.listD, .lays X Bundle.tN "detailMessage" "Ljava/lang/String;", .isRef (.static Bundle.tN "UNASSIGNED_STACK" Bundle.steD), .isRef (.static Bundle.tN "SUPPRESSED_SENTINEL" Bundle.listD), .fieldLink Bundle.tN 198 Bundle.tN "backtrace" "Ljava/lang/Object;", .lays Bundle.tN Bundle.tN "backtrace" "Ljava/lang/Object;", .lays X Bundle.tN "backtrace" "Ljava/lang/Object;"]
section NS
variable {p : Program} {l : Launch} {e : Env} {R : Room} {s : State} {m : MethodId} {args : Array Value} {below : List Frame} {meth : Method} {c : Code} {H : Heap} {W9 : State} {locs : List Loc} {cells slots : Nat}
set_option maxHeartbeats 4000000 in
theorem ns_ctor (X : Stand p l e R s m args below meth c W9 locs cells slots) (hexec : p.tables.exec = Jvm.exec) (htr : e.platform.stackTraces = false) {own cls Y : String} {names : List String} {ic ix : Nat} {bytes : ByteArray}
    (b0 : decode bytes 0 = .ok (.aload_n 0, 1)) (b1 : decode bytes 1 = .ok (.aload_n 1, 1)) (b2 : decode bytes 2 = .ok (.invokespecial ix, 3)) (b5 : decode bytes 5 = .ok (.return_, 1))
    (hown : s.vm.findClass own = some m.cls) (hcls : Bundle.fit cls = true) (hY : Bundle.fit Y = true) (hnames : ∀ n ∈ names, Bundle.fit n = true)
    (h : ∀ a ∈ nsAt own ic cls Y names ix bytes, a.before args s = true) (hlocs : locs = [])
    {a : Addr} {cX : ClassId} {kX : Class} (hfX : s.vm.findClass cls = some cX) (hkX : s.vm.classes[cX]? = some kX) (hcell : W9.heap[a]? = some (freshCell cX kX)) (hnew : s.heap.size ≤ a)
    {msg : Value} (hmsg : msg.isRef = true) {g : JFrame} (hg : g.method = m) (hsize : g.locals.size = c.maxLocals) (hlocked : g.locked = none) (hentered : g.entered = []) {rest : List Value} (hstack : g.stack = msg :: .ref a :: .ref a :: rest)
    (hd6 : decode c.code g.pc = .ok (.invokespecial ic, 3)) (hd9 : decode c.code (g.pc + 3) = .ok (.athrow, 1)) (hout : ∀ x ∈ c.exceptionTable.toList, covers x (g.pc + 3) = false)
    (hRf : names.length + 4 < R.frames) (hRl : 2 * g.monitorRoom + ((Value.ref a :: rest).map fun v => v.category).sum + (13 * (names.length + 2) + 42) ≤ R.locals) (hlocks : meth.locks = false) :
    ∃ (U : State) (ce : Cell), Steps p.tables e below (W9.setTop g) U ∧ U.status = .running ∧ Ended U below (.threw a) ∧ s.WarmedH U.vm ∧ s.sameButNew ({ U with vm := s.vm } : State) [] cells slots ∧ U.heap[a]? = some ce ∧ ce.vm = .none ∧ s.vm.findClass cls = some ce.cls := by
  subst hlocs
  have howns : e.platform.frameOwnsMonitors = true := by rw [X.admits.platform]
  have hfin : e.platform.finalization = false := by rw [X.admits.platform]
  have hpl : e.platform.magicAccessors = ({} : Platform).magicAccessors := by rw [X.admits.platform]
  have q : ∀ w, w ∈ nsAt own ic cls Y names ix bytes → w.holds args s none s [] = true := fun w hw => h w hw
  obtain ⟨T, Z0, L, -, K⟩ := ThrowableC.of_atoms (args := args) howns hfin hpl (fun w hw => h w (by simp [nsAt, hw]))
  obtain ⟨Z, M, LZ, LM, hnZ⟩ := Init0T.ofS_atoms (args := args) hpl L K (fun w hw => h w (by simp [nsAt, hw]))
  obtain ⟨P0, L0, hm0, hs0⟩ := PassC.ofS_atoms (args := args) (s := s) hpl (X := cls) (Y := Y) (Bundle.fit_spec hcls).1 (Bundle.fit_spec hY).2 b0 b1 b2 b5 (fun w hw => h w (by simp [nsAt, hw]))
  obtain ⟨P1, Ps, hlen, L1, hL, hm1, hk1, hk2⟩ := Bundle.chainS (args := args) hpl hnZ names Y hY hnames (fun w hw => h w (by simp [nsAt, hw]))
  have hsup : P0.sup = P1.m := Option.some.inj (hs0.symm.trans hm1)
  have hfound : s.vm.findClass cls = some P0.m.cls := findClass_of_methodNamed hm0
  cases Option.some.inj (hfX.symm.trans hfound)
  obtain ⟨c1, k1, hc1, hk, hord, -, -, -⟩ := Cond.instantiable_spec (q (.instantiable cls 6) (by simp [nsAt]))
  cases Option.some.inj (hc1.symm.trans hfound)
  cases Option.some.inj (hkX.symm.trans hk)
  have sel : ∀ (y : MethodName) (my : MethodId), s.methodNamed? y = some my → (y.cls ≠ "java/lang/invoke/MethodHandle" ∧ y.cls ≠ "java/lang/invoke/VarHandle") → Cond.selects cls y y ∈ nsAt own ic cls Y names ix bytes → selectMethod e.platform s.vm P0.m.cls my = .method my := by
    intro y my hy hne hin
    obtain ⟨c2, r2, m2, q1, q2, q3, q4, -⟩ := Cond.selects_spec (q _ hin)
    cases Option.some.inj (q1.symm.trans hfound)
    cases Option.some.inj (q2.symm.trans (State.methodFound?_of_named hy hne))
    cases Option.some.inj (q3.symm.trans hy)
    rw [Launch.admits_selectMethod X.admits]; exact q4
  obtain ⟨cS0, hcS0, hiss⟩ := K.statics
  obtain ⟨u0, hu0⟩ := Cond.staticRefV K.unassigned L.unassignedStatic L.statics hcS0 hiss (q (.isRef (.static Bundle.tN "UNASSIGNED_STACK" Bundle.steD)) (by simp [nsAt]))
  obtain ⟨sen, hsen⟩ := Cond.staticRefV K.sentinel L.sentinelStatic L.statics hcS0 hiss (q (.isRef (.static Bundle.tN "SUPPRESSED_SENTINEL" Bundle.listD)) (by simp [nsAt]))
  obtain ⟨ci, i8, fB, hk8, hg8, ha8, hsB, -, hnB, htB, hfB⟩ := Cond.ownField (t := .object "java/lang/Object") K.found L.cls (by decide +kernel) (q (.fieldLink Bundle.tN 198 Bundle.tN "backtrace" "Ljava/lang/Object;") (by simp [nsAt])) (q (.lays Bundle.tN Bundle.tN "backtrace" "Ljava/lang/Object;") (by simp [nsAt])) e.platform hpl
  obtain ⟨cS, hcS, heS, -, hkeep⟩ := X.same.2.2.2.2.2 T.aS cS0 hcS0
  have hkS : cS.vm ≠ .unknown := by
    rw [heS]; intro hu
    rw [show cS0.vm = .unknown from hu] at hiss
    cases hiss
  have hneS : T.aS ≠ a := Nat.ne_of_lt (Nat.lt_of_lt_of_le (Array.getElem?_eq_some_iff.mp hcS0).1 hnew)
  obtain ⟨iM, hfM⟩ := K.msg
  obtain ⟨tyC, dC, hdC, hnC⟩ := Cond.laysAt hfound hk K.cause (q (.lays cls Bundle.tN "cause" "Ljava/lang/Throwable;") (by simp [nsAt]))
  obtain ⟨tyS, dS, hdS, hnS⟩ := Cond.laysAt hfound hk K.stack (q (.lays cls Bundle.tN "stackTrace" Bundle.steD) (by simp [nsAt]))
  obtain ⟨tyP, dP, hdP, hnP⟩ := Cond.laysAt hfound hk K.supp (q (.lays cls Bundle.tN "suppressedExceptions" Bundle.listD) (by simp [nsAt]))
  obtain ⟨tyM, dM, hdM, hnM⟩ := Cond.laysAt hfound hk hfM (q (.lays cls Bundle.tN "detailMessage" "Ljava/lang/String;") (by simp [nsAt]))
  obtain ⟨tyB, dB, hdB, hnB2⟩ := Cond.laysAt hfound hk hfB (q (.lays cls Bundle.tN "backtrace" "Ljava/lang/Object;") (by simp [nsAt]))
  have bC := Cond.laysApart hdB hdC hnB2 hnC (by rw [hnB, K.causeName]; decide)
  have bS := Cond.laysApart hdB hdS hnB2 hnS (by rw [hnB, K.stackName]; decide)
  have bP := Cond.laysApart hdB hdP hnB2 hnP (by rw [hnB, K.suppName]; decide)
  have hskip : SkipFacts T e.platform s (fun u => u) u0 ((preparedCellV T.toThrowableT (freshCell P0.m.cls kX) a u0 sen).withEntry W9.cur) :=
    ⟨{ ci198 := ci, i198 := i8, fBack := fB }, ⟨hk8, hg8, ha8, hsB⟩, by
      have := fresh_default (c := P0.m.cls) tyB
      rw [htB] at this
      simpa [preparedCellV, Cell.setSlot, Cell.withEntry, Array.getElem?_setIfInBounds, bC, bS, bP, bC.symm, bS.symm, bP.symm, defaultValue] using this, fun _ _ => rfl⟩
  obtain ⟨tm, mC, cdC, kC, vm1, hnm, -, -, -, -, -, -, -, hW1, st1⟩ := Steps.initColdS (tb := p.tables) (e := e) (below := below) (s := s) (U := W9) X.here hexec X.warmed hpl hown (t := Bundle.initS cls) rfl rfl (Bundle.fit_spec hcls).2
    (q (.methodLink own ic (Bundle.initS cls)) (by simp [nsAt])) (h (.instanceMethod (Bundle.initS cls)) (by simp [nsAt, Bundle.passSAtoms])) (bytes := bytes) (maxL := 2) (h (.code (Bundle.initS cls) bytes 2 none) (by simp [nsAt, Bundle.passSAtoms]))
    (f := g) hg (a := a) (msg := msg) (rest := .ref a :: rest) hstack hd6
  cases Option.some.inj (hnm.symm.trans hm0)
  have X1 := X.noted hW1
  obtain ⟨vm2, X2, st2⟩ := X1.ctorMessageOffV hexec (g := { g with stack := .ref a :: rest }) hg hsize T L Z LZ M LM (P0 :: P1 :: Ps)
    (fun P hP => by
      rcases List.mem_cons.mp hP with e1 | hP
      · rw [e1]; exact L0
      · rcases List.mem_cons.mp hP with e1 | hP
        · rw [e1]; exact L1
        · exact hL P hP) ⟨hsup, hk1, hk2⟩ (u0 := u0) (sen := sen) (self := a) hmsg (cell := freshCell P0.m.cls kX) (cellS := cS)
    hcell (fun _ => by simp) (by simp) rfl rfl (sel _ _ K.fill0 (by decide) (by simp [nsAt])) (sel _ _ K.fill (by decide) (by simp [nsAt])) hcS hneS hkS (by rw [hkeep _ (by simp)]; exact hu0) (by rw [hkeep _ (by simp)]; exact hsen)
    (Takes.of_laid hk hord tyC (by rw [K.causeType]; rfl)) (Takes.of_laid hk hord tyS (by rw [K.stackType]; exact fits_refV_array _ u0)) (Takes.of_laid hk hord tyP (by rw [K.suppType]; exact fits_refV_object _ sen))
    (Takes.of_laid hk hord tyM (by rw [K.msgType]; exact fits_refV_object _ ⟨msg, hmsg⟩)) K.objLocals hskip htr [] hd6
    (by simp only [List.length_cons, hlen]; omega) (by simp only [List.length_cons, hlen]; exact hRl)
  obtain ⟨hwalk, hrun, hend, hWU, hsame⟩ := X2.athrowLeaves hexec (g := { g with stack := .ref a :: rest, pc := g.pc + 3 }) hg hlocked hentered hout (a := a) (rest := rest) rfl hd9 hlocks
  have hlt : a < ((W9.setVm vm1).setVm vm2).heap.size := (Array.getElem?_eq_some_iff.mp hcell).1
  have hU := heapAt_setCell_self (s := (W9.setVm vm1).setVm vm2) (plainBareV T.toThrowableT (freshCell P0.m.cls kX) a u0 sen msg) hlt
  refine ⟨_, _, st1 _ (fun acts => ?_), hrun, hend, hWU, hsame.weaken (fun y hy hlt2 => ?_) (Nat.le_refl _) (Nat.le_refl _), hU, rfl, hfound⟩
  · rw [doInvoke_state]
    exact st2 _ hwalk
  · exfalso
    have hb : y.base = a := by
      simp only [List.nil_append, List.mem_cons, List.not_mem_nil, or_false] at hy
      rcases hy with e1 | e1 | e1 | e1 | e1 <;> rw [e1]
    rw [hb] at hlt2
    exact Nat.not_lt.mpr hnew hlt2
end NS
