
def nsX (own : String) (ic : Nat) (X Y : String) (names : List String) (ix : Nat) (bytes : ByteArray) : List Cond := (nsAt own ic X Y names ix bytes).filter vx_no
section NT
variable {p : Program} {l : Launch} {e : Env} {R : Room} {s : State} {m : MethodId} {args : Array Value} {below : List Frame} {meth : Method} {c : Code} {H : Heap} {locs : List Loc} {cells slots : Nat}
variable {free : Addr → Prop} {ls : Array Slot} {rest : List Value} {Qc : Array Value → State → Outcome → State → Prop} {XC : String → State → State → Prop}
set_option maxHeartbeats 4000000 in
theorem ns_throw {cc : ByteArray} {pc : Nat} (hexec : p.tables.exec = Jvm.exec) (hb : c.code = cc) (hl : l.stackTraces = false) {own cls text Y : String} {names : List String} {ik is ic ix mc ms sa : Nat} {bytes : ByteArray} {A : Nat → Prop}
    (b0 : decode bytes 0 = .ok (.aload_n 0, 1)) (b1 : decode bytes 1 = .ok (.aload_n 1, 1)) (b2 : decode bytes 2 = .ok (.invokespecial ix, 3)) (b5 : decode bytes 5 = .ok (.return_, 1))
    (hown : s.vm.findClass own = some m.cls) (hcls : Bundle.fit cls = true) (hY : Bundle.fit Y = true) (hnames : ∀ n ∈ names, Bundle.fit n = true)
    (hk : (Cond.classLink own ik cls).before args s = true) (hini : (Cond.initialized cls).before args s = true) (hstr : vk_R own is text sa s) (hat : ∀ w ∈ nsX own ic cls Y names ix bytes, w.before args s = true)
    (hgood : ∀ w ∈ Cond.classLink own ik cls :: Cond.initialized cls :: nsX own ic cls Y names ix bytes, vx_ot w = true)
    (hU : vx_Zq Bundle.tN "UNASSIGNED_STACK" Bundle.steD A s s.heap) (hN : vx_Zq Bundle.tN "SUPPRESSED_SENTINEL" Bundle.listD A s s.heap) (hS : va_S A s.heap H locs) (hsize : ls.size = c.maxLocals)
    (d0 : decode cc pc = .ok (.new ik, 3)) (d3 : decode cc (pc + 3) = .ok (.dup, 1)) (d4 : decode cc (pc + 4) = .ok (.ldc is, 2)) (d6 : decode cc (pc + 6) = .ok (.invokespecial ic, 3)) (d9 : decode cc (pc + 9) = .ok (.athrow, 1))
    (hout : ∀ x ∈ c.exceptionTable.toList, covers x (pc + 9) = false)
    (hRf : names.length + 4 < R.frames) (hRl : (rest.map fun v => v.category).sum + (13 * (names.length + 2) + 43) ≤ R.locals) (hRc : cells + 1 ≤ R.cells) (hRs : slots + 6 ≤ R.slots) (hlocks : meth.locks = false)
    (hx : ∀ t : State, s.vm.Alike t.vm → H.size ≤ t.heap.size → (∀ q : Nat, q < H.size → t.heap[q]? = H[q]?) → XC cls s t)
    (hf : ∀ z ∈ locs, free z.base) (hc : cells + 1 ≤ mc) (hs : slots + 6 ≤ ms) :
    W p l e R s m args below meth c H locs cells slots (vx_MQ below Qc XC args s mc ms free) (F0 m pc ls rest) := by
  intro T hT X
  have htr : e.platform.stackTraces = false := (show e.platform.stackTraces = l.stackTraces by rw [X.admits.platform]).trans hl
  have Y0 := vx_rebase X (R' := { frames := R.frames, locals := R.locals, cells := 1, slots := 6 }) (Nat.le_refl _) (Nat.le_refl _) hRc hRs
  obtain ⟨s', hA⟩ : ∃ z, z = (T.setVm s.vm).setFrames (.invoking m args :: below) := ⟨_, rfl⟩
  rw [← hA] at Y0
  have hvm : s'.vm = s.vm := by rw [hA]; rfl
  have hhp : s'.heap = H := by rw [hA]; exact hT
  have hW0 : s.WarmedH s'.vm := by rw [hvm]; exact State.WarmedH.refl s
  have hat' : ∀ w ∈ nsX own ic cls Y names ix bytes, w.before args s' = true := fun w hw => vx_ot_at hW0 hvm.symm (hgood w (List.mem_cons_of_mem _ (List.mem_cons_of_mem _ hw))) (hat w hw)
  have hk' : (Cond.classLink own ik cls).before args s' = true := vx_ot_at hW0 hvm.symm (hgood _ List.mem_cons_self) hk
  have hini' : (Cond.initialized cls).before args s' = true := vx_ot_at hW0 hvm.symm (hgood _ (List.mem_cons_of_mem _ List.mem_cons_self)) hini
  have hU' : vx_Zq Bundle.tN "UNASSIGNED_STACK" Bundle.steD A s' s'.heap := by rw [hhp]; exact vx_Zq.moved hW0.alike (hU.kept hS.2.1)
  have hN' : vx_Zq Bundle.tN "SUPPRESSED_SENTINEL" Bundle.listD A s' s'.heap := by rw [hhp]; exact vx_Zq.moved hW0.alike (hN.kept hS.2.1)
  have h : ∀ w ∈ nsAt own ic cls Y names ix bytes, w.before args s' = true := vx_own hat' (vx_isRefq hU'.1) (vx_isRefq hN'.1) hU'.2.word hN'.2.word
  have hown' : s'.vm.findClass own = some m.cls := by rw [hvm]; exact hown
  have hins : (Cond.instantiable cls 6).before args s' = true := h _ (by simp [nsAt])
  obtain ⟨vm₁, cX, kX, hfX, hkX, -, -, X₁, st1⟩ := Y0.newCold hexec (own := own) (C := cls) (index := ik) (n := 6) hown' hk' hins hini'
    (g := F0 m pc ls rest) rfl (by rw [hb]; exact d0) (Nat.le_refl _) (Nat.le_refl _)
  generalize hT1 : (T.setVm vm₁).pushCell { cls := cX, slots := kX.instanceTypes.map defaultValue, vm := .none } = T1 at X₁ st1
  have hcat : (Value.ref T.heap.size).category = 1 := rfl
  have hcellA : T1.heap[T.heap.size]? = some (freshCell cX kX) := by rw [← hT1]; exact State.heap_pushCell_size _ _
  have d3' : decode c.code (pc + 3) = .ok (.dup, 1) := by rw [hb]; exact d3
  have d4' : decode c.code (pc + 4) = .ok (.ldc is, 2) := by rw [hb]; exact d4
  have hstr' : vk_R own is text sa s' := vk_R.warm hW0 hstr
  obtain ⟨U, ce, hsteps, hrun, hend, hW, hsame, hce, hcv, hcc⟩ := ns_ctor X₁ hexec htr (own := own) (cls := cls) (Y := Y) (names := names) (ic := ic) (ix := ix) (bytes := bytes) b0 b1 b2 b5 hown' hcls hY hnames h rfl hfX hkX hcellA (by rw [hhp, hT]; exact Nat.le_refl _) (msg := .ref sa) rfl
    (g := { method := m, pc := pc + 6, locals := ls, stack := .ref sa :: .ref T.heap.size :: .ref T.heap.size :: rest, locked := none }) rfl hsize rfl rfl (rest := rest) rfl
    (by rw [hb]; exact d6) (by rw [hb]; exact d9) hout hRf (by simp only [List.map_cons, List.sum_cons, hcat]; omega) hlocks
  obtain ⟨f1, f2⟩ := vx_frame hsame
  rw [hhp] at f1 f2
  have hWs : s.WarmedH U.vm := State.WarmedH.trans hW0 hW
  have hcl : s.vm.findClass cls = some ce.cls := by
    rw [hvm] at hcc
    exact hcc
  have hall : s.sameButNew ({ U with vm := s.vm } : State) locs mc ms := by
    subst hA
    obtain ⟨e1, e2⟩ := hsame
    rw [State.setFrames_setFrames] at e1
    have h2 : (T.setVm s.vm).sameButNew ({ U with vm := s.vm } : State) [] (0 + 1) (0 + 6) := ⟨e1, e2⟩
    have h3 := X.same.trans h2
    rw [List.append_nil] at h3
    exact h3.mono hc hs
  refine ⟨U, ?_, .threw T.heap.size, hrun, hend, Or.inr ⟨T.heap.size, rfl, cls, ce, locs, hx U hWs.alike f1 (fun q hq => f2 q hq (fun z hz => nomatch hz)), hce, hcv, hcl, hWs, hall, hf⟩⟩
  refine st1 _ ?_
  show Steps p.tables e below (T1.setTop { method := m, pc := pc + 3, locals := ls, stack := .ref T.heap.size :: rest, locked := none }) _
  jvm_step X₁.here [X₁.here.top, hexec, d3', Value.category]
  exact X₁.ldcString hexec (own := own) (text := text) (index := is) (a := sa) hown' hstr'.1 hstr'.2
    (g := { method := m, pc := pc + 4, locals := ls, stack := .ref T.heap.size :: .ref T.heap.size :: rest, locked := none }) rfl d4' _ hsteps
end NT

def exn (e : Nat) : String := if e = 1 then "java/lang/UnsupportedOperationException" else if e = 2 then "java/util/NoSuchElementException" else if e = 3 then "java/lang/IllegalStateException" else if e = 4 then "java/lang/IndexOutOfBoundsException" else if e = 5 then "java/lang/IllegalArgumentException" else ""
def exs : List String := ["java/lang/UnsupportedOperationException", "java/util/NoSuchElementException", "java/lang/IllegalStateException", "java/lang/IndexOutOfBoundsException", "java/lang/IllegalArgumentException"]
def strl : List (Nat × String) := [(75, "more pages than there are"), (105, "no such key"), (121, "the cursor has ended"), (144, "a frame is dirty"), (156, "no such page"), (171, "nothing that is told of a page"), (174, "no such item"), (182, "no such frame"), (193, "nothing that is told of a frame")]
def dcs : List MethodName := [⟨"java/lang/RuntimeException", "<init>", "(Ljava/lang/String;)V"⟩, ⟨"java/lang/Exception", "<init>", "(Ljava/lang/String;)V"⟩, ⟨"java/lang/Throwable", "<init>", "(Ljava/lang/String;)V"⟩]
abbrev exN : List String := ["java/lang/RuntimeException", "java/lang/Exception"]
/-- what a throw needs of the heap and the tables beside the good words -/
def XS (A : Nat → Prop) (U : State) (H : Heap) : Prop := vx_Zq Bundle.tN "UNASSIGNED_STACK" Bundle.steD A U H ∧ vx_Zq Bundle.tN "SUPPRESSED_SENTINEL" Bundle.listD A U H ∧ (∀ q ∈ strl, ∃ sa, vk_R RX4 q.1 q.2 sa U) ∧ (∀ E ∈ exs, va_Nw (.castable E E) U) ∧ (∀ y ∈ dcs, va_Nw (.declares y) U) ∧ va_Nc "java/lang/IllegalArgumentException" "java/lang/IndexOutOfBoundsException" U
theorem XS.kept {A : Nat → Prop} {U : State} {H H1 : Heap} (h : XS A U H) (hq : ∀ a : Nat, a < H.size → ¬ A a → H1[a]? = H[a]?) : XS A U H1 := ⟨h.1.kept hq, h.2.1.kept hq, h.2.2⟩
theorem XS.narrow {A B : Nat → Prop} {U : State} {H : Heap} (h : XS A U H) (hAB : ∀ q, B q → A q) : XS B U H := ⟨h.1.narrow hAB, h.2.1.narrow hAB, h.2.2⟩
theorem XS.warm {A : Nat → Prop} {s U : State} {H : Heap} (hW : s.WarmedH U.vm) (h : XS A s H) : XS A U H := ⟨h.1.moved hW.alike, h.2.1.moved hW.alike, fun q hq => by obtain ⟨sa, hsa⟩ := h.2.2.1 q hq; exact ⟨sa, hsa.warm hW⟩, fun E hE => (h.2.2.2.1 E hE).warmC hW, fun y hy => (h.2.2.2.2.1 y hy).warmD hW, h.2.2.2.2.2.moved hW.alike⟩
theorem XS.same {A : Nat → Prop} {u U : State} {H : Heap} (hv : u.vm = U.vm) (h : XS A u H) : XS A U H := ⟨h.1.moved (hv ▸ Vm.Alike.refl u.vm), h.2.1.moved (hv ▸ Vm.Alike.refl u.vm), fun q hq => by obtain ⟨sa, hsa⟩ := h.2.2.1 q hq; exact ⟨sa, hsa.same hv.symm⟩, fun E hE => va_Nw.same rfl hv (h.2.2.2.1 E hE), fun y hy => va_Nw.same rfl hv (h.2.2.2.2.1 y hy), h.2.2.2.2.2.moved (hv ▸ Vm.Alike.refl u.vm)⟩
abbrev preX (x : Ad) (w : va_W) (sz : Nat) : State → Prop := fun U => U.heap.size = sz ∧ va_P x.1 vwCl w U.heap ∧ va_K x.1 vwCl (tyx x) U ∧ va_D (fun _ => True) w ∧ XS (va_A w sz) U U.heap
theorem preX_blind {x : Ad} {w : va_W} {sz : Nat} {As : List Value} : FrameBlind (va_Pc As (preX x w sz)) := fun a U g mk q => by
  obtain ⟨q0, q1, qP, qK, qD, qX⟩ := q
  exact ⟨q0, q1, qP, va_K.moved (u := U) (U := U.calling g mk a) (Vm.Alike.refl U.vm) qK, qD, XS.same (u := U) (U := U.calling g mk a) rfl qX⟩
def MX (l : Launch) (x : Ad) (y : MethodName) (c1 : Cond) (rm : Room) (As : List Value) (w : va_W) (e : Nat) (r : Int32) (w2 : va_W) : Prop :=
  ∀ sz : Nat, vx_Met l y (c1 :: tb) rm (va_Pc As (preX x w sz)) (va_Qi (fun (r2 : Int32) (_ : Unit) => e = 0 ∧ r2 = r) (postW x w w2 sz) (va_A w sz)) (vx_X (fun (_ : Unit) => e ≠ 0) (fun E _ t => E = exn e ∧ postW x w w2 sz () t) (va_A w sz)) 1 6 (va_A w sz)
def RT (κ : Kx) (x : Ad) (cc : ByteArray) (w : va_W) (ik is ic : Nat) : Prop := match κ with
  | (p, l, e, R, s, m, args, below, meth, c, A, nL, cells, slots, Q) => ∀ (H : Heap) (locs : List Loc) (ls : Array Slot) (pc : Nat), va_P x.1 vwCl w H → va_D A w → va_S A s.heap H locs → ls.size = nL → decode cc pc = .ok (.new ik, 3) → decode cc (pc + 3) = .ok (.dup, 1) → decode cc (pc + 4) = .ok (.ldc is, 2) → decode cc (pc + 6) = .ok (.invokespecial ic, 3) → decode cc (pc + 9) = .ok (.athrow, 1) → W p l e R s m args below meth c H locs cells slots Q (F0 m pc ls [])
theorem g_throw {κ : Kx} {x : Ad} {cc : ByteArray} {w : va_W} {pc ik is ic : Nat} {lv : List (Nat × Value)} {own : String} {c1 : Cond} {rm : Room} {nL : Nat} (C : Cx κ x cc own c1 rm nL) (ht : RT κ x cc w ik is ic) (d0 : decode cc pc = .ok (.new ik, 3)) (d3 : decode cc (pc + 3) = .ok (.dup, 1)) (d4 : decode cc (pc + 4) = .ok (.ldc is, 2)) (d6 : decode cc (pc + 6) = .ok (.invokespecial ic, 3)) (d9 : decode cc (pc + 9) = .ok (.athrow, 1)) : GG κ x w pc lv [] := by
  obtain ⟨p, l, e, R, s, m, args, below, meth, c, A, nL2, cells, slots, Q⟩ := κ
  intro H locs ls hP hD hS hl
  exact ht H locs ls pc hP hD hS hl.1 d0 d3 d4 d6 d9
/-- the words of one throw -/
def TW (E text : String) (ik is ic : Nat) : Prop := Bundle.fit E = true ∧ Cond.classLink RX4 ik E ∈ tb ∧ Cond.initialized E ∈ tb ∧ (∀ w ∈ (vx_atS RX4 ic E exN).filter goodWord, w ∈ tb) ∧ (∀ w ∈ (vx_atS RX4 ic E exN).filter (fun w => !goodWord w), w ∈ Cond.castable E E :: dcs.map Cond.declares) ∧ (∀ w ∈ Cond.classLink RX4 ik E :: Cond.initialized E :: vx_atS RX4 ic E exN, vx_ot w = true) ∧ (is, text) ∈ strl ∧ E ∈ exs
abbrev nsb : ByteArray := prog_19_method_4_code
theorem nsb_0 : decode nsb 0 = .ok (.aload_n 0, 1) := by decide +kernel
theorem nsb_1 : decode nsb 1 = .ok (.aload_n 1, 1) := by decide +kernel
theorem nsb_2 : decode nsb 2 = .ok (.invokespecial 13, 3) := by decide +kernel
theorem nsb_5 : decode nsb 5 = .ok (.return_, 1) := by decide +kernel
abbrev nsE : String := "java/util/NoSuchElementException"
abbrev nsW (ic : Nat) : List Cond := nsX RX4 ic nsE "java/lang/RuntimeException" ["java/lang/Exception"] 13 nsb
def TN (text : String) (ik is ic : Nat) : Prop := Cond.classLink RX4 ik nsE ∈ tb ∧ Cond.initialized nsE ∈ tb ∧ (∀ w ∈ (nsW ic).filter goodWord, w ∈ tb) ∧ (∀ w ∈ (nsW ic).filter (fun w => !goodWord w), w ∈ Cond.castable nsE nsE :: dcs.map Cond.declares) ∧ (∀ w ∈ Cond.classLink RX4 ik nsE :: Cond.initialized nsE :: nsW ic, vx_ot w = true) ∧ (is, text) ∈ strl
set_option maxHeartbeats 4000000 in
theorem met_XI {l : Launch} {x : Ad} {y : MethodName} {cc : ByteArray} {nL : Nat} {rm : Room} {As : List Value} {w w2 : va_W} {e : Nat} {r : Int32} (hl : l.stackTraces = false) (hy : plainName y.cls = true) (ho : y.cls = RX4) (hlen : (lg_sl As).length ≤ nL) (lv : List (Nat × Value)) (hlv : lv_args 0 As = lv) (hR : rm.cells = 1 ∧ rm.slots = 6 ∧ 5 < rm.frames ∧ 82 ≤ rm.locals)
    (body : ∀ κ : Kx, κ.2.1 = l → Cx κ x cc RX4 (Cond.code y cc nL (some .int)) rm nL → (e = 0 → RI κ x cc w2 r) → (∀ (E text : String) (ik is ic : Nat), TW E text ik is ic → e ≠ 0 → E = exn e → RT κ x cc w2 ik is ic) → (∀ (text : String) (ik is ic : Nat), TN text ik is ic → e = 2 → RT κ x cc w2 ik is ic) → GG κ x w 0 lv []) : MX l x y (Cond.code y cc nL (some .int)) rm As w e r w2 := by
  intro sz
  refine vx_ofW (cc := cc) (maxL := nL) (ret := some .int) hy rfl ?_
  intro p e9 s m args below meth c s₁ B hml htab hv
  obtain ⟨rfl, hsz, hP, hK, hD0, hX⟩ := hv
  have hts := atoms_spec (ws := Cond.code y cc nL (some .int) :: tb) B.pre
  have hown : s.vm.findClass RX4 = some m.cls := by rw [← ho]; exact findClass_of_methodNamed B.named
  have hlocks := B.notSynchronized
  subst hsz
  have hD := hD0.self (sz := s.heap.size)
  have hA : ∀ q : Nat, s.heap.size ≤ q → va_A w s.heap.size q := fun q h => Or.inr h
  have hl1 := lv_entry As (n := nL) hlen
  rw [lg_entry_eq]
  have hl2 : lv_has _ nL lv := hlv ▸ hl1
  refine body (p, l, e9, rm, s, m, As.toArray, below, meth, c, va_A w s.heap.size, nL, 0, 0, vx_MQ below _ _ As.toArray s 1 6 (va_A w s.heap.size)) rfl ⟨B.exec, B.bytes, hml, hown, hts, hK, hA, rfl, rfl, Nat.zero_le _, Nat.zero_le _⟩ ?_ ?_ ?_ s.heap [] _ hP hD va_S.rf hl2
  · intro he0
    intro H locs ls pc hP2 hD2 hS2 hd
    refine vx_ret (W.widen (k := 1) (n := 6) (Nat.zero_le _) (Nat.zero_le _) ?_)
    exact W.iret (v := r) B.exec B.bytes B.returns (fun t ht hW => ⟨⟨r, (), rfl, ⟨he0, rfl⟩, by rw [ht]; exact hP2, va_K.moved hW.alike hK, hD2⟩, hS2.F ht⟩) hS2.2.2 hd hlocks
  · intro E text ik is ic hT he0 hE
    obtain ⟨t1, t2, t3, t4, t5, t6, t7, t8⟩ := hT
    intro H locs ls pc hP2 hD2 hS2 hsz2 d0 d3 d4 d6 d9
    obtain ⟨sa, hsa⟩ := hX.2.2.1 _ t7
    refine vx_throwS (own := RX4) (cls := E) (text := text) (names := exN) (sa := sa) (A := va_A w s.heap.size) B.exec B.bytes hl hown t1 (by decide +kernel) (hts _ (List.mem_cons_of_mem _ t2)) (hts _ (List.mem_cons_of_mem _ t3)) hsa (vx_hat (fun w hw => hts w (List.mem_cons_of_mem _ (t4 w hw))) t5 (fun w hw => by
      rcases List.mem_cons.mp hw with h | h
      · rw [h]; exact va_Nw.use rfl (hX.2.2.2.1 E t8)
      · obtain ⟨y9, h1, h2⟩ := List.mem_map.mp h
        rw [← h2]; exact va_Nw.use rfl (hX.2.2.2.2.1 y9 h1))) t6 hX.1 hX.2.1 hS2 (hsz2.trans hml.symm) d0 d3 d4 d6 d9 (fun z hz => absurd hz (fun h => htab z h)) ?_ ?_ ?_ ?_ hlocks ?_ hS2.2.2 (Nat.le_refl 1) (Nat.le_refl 6)
    · exact hR.2.2.1
    · exact hR.2.2.2
    · rw [hR.1]; exact Nat.le_refl 1
    · rw [hR.2.1]; exact Nat.le_refl 6
    · intro t ht hsz3 hold
      refine ⟨(), he0, ⟨hE, hP2.kept (fun k q hk => hold q.1 ((hP2 k q hk).lt)), va_K.moved ht hK, hD2⟩, Nat.le_trans hS2.1 hsz3, fun q hq hn => ?_⟩
      rw [hold q (Nat.lt_of_lt_of_le hq hS2.1)]
      exact hS2.2.1 q hq hn
  · intro text ik is ic hT he2
    obtain ⟨t2, t3, t4, t5, t6, t7⟩ := hT
    intro H locs ls pc hP2 hD2 hS2 hsz2 d0 d3 d4 d6 d9
    obtain ⟨sa, hsa⟩ := hX.2.2.1 _ t7
    refine ns_throw (own := RX4) (cls := nsE) (text := text) (Y := "java/lang/RuntimeException") (names := ["java/lang/Exception"]) (ix := 13) (bytes := nsb) (sa := sa) (A := va_A w s.heap.size) B.exec B.bytes hl nsb_0 nsb_1 nsb_2 nsb_5 hown (by decide +kernel) (by decide +kernel) (by decide +kernel) (hts _ (List.mem_cons_of_mem _ t2)) (hts _ (List.mem_cons_of_mem _ t3)) hsa (vx_hat (fun w hw => hts w (List.mem_cons_of_mem _ (t4 w hw))) t5 (fun w hw => by
      rcases List.mem_cons.mp hw with h | h
      · rw [h]; exact va_Nw.use rfl (hX.2.2.2.1 nsE (by decide +kernel))
      · obtain ⟨y9, h1, h2⟩ := List.mem_map.mp h
        rw [← h2]; exact va_Nw.use rfl (hX.2.2.2.2.1 y9 h1))) t6 hX.1 hX.2.1 hS2 (hsz2.trans hml.symm) d0 d3 d4 d6 d9 (fun z hz => absurd hz (fun h => htab z h)) ?_ ?_ ?_ ?_ hlocks ?_ hS2.2.2 (Nat.le_refl 1) (Nat.le_refl 6)
    · exact hR.2.2.1
    · exact hR.2.2.2
    · rw [hR.1]; exact Nat.le_refl 1
    · rw [hR.2.1]; exact Nat.le_refl 6
    · intro t ht hsz3 hold
      refine ⟨(), by rw [he2]; decide, ⟨by rw [he2]; rfl, hP2.kept (fun k q hk => hold q.1 ((hP2 k q hk).lt)), va_K.moved ht hK, hD2⟩, Nat.le_trans hS2.1 hsz3, fun q hq hn => ?_⟩
      rw [hold q (Nat.lt_of_lt_of_le hq hS2.1)]
      exact hS2.2.1 q hq hn
set_option maxHeartbeats 4000000 in
theorem met_XZ {l : Launch} {x : Ad} {y : MethodName} {cc : ByteArray} {nL : Nat} {rm : Room} {As : List Value} {w w2 : va_W} {e : Nat} {r : Int32} (hl : l.stackTraces = false) (hy : plainName y.cls = true) (ho : y.cls = RX4) (hlen : (lg_sl As).length ≤ nL) (lv : List (Nat × Value)) (hlv : lv_args 0 As = lv) (hR : rm.cells = 1 ∧ rm.slots = 6 ∧ 5 < rm.frames ∧ 82 ≤ rm.locals)
    (body : ∀ κ : Kx, κ.2.1 = l → Cx κ x cc RX4 (Cond.code y cc nL (some .boolean)) rm nL → (e = 0 → iz r → RI κ x cc w2 r) → (∀ (E text : String) (ik is ic : Nat), TW E text ik is ic → e ≠ 0 → E = exn e → RT κ x cc w2 ik is ic) → (∀ (text : String) (ik is ic : Nat), TN text ik is ic → e = 2 → RT κ x cc w2 ik is ic) → GG κ x w 0 lv []) : MX l x y (Cond.code y cc nL (some .boolean)) rm As w e r w2 := by
  intro sz
  refine vx_ofW (cc := cc) (maxL := nL) (ret := some .boolean) hy rfl ?_
  intro p e9 s m args below meth c s₁ B hml htab hv
  obtain ⟨rfl, hsz, hP, hK, hD0, hX⟩ := hv
  have hts := atoms_spec (ws := Cond.code y cc nL (some .boolean) :: tb) B.pre
  have hown : s.vm.findClass RX4 = some m.cls := by rw [← ho]; exact findClass_of_methodNamed B.named
  have hlocks := B.notSynchronized
  subst hsz
  have hD := hD0.self (sz := s.heap.size)
  have hA : ∀ q : Nat, s.heap.size ≤ q → va_A w s.heap.size q := fun q h => Or.inr h
  have hl1 := lv_entry As (n := nL) hlen
  rw [lg_entry_eq]
  have hl2 : lv_has _ nL lv := hlv ▸ hl1
  refine body (p, l, e9, rm, s, m, As.toArray, below, meth, c, va_A w s.heap.size, nL, 0, 0, vx_MQ below _ _ As.toArray s 1 6 (va_A w s.heap.size)) rfl ⟨B.exec, B.bytes, hml, hown, hts, hK, hA, rfl, rfl, Nat.zero_le _, Nat.zero_le _⟩ ?_ ?_ ?_ s.heap [] _ hP hD va_S.rf hl2
  · intro he0 hz
    intro H locs ls pc hP2 hD2 hS2 hd
    refine vx_ret (W.widen (k := 1) (n := 6) (Nat.zero_le _) (Nat.zero_le _) ?_)
    exact W.zret (v := r) B.exec B.bytes B.returns (iz_narrow hz) (fun t ht hW => ⟨⟨r, (), rfl, ⟨he0, rfl⟩, by rw [ht]; exact hP2, va_K.moved hW.alike hK, hD2⟩, hS2.F ht⟩) hS2.2.2 hd hlocks
  · intro E text ik is ic hT he0 hE
    obtain ⟨t1, t2, t3, t4, t5, t6, t7, t8⟩ := hT
    intro H locs ls pc hP2 hD2 hS2 hsz2 d0 d3 d4 d6 d9
    obtain ⟨sa, hsa⟩ := hX.2.2.1 _ t7
    refine vx_throwS (own := RX4) (cls := E) (text := text) (names := exN) (sa := sa) (A := va_A w s.heap.size) B.exec B.bytes hl hown t1 (by decide +kernel) (hts _ (List.mem_cons_of_mem _ t2)) (hts _ (List.mem_cons_of_mem _ t3)) hsa (vx_hat (fun w hw => hts w (List.mem_cons_of_mem _ (t4 w hw))) t5 (fun w hw => by
      rcases List.mem_cons.mp hw with h | h
      · rw [h]; exact va_Nw.use rfl (hX.2.2.2.1 E t8)
      · obtain ⟨y9, h1, h2⟩ := List.mem_map.mp h
        rw [← h2]; exact va_Nw.use rfl (hX.2.2.2.2.1 y9 h1))) t6 hX.1 hX.2.1 hS2 (hsz2.trans hml.symm) d0 d3 d4 d6 d9 (fun z hz => absurd hz (fun h => htab z h)) ?_ ?_ ?_ ?_ hlocks ?_ hS2.2.2 (Nat.le_refl 1) (Nat.le_refl 6)
    · exact hR.2.2.1
    · exact hR.2.2.2
    · rw [hR.1]; exact Nat.le_refl 1
    · rw [hR.2.1]; exact Nat.le_refl 6
    · intro t ht hsz3 hold
      refine ⟨(), he0, ⟨hE, hP2.kept (fun k q hk => hold q.1 ((hP2 k q hk).lt)), va_K.moved ht hK, hD2⟩, Nat.le_trans hS2.1 hsz3, fun q hq hn => ?_⟩
      rw [hold q (Nat.lt_of_lt_of_le hq hS2.1)]
      exact hS2.2.1 q hq hn
  · intro text ik is ic hT he2
    obtain ⟨t2, t3, t4, t5, t6, t7⟩ := hT
    intro H locs ls pc hP2 hD2 hS2 hsz2 d0 d3 d4 d6 d9
    obtain ⟨sa, hsa⟩ := hX.2.2.1 _ t7
    refine ns_throw (own := RX4) (cls := nsE) (text := text) (Y := "java/lang/RuntimeException") (names := ["java/lang/Exception"]) (ix := 13) (bytes := nsb) (sa := sa) (A := va_A w s.heap.size) B.exec B.bytes hl nsb_0 nsb_1 nsb_2 nsb_5 hown (by decide +kernel) (by decide +kernel) (by decide +kernel) (hts _ (List.mem_cons_of_mem _ t2)) (hts _ (List.mem_cons_of_mem _ t3)) hsa (vx_hat (fun w hw => hts w (List.mem_cons_of_mem _ (t4 w hw))) t5 (fun w hw => by
      rcases List.mem_cons.mp hw with h | h
      · rw [h]; exact va_Nw.use rfl (hX.2.2.2.1 nsE (by decide +kernel))
      · obtain ⟨y9, h1, h2⟩ := List.mem_map.mp h
        rw [← h2]; exact va_Nw.use rfl (hX.2.2.2.2.1 y9 h1))) t6 hX.1 hX.2.1 hS2 (hsz2.trans hml.symm) d0 d3 d4 d6 d9 (fun z hz => absurd hz (fun h => htab z h)) ?_ ?_ ?_ ?_ hlocks ?_ hS2.2.2 (Nat.le_refl 1) (Nat.le_refl 6)
    · exact hR.2.2.1
    · exact hR.2.2.2
    · rw [hR.1]; exact Nat.le_refl 1
    · rw [hR.2.1]; exact Nat.le_refl 6
    · intro t ht hsz3 hold
      refine ⟨(), by rw [he2]; decide, ⟨by rw [he2]; rfl, hP2.kept (fun k q hk => hold q.1 ((hP2 k q hk).lt)), va_K.moved ht hK, hD2⟩, Nat.le_trans hS2.1 hsz3, fun q hq hn => ?_⟩
      rw [hold q (Nat.lt_of_lt_of_le hq hS2.1)]
      exact hS2.2.1 q hq hn
set_option maxRecDepth 100000 in
theorem twa_173 : ∀ w ∈ (vx_atS RX4 173 "java/lang/IllegalArgumentException" exN).filter goodWord, w ∈ tb := fun w hw => tb_of ((by decide +kernel : ∀ w ∈ (vx_atS RX4 173 "java/lang/IllegalArgumentException" exN).filter goodWord, w ∈ lw_tbl) w hw) (List.mem_filter.mp hw).2
set_option maxRecDepth 100000 in
theorem tw_173_171 : TW "java/lang/IllegalArgumentException" "nothing that is told of a page" 169 171 173 := ⟨by decide +kernel, tb_t 634 (by decide +kernel) rfl, tb_t 16 (by decide +kernel) rfl, twa_173, by decide +kernel, by decide +kernel, by decide +kernel, by decide +kernel⟩
set_option maxRecDepth 100000 in
theorem tw_173_193 : TW "java/lang/IllegalArgumentException" "nothing that is told of a frame" 169 193 173 := ⟨by decide +kernel, tb_t 634 (by decide +kernel) rfl, tb_t 16 (by decide +kernel) rfl, twa_173, by decide +kernel, by decide +kernel, by decide +kernel, by decide +kernel⟩
set_option maxRecDepth 100000 in
theorem twa_146 : ∀ w ∈ (vx_atS RX4 146 "java/lang/IllegalStateException" exN).filter goodWord, w ∈ tb := fun w hw => tb_of ((by decide +kernel : ∀ w ∈ (vx_atS RX4 146 "java/lang/IllegalStateException" exN).filter goodWord, w ∈ lw_tbl) w hw) (List.mem_filter.mp hw).2
set_option maxRecDepth 100000 in
theorem tw_146_144 : TW "java/lang/IllegalStateException" "a frame is dirty" 142 144 146 := ⟨by decide +kernel, tb_t 588 (by decide +kernel) rfl, tb_t 14 (by decide +kernel) rfl, twa_146, by decide +kernel, by decide +kernel, by decide +kernel, by decide +kernel⟩
set_option maxRecDepth 100000 in
theorem twa_158 : ∀ w ∈ (vx_atS RX4 158 "java/lang/IndexOutOfBoundsException" exN).filter goodWord, w ∈ tb := fun w hw => tb_of ((by decide +kernel : ∀ w ∈ (vx_atS RX4 158 "java/lang/IndexOutOfBoundsException" exN).filter goodWord, w ∈ lw_tbl) w hw) (List.mem_filter.mp hw).2
set_option maxRecDepth 100000 in
theorem tw_158_156 : TW "java/lang/IndexOutOfBoundsException" "no such page" 154 156 158 := ⟨by decide +kernel, tb_t 618 (by decide +kernel) rfl, tb_t 15 (by decide +kernel) rfl, twa_158, by decide +kernel, by decide +kernel, by decide +kernel, by decide +kernel⟩
set_option maxRecDepth 100000 in
theorem tw_158_174 : TW "java/lang/IndexOutOfBoundsException" "no such item" 154 174 158 := ⟨by decide +kernel, tb_t 618 (by decide +kernel) rfl, tb_t 15 (by decide +kernel) rfl, twa_158, by decide +kernel, by decide +kernel, by decide +kernel, by decide +kernel⟩
set_option maxRecDepth 100000 in
theorem tw_158_182 : TW "java/lang/IndexOutOfBoundsException" "no such frame" 154 182 158 := ⟨by decide +kernel, tb_t 618 (by decide +kernel) rfl, tb_t 15 (by decide +kernel) rfl, twa_158, by decide +kernel, by decide +kernel, by decide +kernel, by decide +kernel⟩
set_option maxRecDepth 100000 in
theorem twa_77 : ∀ w ∈ (vx_atS RX4 77 "java/lang/UnsupportedOperationException" exN).filter goodWord, w ∈ tb := fun w hw => tb_of ((by decide +kernel : ∀ w ∈ (vx_atS RX4 77 "java/lang/UnsupportedOperationException" exN).filter goodWord, w ∈ lw_tbl) w hw) (List.mem_filter.mp hw).2
set_option maxRecDepth 100000 in
theorem tw_77_75 : TW "java/lang/UnsupportedOperationException" "more pages than there are" 73 75 77 := ⟨by decide +kernel, tb_t 449 (by decide +kernel) rfl, tb_t 11 (by decide +kernel) rfl, twa_77, by decide +kernel, by decide +kernel, by decide +kernel, by decide +kernel⟩
set_option maxRecDepth 100000 in
theorem twa_107 : ∀ w ∈ (nsW 107).filter goodWord, w ∈ tb := fun w hw => tb_of ((by decide +kernel : ∀ w ∈ (nsW 107).filter goodWord, w ∈ lw_tbl) w hw) (List.mem_filter.mp hw).2
set_option maxRecDepth 100000 in
theorem tw_107_105 : TN "no such key" 103 105 107 := ⟨tb_t 548 (by decide +kernel) rfl, tb_t 13 (by decide +kernel) rfl, twa_107, by decide +kernel, by decide +kernel, by decide +kernel⟩
set_option maxRecDepth 100000 in
theorem tw_107_121 : TN "the cursor has ended" 103 121 107 := ⟨tb_t 548 (by decide +kernel) rfl, tb_t 13 (by decide +kernel) rfl, twa_107, by decide +kernel, by decide +kernel, by decide +kernel⟩
