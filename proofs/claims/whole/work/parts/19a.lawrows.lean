def wL (x : Ad) (S R : Mem) (o : Nat → Int64) : va_W := cT x S ++ (cM x R ++ wO x o)
section LR
variable {p : Program} {l : Launch} {e : Env} {R : Room} {s : State} {m : MethodId} {args : Array Value} {below : List Frame} {meth : Method} {c : Code} {A : Nat → Prop} {nL cells slots : Nat} {Q : State → Prop}
variable {x : Ad} {cc : ByteArray} {own : String} {c1 : Cond} {rm : Room} {w w0 w1 wa wr : va_W} {pc : Nat} {lv : List (Nat × Value)} {st : List Value}
theorem g_slen (C : Cx (p, l, e, R, s, m, args, below, meth, c, A, nL, cells, slots, Q) x cc own c1 rm nL) {b L : Nat} {xs : Nat → Int32} (hX : va_X b L xs s s.heap) (hbl : b < s.heap.size) (hbA : ¬ A b) (hd : decode cc pc = .ok (.arraylength, 1)) (k : GG (p, l, e, R, s, m, args, below, meth, c, A, nL, cells, slots, Q) x w (pc + 1) lv (.int (Int32.ofNat L) :: st)) : GG (p, l, e, R, s, m, args, below, meth, c, A, nL, cells, slots, Q) x w pc lv (.ref b :: st) := by
  obtain ⟨hx, hb, hml, hown, hts, hK, hA, rfl, hnl, -, -⟩ := C
  intro H locs ls hP hD hS hl
  exact va_slen hx hb hX hbl hbA hS hd (k H locs ls hP hD hS hl)
theorem g_sld (C : Cx (p, l, e, R, s, m, args, below, meth, c, A, nL, cells, slots, Q) x cc own c1 rm nL) {b L : Nat} {xs : Nat → Int32} (hX : va_X b L xs s s.heap) (hbl : b < s.heap.size) (hbA : ¬ A b) {i : Int32} (hin : ix_in i L) (hd : decode cc pc = .ok (.iaload, 1)) (k : GG (p, l, e, R, s, m, args, below, meth, c, A, nL, cells, slots, Q) x w (pc + 1) lv (.int (xs i.toNatClampNeg) :: st)) : GG (p, l, e, R, s, m, args, below, meth, c, A, nL, cells, slots, Q) x w pc lv (.int i :: .ref b :: st) := by
  obtain ⟨hx, hb, hml, hown, hts, hK, hA, rfl, hnl, -, -⟩ := C
  intro H locs ls hP hD hS hl
  exact va_sld hx hb hX hbl hbA hS hin hd (k H locs ls hP hD hS hl)
theorem g_wide {a b : Nat} (ha : cells ≤ a) (hb : slots ≤ b) (k : GG (p, l, e, R, s, m, args, below, meth, c, A, nL, a, b, Q) x w pc lv st) : GG (p, l, e, R, s, m, args, below, meth, c, A, nL, cells, slots, Q) x w pc lv st := fun H locs ls hP hD hS hl => W.widen ha hb (k H locs ls hP hD hS hl)
/-- a call whose world stands first, the rest behind it -/
theorem g_callPI (C : Cx (p, l, e, R, s, m, args, below, meth, c, A, nL, cells, slots, Q) x cc own c1 rm nL) {y : MethodName} {cy : ByteArray} {ny n idx a ci : Nat} {ry : Option FieldType} {rm2 : Room} {As : List Value} {r : Int32} {C2 : String} (hM : MI l x y (Cond.code y cy ny ry) rm2 (.ref a :: As) w0 r w1) (hg : GoodIn (c1 :: tb) (wsV own idx C2 y (Cond.code y cy ny ry :: tb))) (hdd : y.cls = C2 ∧ y.cls ≠ "java/lang/invoke/MethodHandle" ∧ y.cls ≠ "java/lang/invoke/VarHandle" ∧ (parseMethodDescriptor y.desc).map (fun d => d.parameters.length) = some n) (hrc : rm2.cells = 0) (hrs : rm2.slots = 0) (hR : rm2.frames + 1 ≤ rm.frames ∧ 8 + (ny + 11) + rm2.locals ≤ rm.locals) (q0 : Nat) {fs : List Value} {T2 : u_T} {N2 : Nat} (he : w0[q0]? = some (a, .inr (ci, fs))) (hc : vwCl[ci]? = some (C2, T2, N2)) (hn : As.length = n) (hst : (st.map fun v => v.category).sum ≤ 8) (hd : decode cc pc = .ok (.invokevirtual idx, 3)) {st0 : List Value} (h0 : st0 = As.reverse ++ .ref a :: st) (k : GG (p, l, e, R, s, m, args, below, meth, c, A, nL, cells, slots, Q) x (w1 ++ wr) (pc + 3) lv (.int r :: st)) : GG (p, l, e, R, s, m, args, below, meth, c, A, nL, cells, slots, Q) x (w0 ++ wr) pc lv st0 := by
  obtain ⟨hx, hb, hml, hown, hts, hK, hA, rfl, hnl, capC, capS⟩ := C
  subst h0
  intro H locs ls hP hD hS hl
  have hF : ∀ q, va_A w0 H.size q → A q := by
    intro q h
    rcases h with ⟨k1, e1, h⟩ | h
    · exact (va_D_left hD).2 k1 _ h
    · exact hA q (Nat.le_trans hS.1 h)
  have hP0 := va_P_left hP
  refine va_calli (va_runV (As := As) (rest := st) ⟨hx, hb, hml, hown, hts⟩ (hM H.size) (cwV n hts hg rfl hrc hrs hdd hR) ⟨pre_blind, va_recv hK hP0 (ci := ci) (q0 := q0) hc he, fun U hU hW => ⟨rfl, by rw [hU], by rw [hU]; exact hP0, va_K.moved hW.alike hK, (va_D_left hD).weaken (fun _ _ _ _ => trivial)⟩⟩ rfl hn (by exact hl.1) rfl (lv_room hst) hd ⟨by rw [Nat.add_zero]; exact capC, by rw [Nat.add_zero]; exact capS⟩) hS (fun q _ h => hF q h) hF (fun r2 u t H1 locs1 ht hvm hw hB hz1 hk1 hS1 => ?_)
  obtain ⟨hP1, hK1, hD1⟩ := hB
  rw [ht] at hP1
  obtain ⟨j1, j2⟩ := pj_pre hP hD hk1 hF hP1 hD1
  subst hw
  exact k H1 locs1 ls j1 j2 hS1 hl
/-- a call whose world stands first, the rest behind it -/
theorem g_callPV (C : Cx (p, l, e, R, s, m, args, below, meth, c, A, nL, cells, slots, Q) x cc own c1 rm nL) {y : MethodName} {cy : ByteArray} {ny n idx a ci : Nat} {ry : Option FieldType} {rm2 : Room} {As : List Value} {C2 : String} (hM : MV l x y (Cond.code y cy ny ry) rm2 (.ref a :: As) w0 w1) (hg : GoodIn (c1 :: tb) (wsV own idx C2 y (Cond.code y cy ny ry :: tb))) (hdd : y.cls = C2 ∧ y.cls ≠ "java/lang/invoke/MethodHandle" ∧ y.cls ≠ "java/lang/invoke/VarHandle" ∧ (parseMethodDescriptor y.desc).map (fun d => d.parameters.length) = some n) (hrc : rm2.cells = 0) (hrs : rm2.slots = 0) (hR : rm2.frames + 1 ≤ rm.frames ∧ 8 + (ny + 11) + rm2.locals ≤ rm.locals) (q0 : Nat) {fs : List Value} {T2 : u_T} {N2 : Nat} (he : w0[q0]? = some (a, .inr (ci, fs))) (hc : vwCl[ci]? = some (C2, T2, N2)) (hn : As.length = n) (hst : (st.map fun v => v.category).sum ≤ 8) (hd : decode cc pc = .ok (.invokevirtual idx, 3)) {st0 : List Value} (h0 : st0 = As.reverse ++ .ref a :: st) (k : GG (p, l, e, R, s, m, args, below, meth, c, A, nL, cells, slots, Q) x (w1 ++ wr) (pc + 3) lv (st)) : GG (p, l, e, R, s, m, args, below, meth, c, A, nL, cells, slots, Q) x (w0 ++ wr) pc lv st0 := by
  obtain ⟨hx, hb, hml, hown, hts, hK, hA, rfl, hnl, capC, capS⟩ := C
  subst h0
  intro H locs ls hP hD hS hl
  have hF : ∀ q, va_A w0 H.size q → A q := by
    intro q h
    rcases h with ⟨k1, e1, h⟩ | h
    · exact (va_D_left hD).2 k1 _ h
    · exact hA q (Nat.le_trans hS.1 h)
  have hP0 := va_P_left hP
  refine va_callv (va_runV (As := As) (rest := st) ⟨hx, hb, hml, hown, hts⟩ (hM H.size) (cwV n hts hg rfl hrc hrs hdd hR) ⟨pre_blind, va_recv hK hP0 (ci := ci) (q0 := q0) hc he, fun U hU hW => ⟨rfl, by rw [hU], by rw [hU]; exact hP0, va_K.moved hW.alike hK, (va_D_left hD).weaken (fun _ _ _ _ => trivial)⟩⟩ rfl hn (by exact hl.1) rfl (lv_room hst) hd ⟨by rw [Nat.add_zero]; exact capC, by rw [Nat.add_zero]; exact capS⟩) hS (fun q _ h => hF q h) hF (fun u t H1 locs1 ht hvm hw hB hz1 hk1 hS1 => ?_)
  obtain ⟨hP1, hK1, hD1⟩ := hB
  rw [ht] at hP1
  obtain ⟨j1, j2⟩ := pj_pre hP hD hk1 hF hP1 hD1
  exact k H1 locs1 ls j1 j2 hS1 hl
theorem g_rot (k : GG (p, l, e, R, s, m, args, below, meth, c, A, nL, cells, slots, Q) x (w0 ++ (wa ++ wr)) pc lv st) : GG (p, l, e, R, s, m, args, below, meth, c, A, nL, cells, slots, Q) x (wa ++ (w0 ++ wr)) pc lv st := fun H locs ls hP hD hS hl => k H locs ls (va_P_rot hP) (va_D_rot hD) hS hl
set_option maxHeartbeats 4000000 in
/-- a static call of a body that catches; its world stands last -/
theorem g_callH (C : Cx (p, l, e, R, s, m, args, below, meth, c, A, nL, cells, slots, Q) x cc own c1 rm nL) (hX : XS A s s.heap) {y : MethodName} {cy : ByteArray} {ny n idx : Nat} {ry : Option FieldType} {hh : List (Nat × Nat × Nat × Nat)} {rm2 : Room} {As : List Value} {r : Int32} (hM : MH l x y (Cond.codeWith y cy ny ry hh) rm2 As w0 r w1) (hg : GoodIn (c1 :: tb) (va_wsS own idx y (Cond.codeWith y cy ny ry hh :: tb))) (hdd : y.cls ≠ "java/lang/invoke/MethodHandle" ∧ y.cls ≠ "java/lang/invoke/VarHandle" ∧ (parseMethodDescriptor y.desc).map (fun d => d.parameters.length) = some n) (hrc : rm2.cells = 1) (hrs : rm2.slots = 6) (hR : rm2.frames + 1 ≤ rm.frames ∧ 8 + (ny + 11) + rm2.locals ≤ rm.locals) (hn : As.length = n) (hcc : cells + 1 ≤ rm.cells) (hss : slots + 6 ≤ rm.slots) (hst : (st.map fun v => v.category).sum ≤ 8) (hd : decode cc pc = .ok (.invokestatic idx, 3)) {st0 : List Value} (h0 : st0 = As.reverse ++ st) (k : GG (p, l, e, R, s, m, args, below, meth, c, A, nL, cells + 1, slots + 6, Q) x (wr ++ w1) (pc + 3) lv (.int r :: st)) : GG (p, l, e, R, s, m, args, below, meth, c, A, nL, cells, slots, Q) x (wr ++ w0) pc lv st0 := by
  obtain ⟨hx, hb, hml, hown, hts, hK, hA, rfl, hnl, -, -⟩ := C
  subst h0
  intro H locs ls hP hD hS hl
  have hF : ∀ q, va_A w0 H.size q → A q := by
    intro q h
    rcases h with ⟨k1, e1, h⟩ | h
    · exact (va_D_right hD).2 k1 _ h
    · exact hA q (Nat.le_trans hS.1 h)
  have hP0 := va_P_right hP
  refine va_calli (vx_runSW (As := As) (rest := st) (hh := hh) ⟨hx, hb, hml, hown, hts⟩ (hM H.size) (vx_cwSW n hts hg rfl hrc hrs hdd hR) ⟨preX_blind, fun U hU hW => ⟨rfl, by rw [hU], by rw [hU]; exact hP0, va_K.moved hW.alike hK, (va_D_right hD).weaken (fun _ _ _ _ => trivial), by rw [hU]; exact ((hX.kept (fun q h1 h2 => hS.2.1 q h1 h2)).narrow hF).warm hW⟩⟩ rfl hn (by exact hl.1) rfl (lv_room hst) hd ⟨hcc, hss⟩) hS (fun q _ h => hF q h) hF (fun r2 u t H1 locs1 ht hvm hw hB hz1 hk1 hS1 => ?_)
  obtain ⟨hP1, hK1, hD1⟩ := hB
  rw [ht] at hP1
  obtain ⟨j1, j2⟩ := pj_suf hP hD hk1 hF hP1 hD1
  subst hw
  exact k H1 locs1 ls j1 j2 hS1 hl
end LR
def R_law : String := "PagedTreeLaw"
def lw_P (b : Addr) (xs : List Int32) (args : Array Value) (s : State) : Prop := args = #[.ref b] ∧ s.IntsAt b xs ∧ xs.length ≤ 256 ∧ (Jvm.Cond.and given_1 narrow_1).before args s = true
def lw_Q (_ : Array Value) (s : State) (o : Outcome) (t : State) : Prop := o = .returned (some (.int 1)) ∧ Framed s o t [] 173 2595
def lw_Z (below : List Frame) (a : Array Value) (s : State) : State → Prop := fun t => ∃ o, t.status = .running ∧ Ended t below o ∧ lw_Q a s o t
/-- the law's own end, with 1 on the stack, nothing written that was there before, its room as the claim has it -/
theorem lw_ret {p : Program} {l : Launch} {e : Env} {s : State} {m : MethodId} {below : List Frame} {meth : Method} {c : Code} {b : Nat} (hx : p.tables.exec = Jvm.exec) (hb : c.code = code) (hr : meth.sig.returnType = ret) (hlocks : meth.locks = false) {pc : Nat} {H : Heap} {ls : Array Slot} (hdg : decode code pc = .ok (.ireturn, 1)) : W p l e room_1 s m #[Value.ref b] below meth c H [] 173 2595 (lw_Z below #[Value.ref b] s) (F0 m pc ls [.int 1]) := by
  intro T hT X
  obtain ⟨fs, hret, hrun, hended, hW, hframe⟩ := X.leave (v := some (.int 1)) (hlocks := hlocks) (fun h => by rw [hr] at h; cases h)
  have hmeth' : T.vm.method? m = some meth := X.method'
  refine ⟨T.setFrames fs, ?_, .returned (some (.int 1)), hrun, hended, rfl, ⟨_, rfl⟩, hW, hframe⟩
  jvm_step X.here [X.here.top, hx, hb, hdg, hmeth', hr, ret, narrow_b1]
  (try refine ⟨rfl, ?_⟩); (try refine ⟨rfl, ?_⟩)
  first | (intro acts; rw [hret _ acts rfl rfl rfl]) | rw [hret _ _ rfl rfl rfl]
  exact Steps.refl _
/-- what holds at the law's entry: the machine, the code, the tables' words (any of lw_tbl by 'hts w (by decide +kernel)'), the script of L ints xs at the cell b, what the Statement gives of the start (any of its parts by flat_of_before) -/
def lw_At (p : Program) (s : State) (m : MethodId) (meth : Method) (c : Code) (b L : Nat) (xs : Nat → Int32) : Prop :=
  p.tables.exec = Jvm.exec ∧ c.code = code ∧ meth.sig.returnType = ret ∧ c.maxLocals = 7 ∧ s.vm.findClass R_law = some m.cls ∧ (∀ w ∈ lw_tbl, w.before #[Value.ref b] s = true) ∧ va_X b L xs s s.heap ∧ b < s.heap.size ∧ meth.locks = false ∧ (Jvm.Cond.and given_1 narrow_1).before #[Value.ref b] s = true

