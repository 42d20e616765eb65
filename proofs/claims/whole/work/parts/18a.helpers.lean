abbrev wO (x : Ad) (f : Nat → Int64) : va_W := [(ax x 50, .inl (x.2.2.2.1, 1, .inr (.inl f)))]
def MH (l : Launch) (x : Ad) (y : MethodName) (c1 : Cond) (rm : Room) (As : List Value) (w : va_W) (r : Int32) (w2 : va_W) : Prop :=
  ∀ sz : Nat, Met l y (c1 :: tb) rm (va_Pc As (preX x w sz)) (va_Qi (fun (r2 : Int32) (_ : Unit) => r2 = r) (postW x w w2 sz) (va_A w sz)) 1 6 (va_A w sz)
set_option maxHeartbeats 4000000 in
theorem met_H {l : Launch} {x : Ad} {y : MethodName} {cc : ByteArray} {nL : Nat} {rm : Room} {As : List Value} {w w2 : va_W} {r : Int32} {hh : List (Nat × Nat × Nat × Nat)} (own : String) (hy : plainName y.cls = true) (ho : y.cls = own) (hlen : (lg_sl As).length ≤ nL) (lv : List (Nat × Value)) (hlv : lv_args 0 As = lv)
    (body : ∀ (p : Program) (e : Env) (s : State) (m : MethodId) (below : List Frame) (meth : Method) (c : Code) (A : Nat → Prop) (Q : State → Prop), Cx (p, l, e, rm, s, m, As.toArray, below, meth, c, A, nL, 0, 0, Q) x cc own (Cond.codeWith y cc nL (some .int) hh) rm nL → XS A s s.heap → c.exceptionTable.toList = tableOf hh → (∀ a b : Nat, a ≤ 1 → b ≤ 6 → RI (p, l, e, rm, s, m, As.toArray, below, meth, c, A, nL, a, b, Q) x cc w2 r) → GG (p, l, e, rm, s, m, As.toArray, below, meth, c, A, nL, 0, 0, Q) x w 0 lv []) : MH l x y (Cond.codeWith y cc nL (some .int) hh) rm As w r w2 := by
  intro sz
  refine va_MetW (cc := cc) (maxL := nL) (ret := some .int) (hh := hh) hy rfl ?_
  intro p e s m args below meth c s₁ B hml hv
  obtain ⟨rfl, hsz, hP, hK, hD0, hX⟩ := hv
  have hts := atoms_spec (ws := Cond.codeWith y cc nL (some .int) hh :: tb) B.pre
  have hown : s.vm.findClass own = some m.cls := by rw [← ho]; exact findClass_of_methodNamed B.named
  have hlocks := B.notSynchronized
  have htab := vx_table (x := y) B (hts _ List.mem_cons_self)
  subst hsz
  have hD := hD0.self (sz := s.heap.size)
  have hA : ∀ q : Nat, s.heap.size ≤ q → va_A w s.heap.size q := fun q h => Or.inr h
  have hl1 := lv_entry As (n := nL) hlen
  rw [lg_entry_eq]
  have hl2 : lv_has _ nL lv := hlv ▸ hl1
  refine body p e s m below meth c (va_A w s.heap.size) (MQ below _ As.toArray s 1 6 (va_A w s.heap.size)) ⟨B.exec, B.bytes, hml, hown, hts, hK, hA, rfl, rfl, Nat.zero_le _, Nat.zero_le _⟩ hX htab ?_ s.heap [] _ hP hD va_S.rf hl2
  intro a b ha hb H locs ls pc hP2 hD2 hS2 hd
  refine W.widen (k := 1) (n := 6) ha hb ?_
  exact W.iret (v := r) B.exec B.bytes B.returns (fun t ht hW => ⟨⟨r, (), rfl, rfl, by rw [ht]; exact hP2, va_K.moved hW.alike hK, hD2⟩, hS2.F ht⟩) hS2.2.2 hd hlocks
section HC
variable {p : Program} {l : Launch} {e : Env} {R : Room} {s : State} {m : MethodId} {args : Array Value} {below : List Frame} {meth : Method} {c : Code} {A : Nat → Prop} {nL cells slots : Nat} {Q : State → Prop}
variable {x : Ad} {cc : ByteArray} {own : String} {c1 : Cond} {rm : Room} {w0 w1 wr : va_W} {pc : Nat} {lv : List (Nat × Value)} {st : List Value}
set_option maxHeartbeats 4000000 in
/-- a call of a method that may throw, from a body that catches -/
theorem g_callX (C : Cx (p, l, e, R, s, m, args, below, meth, c, A, nL, cells, slots, Q) x cc own c1 rm nL) (hX : XS A s s.heap) {y : MethodName} {cy : ByteArray} {ny n idx a : Nat} {ry : Option FieldType} {rm2 : Room} {As : List Value} {ee : Nat} {r : Int32} (hM : MX l x y (Cond.code y cy ny ry) rm2 (.ref a :: As) w0 ee r w1) (hg : GoodIn (c1 :: tb) (wsV own idx RX4 y (Cond.code y cy ny ry :: tb))) (hdd : y.cls = RX4 ∧ y.cls ≠ "java/lang/invoke/MethodHandle" ∧ y.cls ≠ "java/lang/invoke/VarHandle" ∧ (parseMethodDescriptor y.desc).map (fun d => d.parameters.length) = some n) (hrc : rm2.cells = 1) (hrs : rm2.slots = 6) (hR : rm2.frames + 1 ≤ rm.frames ∧ 8 + (ny + 11) + rm2.locals ≤ rm.locals) (q0 : Nat) {fs : List Value} (he : w0[q0]? = some (a, .inr (4, fs))) (hn : As.length = n) (hcc : cells + 1 ≤ rm.cells) (hss : slots + 6 ≤ rm.slots) (hst : (st.map fun v => v.category).sum ≤ 8) (hd : decode cc pc = .ok (.invokevirtual idx, 3)) {st0 : List Value} (h0 : st0 = As.reverse ++ .ref a :: st)
    (hpc : ee ≠ 0 → ∃ (hp : Nat) (pr : List ExceptionTableEntry) (en : ExceptionTableEntry) (sf : List ExceptionTableEntry) (nm : String), en.handlerPc = hp ∧ c.exceptionTable.toList = pr ++ en :: sf ∧ (∀ z ∈ pr, covers z pc = false ∨ (z.catchType ≠ 0 ∧ ∃ nm2 : String, Cond.classLink own z.catchType nm2 ∈ tb ∧ va_Nc (exn ee) nm2 s)) ∧ covers en pc = true ∧ en.catchType ≠ 0 ∧ Cond.classLink own en.catchType nm ∈ tb ∧ va_Nw (.castable (exn ee) nm) s ∧ ∀ q : Nat, GG (p, l, e, R, s, m, args, below, meth, c, A, nL, cells + 1, slots + 6, Q) x (w1 ++ wr) hp lv [.ref q])
    (k : ee = 0 → GG (p, l, e, R, s, m, args, below, meth, c, A, nL, cells + 1, slots + 6, Q) x (w1 ++ wr) (pc + 3) lv (.int r :: st)) : GG (p, l, e, R, s, m, args, below, meth, c, A, nL, cells, slots, Q) x (w0 ++ wr) pc lv st0 := by
  obtain ⟨hx, hb, hml, hown, hts, hK, hA, rfl, hnl, -, -⟩ := C
  subst h0
  intro H locs ls hP hD hS hl
  have hF : ∀ q, va_A w0 H.size q → A q := by
    intro q h
    rcases h with ⟨k1, e1, h⟩ | h
    · exact (va_D_left hD).2 k1 _ h
    · exact hA q (Nat.le_trans hS.1 h)
  have hP0 := va_P_left hP
  refine vx_calli (vx_runV (As := As) (rest := st) ⟨hx, hb, hml, hown, hts⟩ (hM H.size) (cwV n hts hg rfl hrc hrs hdd hR) ⟨preX_blind, va_recv hK hP0 (ci := 4) (q0 := q0) rfl he, fun U hU hW => ⟨rfl, by rw [hU], by rw [hU]; exact hP0, va_K.moved hW.alike hK, (va_D_left hD).weaken (fun _ _ _ _ => trivial), by rw [hU]; exact ((hX.kept (fun q h1 h2 => hS.2.1 q h1 h2)).narrow hF).warm hW⟩⟩ rfl hn (by exact hl.1) rfl (lv_room hst) hd ⟨hcc, hss⟩) hS (fun q _ h => hF q h) hF (fun q _ h => hF q h) (fun E ce q9 u t H1 locs1 ht hvm hw hB hz1 hk1 hS1 hce hcv hcl => ?_) (fun r2 u t H1 locs1 ht hvm hw hB hz1 hk1 hS1 => ?_)
  · obtain ⟨hE, hP1, hK1, hD1⟩ := hB
    rw [ht] at hP1
    obtain ⟨j1, j2⟩ := pj_pre hP hD hk1 hF hP1 hD1
    obtain ⟨hp, pr, en, sf, nm, z1, z2, z3, z4, z5, z6, z7, z8⟩ := hpc hw
    subst hE
    refine vx_catch hown pr en sf z2 (fun z hz => ?_) z4 z5 (hts _ (List.mem_cons_of_mem _ z6)) (va_Nw.use rfl z7) hce hcv hcl ?_
    · rcases z3 z hz with h | ⟨h1, nm2, h2, h3⟩
      · exact Or.inl h
      · exact Or.inr ⟨h1, nm2, hts _ (List.mem_cons_of_mem _ h2), h3⟩
    · rw [z1]
      exact z8 q9 H1 locs1 ls j1 j2 hS1 hl
  · obtain ⟨hP1, hK1, hD1⟩ := hB
    rw [ht] at hP1
    obtain ⟨j1, j2⟩ := pj_pre hP hD hk1 hF hP1 hD1
    obtain ⟨hw1, hw2⟩ := hw
    subst hw2
    exact k hw1 H1 locs1 ls j1 j2 hS1 hl
end HC
abbrev kL_put : Cond := Cond.codeWith yL_put cL_put 5 (some .int) [(0, 17, 20, 13)]
set_option maxRecDepth 100000 in
theorem mK_L_put : kL_put ∈ tb := tb_t 439 rfl rfl
abbrev rmL_put : Room := { frames := 7, cells := 1, slots := 6, locals := 166 }
def f_L_put (g : Nat) (S : Mem) (o : Nat → Int64) (a1 : Int32) (a2 : Int32) : Option (Int32 × Mem × (Nat → Int64)) := bd2 (f_X4_put g S a1 a2) (fun er S1 => if er.1 = 0 then some (0, S1, vp_updL o 0 (if er.2 = 0 then 0 else 1)) else if er.1 = 1 then some (1, S1, o) else none)
set_option maxHeartbeats 4000000 in
set_option maxRecDepth 100000 in
theorem c_L_put {l : Launch} {x : Ad} (hl0 : l.stackTraces = false) (g : Nat) (S : Mem) (o : Nat → Int64) (a1 : Int32) (a2 : Int32) {z : Int32 × Mem × (Nat → Int64)} (hf : f_L_put g S o a1 a2 = some z) : MH l x yL_put kL_put rmL_put [.ref (ax x 0), .int a1, .int a2, .ref (ax x 50)] (cT x S ++ wO x o) z.1 (cT x z.2.1 ++ wO x z.2.2) := by
  refine met_H RL (by decide +kernel) rfl (Nat.le_of_ble_eq_true rfl) [(0, .ref (ax x 0)), (1, .int a1), (2, .int a2), (3, .ref (ax x 50))] rfl ?_
  intro p e s m below meth c A Q C hX htab hr
  rw [f_L_put] at hf
  obtain ⟨er, S1, hc, hf⟩ := bd2_some hf
  refine g_aload_n C 3 rfl rfl dL_put_0 ?_
  refine g_iconst C (v := 0) (by decide) dL_put_1 ?_
  refine g_aload_n C 0 rfl rfl dL_put_2 ?_
  refine g_iload_n C 1 rfl rfl dL_put_3 ?_
  refine g_iload_n C 2 rfl rfl dL_put_4 ?_
  have C1 := n_add C (a := 1) (b := 6) (Nat.le_of_ble_eq_true rfl) (Nat.le_of_ble_eq_true rfl)
  refine g_callX C hX (n := 2) (st := [.int 0, .ref (ax x 50)]) (c_X4_put hl0 g S a1 a2 hc) (tb_wsV _ mM_L_7 mI_X4_put mS_X4_put mN_X4 mK_X4_put) (by decide +kernel) rfl rfl ⟨by decide, by decide⟩ 0 rfl rfl (Nat.le_of_ble_eq_true rfl) (Nat.le_of_ble_eq_true rfl) (Nat.le_of_ble_eq_true rfl) dL_put_5 rfl ?_ ?_
  · intro hne
    have hne2 : ¬ er.1 = 0 := hne
    rw [if_neg hne2] at hf
    by_cases h0 : er.1 = 1
    · rw [if_pos h0] at hf
      obtain rfl := Option.some.inj hf
      refine ⟨20, [], ⟨0, 17, 20, 13⟩, [], "java/lang/UnsupportedOperationException", rfl, htab, ?_, by decide, by decide, mC_L_13, ?_, fun q => ?_⟩
      · intro z hz; cases hz
      · show va_Nw (.castable (exn er.1) _) s
        rw [h0]
        exact hX.2.2.2.1 "java/lang/UnsupportedOperationException" (by decide +kernel)
      · refine g_astore C1 (lv2 := [(4, .ref q), (0, .ref (ax x 0)), (1, .int a1), (2, .int a2), (3, .ref (ax x 50))]) (by decide) rfl dL_put_20 ?_
        refine g_iconst C1 (v := 1) (by decide) dL_put_22 ?_
        exact g_iret (hr _ _ (Nat.le_of_ble_eq_true rfl) (Nat.le_of_ble_eq_true rfl)) dL_put_23
    rw [if_neg h0] at hf
    cases hf
  · intro h0
    have h02 : er.1 = 0 := h0
    rw [if_pos h02] at hf
    obtain rfl := Option.some.inj hf
    refine g_if_eq C1 15 (by decide) dL_put_8 (fun hz => ?_) (fun hz => ?_)
    · have hz2 : er.2 = 0 := hz
      rw [if_pos hz2] at hr
      refine g_lconst C1 (v := 0) (by decide) dL_put_15 ?_
      refine g_last (w2 := cT x S1 ++ wO x (vp_updL o 0 0)) C1 21 rfl (by show ix_in 0 1; decide) rfl dL_put_16 ?_
      refine g_goto C1 24 (by decide) dL_put_17 ?_
      refine g_iconst C1 (v := 0) (by decide) dL_put_24 ?_
      exact g_iret (hr _ _ (Nat.le_of_ble_eq_true rfl) (Nat.le_of_ble_eq_true rfl)) dL_put_25
    · have hz2 : ¬ er.2 = 0 := hz
      rw [if_neg hz2] at hr
      refine g_lconst C1 (v := 1) (by decide) dL_put_11 ?_
      refine g_goto C1 16 (by decide) dL_put_12 ?_
      refine g_last (w2 := cT x S1 ++ wO x (vp_updL o 0 1)) C1 21 rfl (by show ix_in 0 1; decide) rfl dL_put_16 ?_
      refine g_goto C1 24 (by decide) dL_put_17 ?_
      refine g_iconst C1 (v := 0) (by decide) dL_put_24 ?_
      exact g_iret (hr _ _ (Nat.le_of_ble_eq_true rfl) (Nat.le_of_ble_eq_true rfl)) dL_put_25
abbrev kL_get : Cond := Cond.codeWith yL_get cL_get 4 (some .int) [(0, 9, 12, 19)]
set_option maxRecDepth 100000 in
theorem mK_L_get : kL_get ∈ tb := tb_t 542 rfl rfl
abbrev rmL_get : Room := { frames := 7, cells := 1, slots := 6, locals := 117 }
def f_L_get (g : Nat) (S : Mem) (o : Nat → Int64) (a1 : Int32) : Option (Int32 × Mem × (Nat → Int64)) := bd2 (f_X4_get g S a1) (fun er S1 => if er.1 = 0 then some (0, S1, vp_updL o 0 er.2.toInt64) else if er.1 = 2 then some (1, S1, o) else none)
set_option maxHeartbeats 4000000 in
set_option maxRecDepth 100000 in
theorem c_L_get {l : Launch} {x : Ad} (hl0 : l.stackTraces = false) (g : Nat) (S : Mem) (o : Nat → Int64) (a1 : Int32) {z : Int32 × Mem × (Nat → Int64)} (hf : f_L_get g S o a1 = some z) : MH l x yL_get kL_get rmL_get [.ref (ax x 0), .int a1, .ref (ax x 50)] (cT x S ++ wO x o) z.1 (cT x z.2.1 ++ wO x z.2.2) := by
  refine met_H RL (by decide +kernel) rfl (Nat.le_of_ble_eq_true rfl) [(0, .ref (ax x 0)), (1, .int a1), (2, .ref (ax x 50))] rfl ?_
  intro p e s m below meth c A Q C hX htab hr
  rw [f_L_get] at hf
  obtain ⟨er, S1, hc, hf⟩ := bd2_some hf
  refine g_aload_n C 2 rfl rfl dL_get_0 ?_
  refine g_iconst C (v := 0) (by decide) dL_get_1 ?_
  refine g_aload_n C 0 rfl rfl dL_get_2 ?_
  refine g_iload_n C 1 rfl rfl dL_get_3 ?_
  have C1 := n_add C (a := 1) (b := 6) (Nat.le_of_ble_eq_true rfl) (Nat.le_of_ble_eq_true rfl)
  refine g_callX C hX (n := 1) (st := [.int 0, .ref (ax x 50)]) (c_X4_get hl0 g S a1 hc) (tb_wsV _ mM_L_15 mI_X4_get mS_X4_get mN_X4 mK_X4_get) (by decide +kernel) rfl rfl ⟨by decide, by decide⟩ 0 rfl rfl (Nat.le_of_ble_eq_true rfl) (Nat.le_of_ble_eq_true rfl) (Nat.le_of_ble_eq_true rfl) dL_get_4 rfl ?_ ?_
  · intro hne
    have hne2 : ¬ er.1 = 0 := hne
    rw [if_neg hne2] at hf
    by_cases h0 : er.1 = 2
    · rw [if_pos h0] at hf
      obtain rfl := Option.some.inj hf
      refine ⟨12, [], ⟨0, 9, 12, 19⟩, [], "java/util/NoSuchElementException", rfl, htab, ?_, by decide, by decide, mC_L_19, ?_, fun q => ?_⟩
      · intro z hz; cases hz
      · show va_Nw (.castable (exn er.1) _) s
        rw [h0]
        exact hX.2.2.2.1 "java/util/NoSuchElementException" (by decide +kernel)
      · refine g_astore_n C1 (lv2 := [(3, .ref q), (0, .ref (ax x 0)), (1, .int a1), (2, .ref (ax x 50))]) rfl (by decide) rfl dL_get_12 ?_
        refine g_iconst C1 (v := 1) (by decide) dL_get_13 ?_
        exact g_iret (hr _ _ (Nat.le_of_ble_eq_true rfl) (Nat.le_of_ble_eq_true rfl)) dL_get_14
    rw [if_neg h0] at hf
    cases hf
  · intro h0
    have h02 : er.1 = 0 := h0
    rw [if_pos h02] at hf
    obtain rfl := Option.some.inj hf
    refine g_i2l C1 dL_get_7 ?_
    refine g_last (w2 := cT x S1 ++ wO x (vp_updL o 0 er.2.toInt64)) C1 21 rfl (by show ix_in 0 1; decide) rfl dL_get_8 ?_
    refine g_goto C1 15 (by decide) dL_get_9 ?_
    refine g_iconst C1 (v := 0) (by decide) dL_get_15 ?_
    exact g_iret (hr _ _ (Nat.le_of_ble_eq_true rfl) (Nat.le_of_ble_eq_true rfl)) dL_get_16
abbrev kL_next : Cond := Cond.codeWith yL_next cL_next 3 (some .int) [(0, 15, 18, 19)]
set_option maxRecDepth 100000 in
theorem mK_L_next : kL_next ∈ tb := tb_t 566 rfl rfl
abbrev rmL_next : Room := { frames := 7, cells := 1, slots := 6, locals := 113 }
def f_L_next (g : Nat) (S : Mem) (o : Nat → Int64) : Option (Int32 × Mem × (Nat → Int64)) := bd2 (f_X4_next g S) (fun er S1 => if er.1 = 0 then some (0, S1, vp_updL o 0 (if er.2 = 0 then 0 else 1)) else if er.1 = 2 then some (1, S1, o) else none)
set_option maxHeartbeats 4000000 in
set_option maxRecDepth 100000 in
theorem c_L_next {l : Launch} {x : Ad} (hl0 : l.stackTraces = false) (g : Nat) (S : Mem) (o : Nat → Int64) {z : Int32 × Mem × (Nat → Int64)} (hf : f_L_next g S o = some z) : MH l x yL_next kL_next rmL_next [.ref (ax x 0), .ref (ax x 50)] (cT x S ++ wO x o) z.1 (cT x z.2.1 ++ wO x z.2.2) := by
  refine met_H RL (by decide +kernel) rfl (Nat.le_of_ble_eq_true rfl) [(0, .ref (ax x 0)), (1, .ref (ax x 50))] rfl ?_
  intro p e s m below meth c A Q C hX htab hr
  rw [f_L_next] at hf
  obtain ⟨er, S1, hc, hf⟩ := bd2_some hf
  refine g_aload_n C 1 rfl rfl dL_next_0 ?_
  refine g_iconst C (v := 0) (by decide) dL_next_1 ?_
  refine g_aload_n C 0 rfl rfl dL_next_2 ?_
  have C1 := n_add C (a := 1) (b := 6) (Nat.le_of_ble_eq_true rfl) (Nat.le_of_ble_eq_true rfl)
  refine g_callX C hX (n := 0) (st := [.int 0, .ref (ax x 50)]) (c_X4_next hl0 g S hc) (tb_wsV _ mM_L_21 mI_X4_next mS_X4_next mN_X4 mK_X4_next) (by decide +kernel) rfl rfl ⟨by decide, by decide⟩ 0 rfl rfl (Nat.le_of_ble_eq_true rfl) (Nat.le_of_ble_eq_true rfl) (Nat.le_of_ble_eq_true rfl) dL_next_3 rfl ?_ ?_
  · intro hne
    have hne2 : ¬ er.1 = 0 := hne
    rw [if_neg hne2] at hf
    by_cases h0 : er.1 = 2
    · rw [if_pos h0] at hf
      obtain rfl := Option.some.inj hf
      refine ⟨18, [], ⟨0, 15, 18, 19⟩, [], "java/util/NoSuchElementException", rfl, htab, ?_, by decide, by decide, mC_L_19, ?_, fun q => ?_⟩
      · intro z hz; cases hz
      · show va_Nw (.castable (exn er.1) _) s
        rw [h0]
        exact hX.2.2.2.1 "java/util/NoSuchElementException" (by decide +kernel)
      · refine g_astore_n C1 (lv2 := [(2, .ref q), (0, .ref (ax x 0)), (1, .ref (ax x 50))]) rfl (by decide) rfl dL_next_18 ?_
        refine g_iconst C1 (v := 1) (by decide) dL_next_19 ?_
        exact g_iret (hr _ _ (Nat.le_of_ble_eq_true rfl) (Nat.le_of_ble_eq_true rfl)) dL_next_20
    rw [if_neg h0] at hf
    cases hf
  · intro h0
    have h02 : er.1 = 0 := h0
    rw [if_pos h02] at hf
    obtain rfl := Option.some.inj hf
    refine g_if_eq C1 13 (by decide) dL_next_6 (fun hz => ?_) (fun hz => ?_)
    · have hz2 : er.2 = 0 := hz
      rw [if_pos hz2] at hr
      refine g_lconst C1 (v := 0) (by decide) dL_next_13 ?_
      refine g_last (w2 := cT x S1 ++ wO x (vp_updL o 0 0)) C1 21 rfl (by show ix_in 0 1; decide) rfl dL_next_14 ?_
      refine g_goto C1 21 (by decide) dL_next_15 ?_
      refine g_iconst C1 (v := 0) (by decide) dL_next_21 ?_
      exact g_iret (hr _ _ (Nat.le_of_ble_eq_true rfl) (Nat.le_of_ble_eq_true rfl)) dL_next_22
    · have hz2 : ¬ er.2 = 0 := hz
      rw [if_neg hz2] at hr
      refine g_lconst C1 (v := 1) (by decide) dL_next_9 ?_
      refine g_goto C1 14 (by decide) dL_next_10 ?_
      refine g_last (w2 := cT x S1 ++ wO x (vp_updL o 0 1)) C1 21 rfl (by show ix_in 0 1; decide) rfl dL_next_14 ?_
      refine g_goto C1 21 (by decide) dL_next_15 ?_
      refine g_iconst C1 (v := 0) (by decide) dL_next_21 ?_
      exact g_iret (hr _ _ (Nat.le_of_ble_eq_true rfl) (Nat.le_of_ble_eq_true rfl)) dL_next_22
abbrev kL_cursor : Cond := Cond.codeWith yL_cursor cL_cursor 4 (some .int) [(0, 9, 12, 19)]
set_option maxRecDepth 100000 in
theorem mK_L_cursor : kL_cursor ∈ tb := tb_t 574 rfl rfl
abbrev rmL_cursor : Room := { frames := 7, cells := 1, slots := 6, locals := 103 }
def f_L_cursor (g : Nat) (S : Mem) (o : Nat → Int64) (a1 : Int32) : Option (Int32 × Mem × (Nat → Int64)) := bd2 (f_X4_cursor g S a1) (fun er S1 => if er.1 = 0 then some (0, S1, vp_updL o 0 er.2.toInt64) else if er.1 = 2 then some (1, S1, o) else none)
set_option maxHeartbeats 4000000 in
set_option maxRecDepth 100000 in
theorem c_L_cursor {l : Launch} {x : Ad} (hl0 : l.stackTraces = false) (g : Nat) (S : Mem) (o : Nat → Int64) (a1 : Int32) {z : Int32 × Mem × (Nat → Int64)} (hf : f_L_cursor g S o a1 = some z) : MH l x yL_cursor kL_cursor rmL_cursor [.ref (ax x 0), .int a1, .ref (ax x 50)] (cT x S ++ wO x o) z.1 (cT x z.2.1 ++ wO x z.2.2) := by
  refine met_H RL (by decide +kernel) rfl (Nat.le_of_ble_eq_true rfl) [(0, .ref (ax x 0)), (1, .int a1), (2, .ref (ax x 50))] rfl ?_
  intro p e s m below meth c A Q C hX htab hr
  rw [f_L_cursor] at hf
  obtain ⟨er, S1, hc, hf⟩ := bd2_some hf
  refine g_aload_n C 2 rfl rfl dL_cursor_0 ?_
  refine g_iconst C (v := 0) (by decide) dL_cursor_1 ?_
  refine g_aload_n C 0 rfl rfl dL_cursor_2 ?_
  refine g_iload_n C 1 rfl rfl dL_cursor_3 ?_
  have C1 := n_add C (a := 1) (b := 6) (Nat.le_of_ble_eq_true rfl) (Nat.le_of_ble_eq_true rfl)
  refine g_callX C hX (n := 1) (st := [.int 0, .ref (ax x 50)]) (c_X4_cursor hl0 g S a1 hc) (tb_wsV _ mM_L_25 mI_X4_cursor mS_X4_cursor mN_X4 mK_X4_cursor) (by decide +kernel) rfl rfl ⟨by decide, by decide⟩ 0 rfl rfl (Nat.le_of_ble_eq_true rfl) (Nat.le_of_ble_eq_true rfl) (Nat.le_of_ble_eq_true rfl) dL_cursor_4 rfl ?_ ?_
  · intro hne
    have hne2 : ¬ er.1 = 0 := hne
    rw [if_neg hne2] at hf
    by_cases h0 : er.1 = 2
    · rw [if_pos h0] at hf
      obtain rfl := Option.some.inj hf
      refine ⟨12, [], ⟨0, 9, 12, 19⟩, [], "java/util/NoSuchElementException", rfl, htab, ?_, by decide, by decide, mC_L_19, ?_, fun q => ?_⟩
      · intro z hz; cases hz
      · show va_Nw (.castable (exn er.1) _) s
        rw [h0]
        exact hX.2.2.2.1 "java/util/NoSuchElementException" (by decide +kernel)
      · refine g_astore_n C1 (lv2 := [(3, .ref q), (0, .ref (ax x 0)), (1, .int a1), (2, .ref (ax x 50))]) rfl (by decide) rfl dL_cursor_12 ?_
        refine g_iconst C1 (v := 1) (by decide) dL_cursor_13 ?_
        exact g_iret (hr _ _ (Nat.le_of_ble_eq_true rfl) (Nat.le_of_ble_eq_true rfl)) dL_cursor_14
    rw [if_neg h0] at hf
    cases hf
  · intro h0
    have h02 : er.1 = 0 := h0
    rw [if_pos h02] at hf
    obtain rfl := Option.some.inj hf
    refine g_i2l C1 dL_cursor_7 ?_
    refine g_last (w2 := cT x S1 ++ wO x (vp_updL o 0 er.2.toInt64)) C1 21 rfl (by show ix_in 0 1; decide) rfl dL_cursor_8 ?_
    refine g_goto C1 15 (by decide) dL_cursor_9 ?_
    refine g_iconst C1 (v := 0) (by decide) dL_cursor_15 ?_
    exact g_iret (hr _ _ (Nat.le_of_ble_eq_true rfl) (Nat.le_of_ble_eq_true rfl)) dL_cursor_16
abbrev kL_drop : Cond := Cond.codeWith yL_drop cL_drop 3 (some .int) [(0, 8, 11, 33)]
set_option maxRecDepth 100000 in
theorem mK_L_drop : kL_drop ∈ tb := tb_t 581 rfl rfl
abbrev rmL_drop : Room := { frames := 7, cells := 1, slots := 6, locals := 102 }
def f_L_drop (g : Nat) (S : Mem) (o : Nat → Int64) : Option (Int32 × Mem × (Nat → Int64)) := bd2 (f_X4_drop g S) (fun er S1 => if er.1 = 0 then some (0, S1, vp_updL o 0 er.2.toInt64) else if er.1 = 3 then some (1, S1, o) else none)
set_option maxHeartbeats 4000000 in
set_option maxRecDepth 100000 in
theorem c_L_drop {l : Launch} {x : Ad} (hl0 : l.stackTraces = false) (g : Nat) (S : Mem) (o : Nat → Int64) {z : Int32 × Mem × (Nat → Int64)} (hf : f_L_drop g S o = some z) : MH l x yL_drop kL_drop rmL_drop [.ref (ax x 0), .ref (ax x 50)] (cT x S ++ wO x o) z.1 (cT x z.2.1 ++ wO x z.2.2) := by
  refine met_H RL (by decide +kernel) rfl (Nat.le_of_ble_eq_true rfl) [(0, .ref (ax x 0)), (1, .ref (ax x 50))] rfl ?_
  intro p e s m below meth c A Q C hX htab hr
  rw [f_L_drop] at hf
  obtain ⟨er, S1, hc, hf⟩ := bd2_some hf
  refine g_aload_n C 1 rfl rfl dL_drop_0 ?_
  refine g_iconst C (v := 0) (by decide) dL_drop_1 ?_
  refine g_aload_n C 0 rfl rfl dL_drop_2 ?_
  have C1 := n_add C (a := 1) (b := 6) (Nat.le_of_ble_eq_true rfl) (Nat.le_of_ble_eq_true rfl)
  refine g_callX C hX (n := 0) (st := [.int 0, .ref (ax x 50)]) (c_X4_drop hl0 g S hc) (tb_wsV _ mM_L_29 mI_X4_drop mS_X4_drop mN_X4 mK_X4_drop) (by decide +kernel) rfl rfl ⟨by decide, by decide⟩ 0 rfl rfl (Nat.le_of_ble_eq_true rfl) (Nat.le_of_ble_eq_true rfl) (Nat.le_of_ble_eq_true rfl) dL_drop_3 rfl ?_ ?_
  · intro hne
    have hne2 : ¬ er.1 = 0 := hne
    rw [if_neg hne2] at hf
    by_cases h0 : er.1 = 3
    · rw [if_pos h0] at hf
      obtain rfl := Option.some.inj hf
      refine ⟨11, [], ⟨0, 8, 11, 33⟩, [], "java/lang/IllegalStateException", rfl, htab, ?_, by decide, by decide, mC_L_33, ?_, fun q => ?_⟩
      · intro z hz; cases hz
      · show va_Nw (.castable (exn er.1) _) s
        rw [h0]
        exact hX.2.2.2.1 "java/lang/IllegalStateException" (by decide +kernel)
      · refine g_astore_n C1 (lv2 := [(2, .ref q), (0, .ref (ax x 0)), (1, .ref (ax x 50))]) rfl (by decide) rfl dL_drop_11 ?_
        refine g_iconst C1 (v := 1) (by decide) dL_drop_12 ?_
        exact g_iret (hr _ _ (Nat.le_of_ble_eq_true rfl) (Nat.le_of_ble_eq_true rfl)) dL_drop_13
    rw [if_neg h0] at hf
    cases hf
  · intro h0
    have h02 : er.1 = 0 := h0
    rw [if_pos h02] at hf
    obtain rfl := Option.some.inj hf
    refine g_i2l C1 dL_drop_6 ?_
    refine g_last (w2 := cT x S1 ++ wO x (vp_updL o 0 er.2.toInt64)) C1 21 rfl (by show ix_in 0 1; decide) rfl dL_drop_7 ?_
    refine g_goto C1 14 (by decide) dL_drop_8 ?_
    refine g_iconst C1 (v := 0) (by decide) dL_drop_14 ?_
    exact g_iret (hr _ _ (Nat.le_of_ble_eq_true rfl) (Nat.le_of_ble_eq_true rfl)) dL_drop_15
abbrev kL_page : Cond := Cond.codeWith yL_page cL_page 5 (some .int) [(0, 10, 13, 39), (0, 10, 17, 41)]
set_option maxRecDepth 100000 in
theorem mK_L_page : kL_page ∈ tb := tb_t 610 rfl rfl
abbrev rmL_page : Room := { frames := 7, cells := 1, slots := 6, locals := 104 }
def f_L_page (g : Nat) (S : Mem) (o : Nat → Int64) (a1 : Int32) (a2 : Int32) : Option (Int32 × Mem × (Nat → Int64)) := bd2 (f_X4_page g S a1 a2) (fun er S1 => if er.1 = 0 then some (0, S1, vp_updL o 0 er.2.toInt64) else if er.1 = 4 then some (1, S1, o) else if er.1 = 5 then some (2, S1, o) else none)
set_option maxHeartbeats 4000000 in
set_option maxRecDepth 100000 in
theorem c_L_page {l : Launch} {x : Ad} (hl0 : l.stackTraces = false) (g : Nat) (S : Mem) (o : Nat → Int64) (a1 : Int32) (a2 : Int32) {z : Int32 × Mem × (Nat → Int64)} (hf : f_L_page g S o a1 a2 = some z) : MH l x yL_page kL_page rmL_page [.ref (ax x 0), .int a1, .int a2, .ref (ax x 50)] (cT x S ++ wO x o) z.1 (cT x z.2.1 ++ wO x z.2.2) := by
  refine met_H RL (by decide +kernel) rfl (Nat.le_of_ble_eq_true rfl) [(0, .ref (ax x 0)), (1, .int a1), (2, .int a2), (3, .ref (ax x 50))] rfl ?_
  intro p e s m below meth c A Q C hX htab hr
  rw [f_L_page] at hf
  obtain ⟨er, S1, hc, hf⟩ := bd2_some hf
  refine g_aload_n C 3 rfl rfl dL_page_0 ?_
  refine g_iconst C (v := 0) (by decide) dL_page_1 ?_
  refine g_aload_n C 0 rfl rfl dL_page_2 ?_
  refine g_iload_n C 1 rfl rfl dL_page_3 ?_
  refine g_iload_n C 2 rfl rfl dL_page_4 ?_
  have C1 := n_add C (a := 1) (b := 6) (Nat.le_of_ble_eq_true rfl) (Nat.le_of_ble_eq_true rfl)
  refine g_callX C hX (n := 2) (st := [.int 0, .ref (ax x 50)]) (c_X4_page hl0 g S a1 a2 hc) (tb_wsV _ mM_L_35 mI_X4_page mS_X4_page mN_X4 mK_X4_page) (by decide +kernel) rfl rfl ⟨by decide, by decide⟩ 0 rfl rfl (Nat.le_of_ble_eq_true rfl) (Nat.le_of_ble_eq_true rfl) (Nat.le_of_ble_eq_true rfl) dL_page_5 rfl ?_ ?_
  · intro hne
    have hne2 : ¬ er.1 = 0 := hne
    rw [if_neg hne2] at hf
    by_cases h0 : er.1 = 4
    · rw [if_pos h0] at hf
      obtain rfl := Option.some.inj hf
      refine ⟨13, [], ⟨0, 10, 13, 39⟩, [⟨0, 10, 17, 41⟩], "java/lang/IndexOutOfBoundsException", rfl, htab, ?_, by decide, by decide, mC_L_39, ?_, fun q => ?_⟩
      · intro z hz; cases hz
      · show va_Nw (.castable (exn er.1) _) s
        rw [h0]
        exact hX.2.2.2.1 "java/lang/IndexOutOfBoundsException" (by decide +kernel)
      · refine g_astore C1 (lv2 := [(4, .ref q), (0, .ref (ax x 0)), (1, .int a1), (2, .int a2), (3, .ref (ax x 50))]) (by decide) rfl dL_page_13 ?_
        refine g_iconst C1 (v := 1) (by decide) dL_page_15 ?_
        exact g_iret (hr _ _ (Nat.le_of_ble_eq_true rfl) (Nat.le_of_ble_eq_true rfl)) dL_page_16
    rw [if_neg h0] at hf
    by_cases h1 : er.1 = 5
    · rw [if_pos h1] at hf
      obtain rfl := Option.some.inj hf
      refine ⟨17, [⟨0, 10, 13, 39⟩], ⟨0, 10, 17, 41⟩, [], "java/lang/IllegalArgumentException", rfl, htab, ?_, by decide, by decide, mC_L_41, ?_, fun q => ?_⟩
      · intro z hz
        rw [List.mem_singleton.mp hz]
        refine Or.inr ⟨by decide, "java/lang/IndexOutOfBoundsException", mC_L_39, ?_⟩
        show va_Nc (exn er.1) _ s
        rw [h1]
        exact hX.2.2.2.2.2
      · show va_Nw (.castable (exn er.1) _) s
        rw [h1]
        exact hX.2.2.2.1 "java/lang/IllegalArgumentException" (by decide +kernel)
      · refine g_astore C1 (lv2 := [(4, .ref q), (0, .ref (ax x 0)), (1, .int a1), (2, .int a2), (3, .ref (ax x 50))]) (by decide) rfl dL_page_17 ?_
        refine g_iconst C1 (v := 2) (by decide) dL_page_19 ?_
        exact g_iret (hr _ _ (Nat.le_of_ble_eq_true rfl) (Nat.le_of_ble_eq_true rfl)) dL_page_20
    rw [if_neg h1] at hf
    cases hf
  · intro h0
    have h02 : er.1 = 0 := h0
    rw [if_pos h02] at hf
    obtain rfl := Option.some.inj hf
    refine g_i2l C1 dL_page_8 ?_
    refine g_last (w2 := cT x S1 ++ wO x (vp_updL o 0 er.2.toInt64)) C1 21 rfl (by show ix_in 0 1; decide) rfl dL_page_9 ?_
    refine g_goto C1 21 (by decide) dL_page_10 ?_
    refine g_iconst C1 (v := 0) (by decide) dL_page_21 ?_
    exact g_iret (hr _ _ (Nat.le_of_ble_eq_true rfl) (Nat.le_of_ble_eq_true rfl)) dL_page_22
abbrev kL_item : Cond := Cond.codeWith yL_item cL_item 6 (some .int) [(0, 12, 15, 39)]
set_option maxRecDepth 100000 in
theorem mK_L_item : kL_item ∈ tb := tb_t 652 rfl rfl
abbrev rmL_item : Room := { frames := 7, cells := 1, slots := 6, locals := 105 }
def f_L_item (g : Nat) (S : Mem) (o : Nat → Int64) (a1 : Int32) (a2 : Int32) (a3 : Int32) : Option (Int32 × Mem × (Nat → Int64)) := bd2 (f_X4_item g S a1 a2 a3) (fun er S1 => if er.1 = 0 then some (0, S1, vp_updL o 0 er.2.toInt64) else if er.1 = 4 then some (1, S1, o) else none)
set_option maxHeartbeats 4000000 in
set_option maxRecDepth 100000 in
theorem c_L_item {l : Launch} {x : Ad} (hl0 : l.stackTraces = false) (g : Nat) (S : Mem) (o : Nat → Int64) (a1 : Int32) (a2 : Int32) (a3 : Int32) {z : Int32 × Mem × (Nat → Int64)} (hf : f_L_item g S o a1 a2 a3 = some z) : MH l x yL_item kL_item rmL_item [.ref (ax x 0), .int a1, .int a2, .int a3, .ref (ax x 50)] (cT x S ++ wO x o) z.1 (cT x z.2.1 ++ wO x z.2.2) := by
  refine met_H RL (by decide +kernel) rfl (Nat.le_of_ble_eq_true rfl) [(0, .ref (ax x 0)), (1, .int a1), (2, .int a2), (3, .int a3), (4, .ref (ax x 50))] rfl ?_
  intro p e s m below meth c A Q C hX htab hr
  rw [f_L_item] at hf
  obtain ⟨er, S1, hc, hf⟩ := bd2_some hf
  refine g_aload C 4 rfl dL_item_0 ?_
  refine g_iconst C (v := 0) (by decide) dL_item_2 ?_
  refine g_aload_n C 0 rfl rfl dL_item_3 ?_
  refine g_iload_n C 1 rfl rfl dL_item_4 ?_
  refine g_iload_n C 2 rfl rfl dL_item_5 ?_
  refine g_iload_n C 3 rfl rfl dL_item_6 ?_
  have C1 := n_add C (a := 1) (b := 6) (Nat.le_of_ble_eq_true rfl) (Nat.le_of_ble_eq_true rfl)
  refine g_callX C hX (n := 3) (st := [.int 0, .ref (ax x 50)]) (c_X4_item hl0 g S a1 a2 a3 hc) (tb_wsV _ mM_L_43 mI_X4_item mS_X4_item mN_X4 mK_X4_item) (by decide +kernel) rfl rfl ⟨by decide, by decide⟩ 0 rfl rfl (Nat.le_of_ble_eq_true rfl) (Nat.le_of_ble_eq_true rfl) (Nat.le_of_ble_eq_true rfl) dL_item_7 rfl ?_ ?_
  · intro hne
    have hne2 : ¬ er.1 = 0 := hne
    rw [if_neg hne2] at hf
    by_cases h0 : er.1 = 4
    · rw [if_pos h0] at hf
      obtain rfl := Option.some.inj hf
      refine ⟨15, [], ⟨0, 12, 15, 39⟩, [], "java/lang/IndexOutOfBoundsException", rfl, htab, ?_, by decide, by decide, mC_L_39, ?_, fun q => ?_⟩
      · intro z hz; cases hz
      · show va_Nw (.castable (exn er.1) _) s
        rw [h0]
        exact hX.2.2.2.1 "java/lang/IndexOutOfBoundsException" (by decide +kernel)
      · refine g_astore C1 (lv2 := [(5, .ref q), (0, .ref (ax x 0)), (1, .int a1), (2, .int a2), (3, .int a3), (4, .ref (ax x 50))]) (by decide) rfl dL_item_15 ?_
        refine g_iconst C1 (v := 1) (by decide) dL_item_17 ?_
        exact g_iret (hr _ _ (Nat.le_of_ble_eq_true rfl) (Nat.le_of_ble_eq_true rfl)) dL_item_18
    rw [if_neg h0] at hf
    cases hf
  · intro h0
    have h02 : er.1 = 0 := h0
    rw [if_pos h02] at hf
    obtain rfl := Option.some.inj hf
    refine g_i2l C1 dL_item_10 ?_
    refine g_last (w2 := cT x S1 ++ wO x (vp_updL o 0 er.2.toInt64)) C1 21 rfl (by show ix_in 0 1; decide) rfl dL_item_11 ?_
    refine g_goto C1 19 (by decide) dL_item_12 ?_
    refine g_iconst C1 (v := 0) (by decide) dL_item_19 ?_
    exact g_iret (hr _ _ (Nat.le_of_ble_eq_true rfl) (Nat.le_of_ble_eq_true rfl)) dL_item_20
abbrev kL_frame : Cond := Cond.codeWith yL_frame cL_frame 5 (some .int) [(0, 10, 13, 39), (0, 10, 17, 41)]
set_option maxRecDepth 100000 in
theorem mK_L_frame : kL_frame ∈ tb := tb_t 660 rfl rfl
abbrev rmL_frame : Room := { frames := 7, cells := 1, slots := 6, locals := 104 }
def f_L_frame (g : Nat) (S : Mem) (o : Nat → Int64) (a1 : Int32) (a2 : Int32) : Option (Int32 × Mem × (Nat → Int64)) := bd2 (f_X4_frame g S a1 a2) (fun er S1 => if er.1 = 0 then some (0, S1, vp_updL o 0 er.2.toInt64) else if er.1 = 4 then some (1, S1, o) else if er.1 = 5 then some (2, S1, o) else none)
set_option maxHeartbeats 4000000 in
set_option maxRecDepth 100000 in
theorem c_L_frame {l : Launch} {x : Ad} (hl0 : l.stackTraces = false) (g : Nat) (S : Mem) (o : Nat → Int64) (a1 : Int32) (a2 : Int32) {z : Int32 × Mem × (Nat → Int64)} (hf : f_L_frame g S o a1 a2 = some z) : MH l x yL_frame kL_frame rmL_frame [.ref (ax x 0), .int a1, .int a2, .ref (ax x 50)] (cT x S ++ wO x o) z.1 (cT x z.2.1 ++ wO x z.2.2) := by
  refine met_H RL (by decide +kernel) rfl (Nat.le_of_ble_eq_true rfl) [(0, .ref (ax x 0)), (1, .int a1), (2, .int a2), (3, .ref (ax x 50))] rfl ?_
  intro p e s m below meth c A Q C hX htab hr
  rw [f_L_frame] at hf
  obtain ⟨er, S1, hc, hf⟩ := bd2_some hf
  refine g_aload_n C 3 rfl rfl dL_frame_0 ?_
  refine g_iconst C (v := 0) (by decide) dL_frame_1 ?_
  refine g_aload_n C 0 rfl rfl dL_frame_2 ?_
  refine g_iload_n C 1 rfl rfl dL_frame_3 ?_
  refine g_iload_n C 2 rfl rfl dL_frame_4 ?_
  have C1 := n_add C (a := 1) (b := 6) (Nat.le_of_ble_eq_true rfl) (Nat.le_of_ble_eq_true rfl)
  refine g_callX C hX (n := 2) (st := [.int 0, .ref (ax x 50)]) (c_X4_frame hl0 g S a1 a2 hc) (tb_wsV _ mM_L_47 mI_X4_frame mS_X4_frame mN_X4 mK_X4_frame) (by decide +kernel) rfl rfl ⟨by decide, by decide⟩ 0 rfl rfl (Nat.le_of_ble_eq_true rfl) (Nat.le_of_ble_eq_true rfl) (Nat.le_of_ble_eq_true rfl) dL_frame_5 rfl ?_ ?_
  · intro hne
    have hne2 : ¬ er.1 = 0 := hne
    rw [if_neg hne2] at hf
    by_cases h0 : er.1 = 4
    · rw [if_pos h0] at hf
      obtain rfl := Option.some.inj hf
      refine ⟨13, [], ⟨0, 10, 13, 39⟩, [⟨0, 10, 17, 41⟩], "java/lang/IndexOutOfBoundsException", rfl, htab, ?_, by decide, by decide, mC_L_39, ?_, fun q => ?_⟩
      · intro z hz; cases hz
      · show va_Nw (.castable (exn er.1) _) s
        rw [h0]
        exact hX.2.2.2.1 "java/lang/IndexOutOfBoundsException" (by decide +kernel)
      · refine g_astore C1 (lv2 := [(4, .ref q), (0, .ref (ax x 0)), (1, .int a1), (2, .int a2), (3, .ref (ax x 50))]) (by decide) rfl dL_frame_13 ?_
        refine g_iconst C1 (v := 1) (by decide) dL_frame_15 ?_
        exact g_iret (hr _ _ (Nat.le_of_ble_eq_true rfl) (Nat.le_of_ble_eq_true rfl)) dL_frame_16
    rw [if_neg h0] at hf
    by_cases h1 : er.1 = 5
    · rw [if_pos h1] at hf
      obtain rfl := Option.some.inj hf
      refine ⟨17, [⟨0, 10, 13, 39⟩], ⟨0, 10, 17, 41⟩, [], "java/lang/IllegalArgumentException", rfl, htab, ?_, by decide, by decide, mC_L_41, ?_, fun q => ?_⟩
      · intro z hz
        rw [List.mem_singleton.mp hz]
        refine Or.inr ⟨by decide, "java/lang/IndexOutOfBoundsException", mC_L_39, ?_⟩
        show va_Nc (exn er.1) _ s
        rw [h1]
        exact hX.2.2.2.2.2
      · show va_Nw (.castable (exn er.1) _) s
        rw [h1]
        exact hX.2.2.2.1 "java/lang/IllegalArgumentException" (by decide +kernel)
      · refine g_astore C1 (lv2 := [(4, .ref q), (0, .ref (ax x 0)), (1, .int a1), (2, .int a2), (3, .ref (ax x 50))]) (by decide) rfl dL_frame_17 ?_
        refine g_iconst C1 (v := 2) (by decide) dL_frame_19 ?_
        exact g_iret (hr _ _ (Nat.le_of_ble_eq_true rfl) (Nat.le_of_ble_eq_true rfl)) dL_frame_20
    rw [if_neg h1] at hf
    cases hf
  · intro h0
    have h02 : er.1 = 0 := h0
    rw [if_pos h02] at hf
    obtain rfl := Option.some.inj hf
    refine g_i2l C1 dL_frame_8 ?_
    refine g_last (w2 := cT x S1 ++ wO x (vp_updL o 0 er.2.toInt64)) C1 21 rfl (by show ix_in 0 1; decide) rfl dL_frame_9 ?_
    refine g_goto C1 21 (by decide) dL_frame_10 ?_
    refine g_iconst C1 (v := 0) (by decide) dL_frame_21 ?_
    exact g_iret (hr _ _ (Nat.le_of_ble_eq_true rfl) (Nat.le_of_ble_eq_true rfl)) dL_frame_22
