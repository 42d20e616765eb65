theorem mM_X4_3 : Cond.methodLink RX4 3 Lib.objectInit ∈ tb := tb_t 22 (by decide +kernel) rfl
theorem mM_X0_3 : Cond.methodLink RX0 3 Lib.objectInit ∈ tb := tb_t 30 (by decide +kernel) rfl
theorem mM_X1_3 : Cond.methodLink RX1 3 Lib.objectInit ∈ tb := tb_t 56 (by decide +kernel) rfl
theorem mM_X3_3 : Cond.methodLink RX3 3 Lib.objectInit ∈ tb := tb_t 89 (by decide +kernel) rfl
theorem mM_X2_3 : Cond.methodLink RX2 3 Lib.objectInit ∈ tb := tb_t 105 (by decide +kernel) rfl
theorem mM_X5_1 : Cond.methodLink RX5 1 Lib.objectInit ∈ tb := tb_t 685 (by decide +kernel) rfl
theorem mI_obj : Cond.instanceMethod Lib.objectInit ∈ tb := tb_t 23 (by decide +kernel) rfl
theorem mK_obj : Cond.code Lib.objectInit ⟨#[0xb1]⟩ 1 none ∈ tb := tb_t 24 (by decide +kernel) rfl
/-- worlds side by side: a call changes its own part -/
theorem va_D_left {A : Nat → Prop} {a b : va_W} (h : va_D A (a ++ b)) : va_D A a := ⟨fun i j x y hi hj e => h.1 i j x y (by rw [List.getElem?_append_left (List.getElem?_eq_some_iff.mp hi).1]; exact hi) (by rw [List.getElem?_append_left (List.getElem?_eq_some_iff.mp hj).1]; exact hj) e, fun k q hk => h.2 k q (by rw [List.getElem?_append_left (List.getElem?_eq_some_iff.mp hk).1]; exact hk)⟩
theorem app_right {a b : va_W} {k : Nat} {q : Nat × va_E} (hk : b[k]? = some q) : (a ++ b)[a.length + k]? = some q := by
  rw [List.getElem?_append_right (by omega), Nat.add_sub_cancel_left]; exact hk
theorem app_left {a b : va_W} {k : Nat} {q : Nat × va_E} (hk : a[k]? = some q) : (a ++ b)[k]? = some q := by
  rw [List.getElem?_append_left (List.getElem?_eq_some_iff.mp hk).1]; exact hk
theorem va_D_right {A : Nat → Prop} {a b : va_W} (h : va_D A (a ++ b)) : va_D A b := ⟨fun i j x y hi hj e => by have := h.1 _ _ x y (app_right hi) (app_right hj) e; omega, fun k q hk => h.2 _ q (app_right hk)⟩
theorem va_D_apart {A : Nat → Prop} {a b : va_W} (h : va_D A (a ++ b)) {i j : Nat} {x y : Nat × va_E} (hi : a[i]? = some x) (hj : b[j]? = some y) : x.1 ≠ y.1 := fun e => by
  have h1 := h.1 _ _ x y (app_left hi) (app_right hj) e
  have h2 := (List.getElem?_eq_some_iff.mp hi).1
  omega
theorem va_P_left {D : va_G} {cl : List vw_C} {a b : va_W} {H : Heap} (h : va_P D cl (a ++ b) H) : va_P D cl a H := fun k q hk => h k q (app_left hk)
theorem va_P_right {D : va_G} {cl : List vw_C} {a b : va_W} {H : Heap} (h : va_P D cl (a ++ b) H) : va_P D cl b H := fun k q hk => h _ q (app_right hk)
theorem va_D_swap {A : Nat → Prop} {a b : va_W} (h : va_D A (a ++ b)) : va_D A (b ++ a) := va_D.app (va_D_right h) (va_D_left h) (fun _ _ _ _ hi hj e => va_D_apart h hj hi e.symm)
theorem va_P_swap {D : va_G} {cl : List vw_C} {a b : va_W} {H : Heap} (h : va_P D cl (a ++ b) H) : va_P D cl (b ++ a) H := va_P.app (va_P_right h) (va_P_left h)
theorem va_D_rot {A : Nat → Prop} {a b c : va_W} (h : va_D A (a ++ (b ++ c))) : va_D A (b ++ (a ++ c)) := by
  refine va_D.app (va_D_left (va_D_right h)) (va_D.app (va_D_left h) (va_D_right (va_D_right h)) (fun _ _ _ _ hi hj => va_D_apart h hi (app_right hj))) (fun i j x y hi hj e => ?_)
  by_cases hl : j < a.length
  · rw [List.getElem?_append_left hl] at hj
    exact va_D_apart h hj (app_left hi) e.symm
  · rw [List.getElem?_append_right (by omega)] at hj
    exact va_D_apart (va_D_right h) hi hj e
theorem va_P_rot {D : va_G} {cl : List vw_C} {a b c : va_W} {H : Heap} (h : va_P D cl (a ++ (b ++ c)) H) : va_P D cl (b ++ (a ++ c)) H := va_P.app (va_P_left (va_P_right h)) (va_P.app (va_P_left h) (va_P_right (va_P_right h)))
theorem pj_pre {A : Nat → Prop} {D : va_G} {cl : List vw_C} {a a2 b : va_W} {H H1 : Heap} (hP : va_P D cl (a ++ b) H) (hD : va_D A (a ++ b)) (hk : ∀ q : Nat, q < H.size → ¬ va_A a H.size q → H1[q]? = H[q]?) (hF : ∀ q, va_A a H.size q → A q) (hP1 : va_P D cl a2 H1) (hD1 : va_D (va_A a H.size) a2) : va_P D cl (a2 ++ b) H1 ∧ va_D A (a2 ++ b) := by
  have no : ∀ (k : Nat) (q : Nat × va_E), b[k]? = some q → ¬ va_A a H.size q.1 := by
    intro k q hq h
    rcases h with ⟨k2, e2, h⟩ | h
    · exact va_D_apart hD h hq rfl
    · have := (va_P_right hP k q hq).lt
      omega
  exact ⟨va_P.app hP1 (fun k q hq => (va_P_right hP k q hq).kept (hk _ ((va_P_right hP k q hq).lt) (no k q hq))), va_D.app (hD1.weaken (fun _ _ _ h => hF _ h)) (va_D_right hD) (fun i j x y hi hj e => no j y hj (e ▸ hD1.2 i x hi))⟩
theorem pj_suf {A : Nat → Prop} {D : va_G} {cl : List vw_C} {a a2 b : va_W} {H H1 : Heap} (hP : va_P D cl (b ++ a) H) (hD : va_D A (b ++ a)) (hk : ∀ q : Nat, q < H.size → ¬ va_A a H.size q → H1[q]? = H[q]?) (hF : ∀ q, va_A a H.size q → A q) (hP1 : va_P D cl a2 H1) (hD1 : va_D (va_A a H.size) a2) : va_P D cl (b ++ a2) H1 ∧ va_D A (b ++ a2) := by
  obtain ⟨h1, h2⟩ := pj_pre (va_P_swap hP) (va_D_swap hD) hk hF hP1 hD1
  exact ⟨va_P_swap h1, va_D_swap h2⟩
section CR
variable {p : Program} {l : Launch} {e : Env} {R : Room} {s : State} {m : MethodId} {args : Array Value} {below : List Frame} {meth : Method} {c : Code} {A : Nat → Prop} {nL cells slots : Nat} {Q : State → Prop}
variable {x : Ad} {cc : ByteArray} {own : String} {c1 : Cond} {rm : Room} {w : va_W} {pc : Nat} {lv : List (Nat × Value)} {st : List Value}
theorem n_add (C : Cx (p, l, e, R, s, m, args, below, meth, c, A, nL, cells, slots, Q) x cc own c1 rm nL) {a b : Nat} (ha : cells + a ≤ rm.cells) (hb : slots + b ≤ rm.slots) : Cx (p, l, e, R, s, m, args, below, meth, c, A, nL, cells + a, slots + b, Q) x cc own c1 rm nL := by
  obtain ⟨h1, h2, h3, h4, h5, h6, h7, rfl, h9, -, -⟩ := C
  exact ⟨h1, h2, h3, h4, h5, h6, h7, rfl, h9, ha, hb⟩
theorem n_obj (C : Cx (p, l, e, R, s, m, args, below, meth, c, A, nL, cells, slots, Q) x cc own c1 rm nL) {idx a : Nat} (hm : Cond.methodLink own idx Lib.objectInit ∈ tb) (h1 : 1 ≤ rm.frames) (h2 : (st.map fun v => v.category).sum + 12 ≤ rm.locals) (hd : decode cc pc = .ok (.invokespecial idx, 3)) (k : GG (p, l, e, R, s, m, args, below, meth, c, A, nL, cells, slots, Q) x w (pc + 3) lv st) : GG (p, l, e, R, s, m, args, below, meth, c, A, nL, cells, slots, Q) x w pc lv (.ref a :: st) := by
  obtain ⟨hx, hb, hml, hown, hts, hK, hA, rfl, -, -, -⟩ := C
  intro H locs ls hP hD hS hl
  refine W.objInit hx hb hown (hts _ (List.mem_cons_of_mem _ hm)) (hts _ (List.mem_cons_of_mem _ mI_obj)) (hts _ (List.mem_cons_of_mem _ mK_obj)) rfl (by rw [hml]; exact hl.1) rfl hd h1 ?_ ?_
  · show 2 * 0 + _ + 12 ≤ _
    omega
  · exact k H locs ls hP hD hS hl
theorem n_new_int (C : Cx (p, l, e, R, s, m, args, below, meth, c, A, nL, cells, slots, Q) x cc own c1 rm nL) {n : Int32} {N : Nat} (hn : ¬ n < 0) (hN : n.toNatClampNeg = N) (hbig : N ≤ 1000) (hc : cells + 1 ≤ rm.cells) (hs : slots + N ≤ rm.slots) (hd : decode cc pc = .ok (.newarray .int, 2)) (k : ∀ q : Nat, GG (p, l, e, R, s, m, args, below, meth, c, A, nL, cells + 1, slots + N, Q) x (w ++ [(q, .inl (x.2.1, (N, .inl (fun _ => 0))))]) (pc + 2) lv (.ref q :: st)) : GG (p, l, e, R, s, m, args, below, meth, c, A, nL, cells, slots, Q) x w pc lv (.int n :: st) := by
  obtain ⟨hx, hb, hml, hown, hts, hK, hA, rfl, -, -, -⟩ := C
  intro H locs ls hP hD hS hl
  refine va_newa (atype := .int) (a0 := (N, .inl (fun _ => 0))) hx hb (hts _ (List.mem_cons_of_mem _ mY_int)) rfl hK hP hD hS hA (fun cA => by first | rfl | simp [vp_cell, defaultValue, newarray.typeOf]) hn hN (by simp [newarray.typeOf, componentBytes]; omega) hc hs hd (fun q cA H1 hK1 hP1 hD1 hS1 => ?_)
  have e1 : s.vm.findClass ("[" ++ (FieldType.int).toString) = some cA := (hK1.2 3 (cA, .int) rfl).2
  have e2 : s.vm.findClass ("[" ++ (FieldType.int).toString) = some (x.2.1) := (hK.2 0 (x.2.1, .int) rfl).2
  have e3 : cA = x.2.1 := Option.some.inj (e1.symm.trans e2)
  subst e3
  exact k q H1 locs ls hP1 hD1 hS1 hl
theorem n_new_boolean (C : Cx (p, l, e, R, s, m, args, below, meth, c, A, nL, cells, slots, Q) x cc own c1 rm nL) {n : Int32} {N : Nat} (hn : ¬ n < 0) (hN : n.toNatClampNeg = N) (hbig : N ≤ 1000) (hc : cells + 1 ≤ rm.cells) (hs : slots + N ≤ rm.slots) (hd : decode cc pc = .ok (.newarray .boolean, 2)) (k : ∀ q : Nat, GG (p, l, e, R, s, m, args, below, meth, c, A, nL, cells + 1, slots + N, Q) x (w ++ [(q, .inl (x.2.2.1, (N, .inl (fun _ => 0))))]) (pc + 2) lv (.ref q :: st)) : GG (p, l, e, R, s, m, args, below, meth, c, A, nL, cells, slots, Q) x w pc lv (.int n :: st) := by
  obtain ⟨hx, hb, hml, hown, hts, hK, hA, rfl, -, -, -⟩ := C
  intro H locs ls hP hD hS hl
  refine va_newa (atype := .boolean) (a0 := (N, .inl (fun _ => 0))) hx hb (hts _ (List.mem_cons_of_mem _ mY_boolean)) rfl hK hP hD hS hA (fun cA => by first | rfl | simp [vp_cell, defaultValue, newarray.typeOf]) hn hN (by simp [newarray.typeOf, componentBytes]; omega) hc hs hd (fun q cA H1 hK1 hP1 hD1 hS1 => ?_)
  have e1 : s.vm.findClass ("[" ++ (FieldType.boolean).toString) = some cA := (hK1.2 3 (cA, .boolean) rfl).2
  have e2 : s.vm.findClass ("[" ++ (FieldType.boolean).toString) = some (x.2.2.1) := (hK.2 1 (x.2.2.1, .boolean) rfl).2
  have e3 : cA = x.2.2.1 := Option.some.inj (e1.symm.trans e2)
  subst e3
  exact k q H1 locs ls hP1 hD1 hS1 hl
theorem n_new_long (C : Cx (p, l, e, R, s, m, args, below, meth, c, A, nL, cells, slots, Q) x cc own c1 rm nL) {n : Int32} {N : Nat} (hn : ¬ n < 0) (hN : n.toNatClampNeg = N) (hbig : N ≤ 1000) (hc : cells + 1 ≤ rm.cells) (hs : slots + N ≤ rm.slots) (hd : decode cc pc = .ok (.newarray .long, 2)) (k : ∀ q : Nat, GG (p, l, e, R, s, m, args, below, meth, c, A, nL, cells + 1, slots + N, Q) x (w ++ [(q, .inl (x.2.2.2.1, (N, .inr (.inl (fun _ => 0)))))]) (pc + 2) lv (.ref q :: st)) : GG (p, l, e, R, s, m, args, below, meth, c, A, nL, cells, slots, Q) x w pc lv (.int n :: st) := by
  obtain ⟨hx, hb, hml, hown, hts, hK, hA, rfl, -, -, -⟩ := C
  intro H locs ls hP hD hS hl
  refine va_newa (atype := .long) (a0 := (N, .inr (.inl (fun _ => 0)))) hx hb (hts _ (List.mem_cons_of_mem _ mY_long)) rfl hK hP hD hS hA (fun cA => by first | rfl | simp [vp_cell, defaultValue, newarray.typeOf]) hn hN (by simp [newarray.typeOf, componentBytes]; omega) hc hs hd (fun q cA H1 hK1 hP1 hD1 hS1 => ?_)
  have e1 : s.vm.findClass ("[" ++ (FieldType.long).toString) = some cA := (hK1.2 3 (cA, .long) rfl).2
  have e2 : s.vm.findClass ("[" ++ (FieldType.long).toString) = some (x.2.2.2.1) := (hK.2 2 (x.2.2.2.1, .long) rfl).2
  have e3 : cA = x.2.2.2.1 := Option.some.inj (e1.symm.trans e2)
  subst e3
  exact k q H1 locs ls hP1 hD1 hS1 hl
theorem n_newobj (C : Cx (p, l, e, R, s, m, args, below, meth, c, A, nL, cells, slots, Q) x cc own c1 rm nL) {Cn : String} {T : u_T} {N ci idx : Nat} (hin : ∀ w ∈ u_ws Cn T N, w ∈ tb) (ty : Nat → FieldType) (hty : ∀ k, k < N → parseFieldDescriptor (T k).2.2.1 = some (ty k)) (hm : Cond.classLink own idx Cn ∈ tb) (ha : Cond.instantiable Cn N ∈ tb) (hi : Cond.initialized Cn ∈ tb) (hc : vwCl[ci]? = some (Cn, T, N)) {fs : List Value} (hfs : ∀ j, j < N → defaultValue (ty j) = vp_V fs j) (hcc : cells + 1 ≤ rm.cells) (hss : slots + N ≤ rm.slots) (hd : decode cc pc = .ok (.new idx, 3)) (k : ∀ q : Nat, GG (p, l, e, R, s, m, args, below, meth, c, A, nL, cells + 1, slots + N, Q) x (w ++ [(q, .inr (ci, fs))]) (pc + 3) lv (.ref q :: st)) : GG (p, l, e, R, s, m, args, below, meth, c, A, nL, cells, slots, Q) x w pc lv st := by
  obtain ⟨hx, hb, hml, hown, hts, hK, hA, rfl, -, -, -⟩ := C
  intro H locs ls hP hD hS hl
  exact va_new hx hb hts (fun w h => List.mem_cons_of_mem _ (hin w h)) ty hty hown (hts _ (List.mem_cons_of_mem _ hm)) (hts _ (List.mem_cons_of_mem _ ha)) (hts _ (List.mem_cons_of_mem _ hi)) hK hP hD hS hA hc hfs hcc hss hd (fun q H1 hP1 hD1 hS1 => k q H1 locs ls hP1 hD1 hS1 hl)
theorem n_putF (C : Cx (p, l, e, R, s, m, args, below, meth, c, A, nL, cells, slots, Q) x cc own c1 rm nL) (hme : meth.name = "<init>") {N ci idx : Nat} {T : u_T} {Cn : String} (q0 : Nat) {a : Nat} {fs : List Value} (he : w[q0]? = some (a, .inr (ci, fs))) (hc : vwCl[ci]? = some (Cn, T, N)) (hin : ∀ w ∈ u_ws Cn T N, w ∈ tb) (ty0 : Nat → FieldType) (hty : ∀ k, k < N → parseFieldDescriptor (T k).2.2.1 = some (ty0 k)) (hnm : ∀ a, a < N → ∀ b, b < N → a ≠ b → (T a).2.1 ≠ (T b).2.1) (j : Nat) (hj : j < N) (hm : Cond.fieldLink own idx Cn (T j).2.1 (T j).2.2.1 ∈ tb) (hsm : (T j).1 = Cn) (hdc : (T j).1 = own) (hfin : (T j).2.2.2 = true) {ty : FieldType} {v : Value} (hdt : parseFieldDescriptor (T j).2.2.1 = some ty) (hn : narrow ty v = v) (hfit : fits ty v = true) (hlen : j < fs.length) {w2 : va_W} (hw : w.set q0 (a, .inr (ci, fs.set j v)) = w2) (hd : decode cc pc = .ok (.putfield idx, 3)) (k : GG (p, l, e, R, s, m, args, below, meth, c, A, nL, cells, slots, Q) x w2 (pc + 3) lv st) : GG (p, l, e, R, s, m, args, below, meth, c, A, nL, cells, slots, Q) x w pc lv (v :: .ref a :: st) := by
  obtain ⟨hx, hb, hml, hown, hts, hK, hA, rfl, -, -, -⟩ := C
  intro H locs ls hP hD hS hl
  subst hw
  exact va_putF hx hb hts (fun w h => List.mem_cons_of_mem _ (hin w h)) ty0 hty hnm hown hK hP hD hS q0 he hc j hj (hts _ (List.mem_cons_of_mem _ hm)) (fun y h9 => by rw [hsm] at h9; exact h9) hfin hme hdc hdt hn hfit hlen hd (fun H1 locs1 hP1 hD1 hS1 => k H1 locs1 ls hP1 hD1 hS1 hl)
/-- a constructor's contract: what it makes lies at addresses that it tells -/
def MC (l : Launch) (x : Ad) (y : MethodName) (c1 : Cond) (rm : Room) (h0 : Nat) (w : va_W) (mc ms : Nat) (wU : (Nat → Nat) → va_W) : Prop :=
  ∀ sz : Nat, Met l y (c1 :: tb) rm (va_Pc [.ref h0] (preW x w sz)) (va_Qv (fun (_ : Nat → Nat) => True) (fun u t => va_P x.1 vwCl (wU u) t.heap ∧ va_K x.1 vwCl (tyx x) t ∧ va_D (va_A w sz) (wU u)) (va_A w sz)) mc ms (va_A w sz)
theorem n_ctor (C : Cx (p, l, e, R, s, m, args, below, meth, c, A, nL, cells, slots, Q) x cc own c1 rm nL) {y : MethodName} {cy : ByteArray} {ny idx mc ms a : Nat} {rm2 : Room} {w0 : va_W} {wU : (Nat → Nat) → va_W} (hM : MC l x y (Cond.code y cy ny none) rm2 a w0 mc ms wU) (hg : Cond.code y cy ny none ∈ tb) (hm : Cond.methodLink own idx y ∈ tb) (hi : Cond.instanceMethod y ∈ tb) (hini : Cond.initialized y.cls ∈ tb) (hy1 : y.name = "<init>") (hdd : y.cls ≠ "java/lang/invoke/MethodHandle" ∧ y.cls ≠ "java/lang/invoke/VarHandle" ∧ (parseMethodDescriptor y.desc).map (fun d => d.parameters.length) = some 0) (hrc : rm2.cells = mc) (hrs : rm2.slots = ms) (hR : rm2.frames + 1 ≤ rm.frames ∧ 8 + (ny + 11) + rm2.locals ≤ rm.locals) (hcc : cells + mc ≤ rm.cells) (hss : slots + ms ≤ rm.slots) (hst : (st.map fun v => v.category).sum ≤ 8) (hd : decode cc pc = .ok (.invokespecial idx, 3)) (k : ∀ u : Nat → Nat, GG (p, l, e, R, s, m, args, below, meth, c, A, nL, cells + mc, slots + ms, Q) x (w ++ wU u) (pc + 3) lv st) : GG (p, l, e, R, s, m, args, below, meth, c, A, nL, cells, slots, Q) x (w ++ w0) pc lv (.ref a :: st) := by
  obtain ⟨hx, hb, hml, hown, hts, hK, hA, rfl, hnl, -, -⟩ := C
  intro H locs ls hP hD hS hl
  have hF : ∀ q, va_A w0 H.size q → A q := by
    intro q h
    rcases h with ⟨k1, e1, h⟩ | h
    · exact (va_D_right hD).2 k1 _ h
    · exact hA q (Nat.le_trans hS.1 h)
  refine va_callv (va_runI (As := []) (rest := st) ⟨hx, hb, hml, hown, hts⟩ (hM H.size) (cwI 0 hts (tb_good _ hg) rfl hrc hrs (hts _ (List.mem_cons_of_mem _ hini)) (hts _ (List.mem_cons_of_mem _ hm)) (hts _ (List.mem_cons_of_mem _ hi)) hy1 hdd hR) ⟨pre_blind, fun U hU hW => ⟨rfl, by rw [hU], by rw [hU]; exact va_P_right hP, va_K.moved hW.alike hK, (va_D_right hD).weaken (fun _ _ _ _ => trivial)⟩⟩ rfl rfl (by exact hl.1) rfl (lv_room hst) hd ⟨hcc, hss⟩) hS (fun q _ h => hF q h) hF (fun u t H1 locs1 ht hvm hw hB hz1 hk1 hS1 => ?_)
  obtain ⟨hP1, hK1, hD1⟩ := hB
  rw [ht] at hP1
  obtain ⟨j1, j2⟩ := pj_suf hP hD hk1 hF hP1 hD1
  exact k u H1 locs1 ls j1 j2 hS1 hl
end CR
theorem met_C {l : Launch} {x : Ad} {y : MethodName} {cc : ByteArray} {nL h0 mc ms : Nat} {rm : Room} {w : va_W} {wU : (Nat → Nat) → va_W} (own : String) (hy : plainName y.cls = true) (ho : y.cls = own) (hin : y.name = "<init>") (hlen : 1 ≤ nL) (hcap : rm.cells = mc ∧ rm.slots = ms)
    (body : ∀ (p : Program) (e : Env) (s : State) (m : MethodId) (below : List Frame) (meth : Method) (c : Code) (A : Nat → Prop) (Q : State → Prop), Cx (p, l, e, rm, s, m, [Value.ref h0].toArray, below, meth, c, A, nL, 0, 0, Q) x cc own (Cond.code y cc nL none) rm nL → meth.name = "<init>" → (∀ (a b : Nat) (u : Nat → Nat), a ≤ mc → b ≤ ms → RV (p, l, e, rm, s, m, [Value.ref h0].toArray, below, meth, c, A, nL, a, b, Q) x cc (wU u)) → GG (p, l, e, rm, s, m, [Value.ref h0].toArray, below, meth, c, A, nL, 0, 0, Q) x w 0 [(0, .ref h0)] []) : MC l x y (Cond.code y cc nL none) rm h0 w mc ms wU := by
  intro sz
  refine Met.ofW (cc := cc) (maxL := nL) (ret := none) hy rfl ?_
  intro p e s m args below meth c s₁ B hml hv
  obtain ⟨rfl, hsz, hP, hK, hD0⟩ := hv
  have hts := atoms_spec (ws := Cond.code y cc nL none :: tb) B.pre
  have hown : s.vm.findClass own = some m.cls := by rw [← ho]; exact findClass_of_methodNamed B.named
  have hme : meth.name = "<init>" := (name_of_methodNamed B.named B.method).1.trans hin
  have hlocks := B.notSynchronized
  subst hsz
  have hD := hD0.self (sz := s.heap.size)
  have hA : ∀ q : Nat, s.heap.size ≤ q → va_A w s.heap.size q := fun q h => Or.inr h
  have hl := lv_entry [.ref h0] (n := nL) hlen
  rw [lg_entry_eq]
  refine body p e s m below meth c (va_A w s.heap.size) (MQ below _ [Value.ref h0].toArray s mc ms (va_A w s.heap.size)) ⟨B.exec, B.bytes, hml, hown, hts, hK, hA, rfl, rfl, Nat.zero_le _, Nat.zero_le _⟩ hme ?_ s.heap [] _ hP hD va_S.rf hl
  intro a b u ha hb H locs ls pc hP2 hD2 hS2 hd
  refine W.widen (k := mc) (n := ms) ha hb ?_
  exact W.vret B.exec B.bytes B.returns (fun t ht hW => ⟨⟨u, rfl, trivial, by rw [ht]; exact hP2, va_K.moved hW.alike hK, hD2⟩, hS2.F ht⟩) hS2.2.2 hd hlocks
