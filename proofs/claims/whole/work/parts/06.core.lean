abbrev Mem : Type := (Nat → Nat → Int32) × (Nat → Nat → Int64)
def up (S : Mem) (k i : Nat) (v : Int32) : Mem := (fun j => if j = k then upd (S.1 k) i v else S.1 j, S.2)
def upL (S : Mem) (k i : Nat) (v : Int64) : Mem := (S.1, fun j => if j = k then vp_updL (S.2 k) i v else S.2 j)
abbrev Ad : Type := va_G × ClassId × ClassId × ClassId × (Nat → Nat)
abbrev ax (x : Ad) (k : Nat) : Nat := x.2.2.2.2 k
abbrev tyx (x : Ad) : List (ClassId × FieldType) := [(x.2.1, .int), (x.2.2.1, .boolean), (x.2.2.2.1, .long)]
abbrev Kx : Type := Program × Launch × Env × Room × State × MethodId × Array Value × List Frame × Method × Code × (Nat → Prop) × Nat × Nat × Nat × (State → Prop)
/-- from every heap that holds the cells w, with these values in the places of the frame: the walk comes to its end -/
def GG (κ : Kx) (x : Ad) (w : va_W) (pc : Nat) (lv : List (Nat × Value)) (st : List Value) : Prop := match κ with
  | (p, l, e, R, s, m, args, below, meth, c, A, nL, cells, slots, Q) => ∀ (H : Heap) (locs : List Loc) (ls : Array Slot), va_P x.1 vwCl w H → va_D A w → va_S A s.heap H locs → lv_has ls nL lv → W p l e R s m args below meth c H locs cells slots Q (F0 m pc ls st)
def Cx (κ : Kx) (x : Ad) (cc : ByteArray) (own : String) (c1 : Cond) (rm : Room) (nL : Nat) : Prop := match κ with
  | (p, l, e, R, s, m, args, below, meth, c, A, nL', cells, slots, Q) => p.tables.exec = Jvm.exec ∧ c.code = cc ∧ c.maxLocals = nL ∧ s.vm.findClass own = some m.cls ∧ (∀ w ∈ c1 :: tb, w.before args s = true) ∧ va_K x.1 vwCl (tyx x) s ∧ (∀ q, s.heap.size ≤ q → A q) ∧ R = rm ∧ nL' = nL ∧ cells ≤ R.cells ∧ slots ≤ R.slots
/-- its ends: an int, nothing -/
def RI (κ : Kx) (x : Ad) (cc : ByteArray) (w : va_W) (v : Int32) : Prop := match κ with
  | (p, l, e, R, s, m, args, below, meth, c, A, nL, cells, slots, Q) => ∀ (H : Heap) (locs : List Loc) (ls : Array Slot) (pc : Nat), va_P x.1 vwCl w H → va_D A w → va_S A s.heap H locs → decode cc pc = .ok (.ireturn, 1) → W p l e R s m args below meth c H locs cells slots Q (F0 m pc ls [.int v])
def RV (κ : Kx) (x : Ad) (cc : ByteArray) (w : va_W) : Prop := match κ with
  | (p, l, e, R, s, m, args, below, meth, c, A, nL, cells, slots, Q) => ∀ (H : Heap) (locs : List Loc) (ls : Array Slot) (pc : Nat), va_P x.1 vwCl w H → va_D A w → va_S A s.heap H locs → decode cc pc = .ok (.return_, 1) → W p l e R s m args below meth c H locs cells slots Q (F0 m pc ls [])
/-- the words for Option functions: a test, a meeting of ways -/
def gd {α : Type} (b : Prop) [Decidable b] (y : Option α) : Option α := if b then y else none
theorem gd_some {α : Type} {b : Prop} [Decidable b] {y : Option α} {z : α} (h : gd b y = some z) : b ∧ y = some z := by
  unfold gd at h
  by_cases hb : b
  · rw [if_pos hb] at h; exact ⟨hb, h⟩
  · rw [if_neg hb] at h; cases h
theorem gd_pos {α : Type} {b : Prop} [Decidable b] {y : Option α} (h : b) : gd b y = y := if_pos h
def jn {α β : Type} (K : α → Option β) (B : (α → Option β) → Option β) : Option β := B K
theorem jn_elim {α β : Type} {K : α → Option β} {B : (α → Option β) → Option β} {z : β} {P : α → Prop} {G : Prop} (h : jn K B = some z) (hK : ∀ a, K a = some z → P a) (hB : ∀ j : α → Option β, (∀ a, j a = some z → P a) → B j = some z → G) : G := hB K hK h
def bd {α β : Type} (o : Option α) (k : α → Option β) : Option β := match o with
  | none => none
  | some a => k a
theorem bd_some {α β : Type} {o : Option α} {k : α → Option β} {z : β} (h : bd o k = some z) : ∃ a, o = some a ∧ k a = some z := by
  cases o with
  | none => cases h
  | some a => exact ⟨a, rfl, h⟩
abbrev iz (v : Int32) : Prop := v = 0 ∨ v = 1
theorem iz_narrow {v : Int32} (h : iz v) : narrow .boolean (.int v) = .int v := by rcases h with h | h <;> subst h <;> rfl
theorem iz_fits {v : Int32} (h : iz v) : fits .boolean (.int v) = true := by rcases h with h | h <;> subst h <;> rfl
theorem iz_nar {v : Int32} (h : iz v) : vp_nar .boolean v = v := by rcases h with h | h <;> subst h <;> rfl
section GR
variable {κ : Kx} {x : Ad} {cc : ByteArray} {own : String} {c1 : Cond} {rm : Room} {nL : Nat} {w : va_W} {pc : Nat} {lv : List (Nat × Value)} {st : List Value}
theorem g_iconst (C : Cx κ x cc own c1 rm nL) {n : Int} {v : Int32} (hv : Int32.ofInt n = v) (hd : decode cc pc = .ok (.iconst n, 1)) (k : GG κ x w (pc + 1) lv (.int v :: st)) : GG κ x w pc lv st := by
  obtain ⟨p, l, e, R, s, m, args, below, meth, c, A, nL2, cells, slots, Q⟩ := κ
  obtain ⟨hx, hb, hml, hown, hts, hK, hA, hR, hnL, -, -⟩ := C
  subst hnL
  intro H locs ls hP hD hS hl
  exact lv_iconst hx hb hd hv (k H locs ls hP hD hS hl)
theorem g_bipush (C : Cx κ x cc own c1 rm nL) {n : Int} {v : Int32} (hv : (Int8.ofInt n).toInt32 = v) (hd : decode cc pc = .ok (.bipush n, 2)) (k : GG κ x w (pc + 2) lv (.int v :: st)) : GG κ x w pc lv st := by
  obtain ⟨p, l, e, R, s, m, args, below, meth, c, A, nL2, cells, slots, Q⟩ := κ
  obtain ⟨hx, hb, hml, hown, hts, hK, hA, hR, hnL, -, -⟩ := C
  subst hnL
  intro H locs ls hP hD hS hl
  exact lv_bipush hx hb hd hv (k H locs ls hP hD hS hl)
theorem g_sipush (C : Cx κ x cc own c1 rm nL) {n : Int} {v : Int32} (hv : (Int16.ofInt n).toInt32 = v) (hd : decode cc pc = .ok (.sipush n, 3)) (k : GG κ x w (pc + 3) lv (.int v :: st)) : GG κ x w pc lv st := by
  obtain ⟨p, l, e, R, s, m, args, below, meth, c, A, nL2, cells, slots, Q⟩ := κ
  obtain ⟨hx, hb, hml, hown, hts, hK, hA, hR, hnL, -, -⟩ := C
  subst hnL
  intro H locs ls hP hD hS hl
  exact lv_sipush hx hb hd hv (k H locs ls hP hD hS hl)
theorem g_lconst (C : Cx κ x cc own c1 rm nL) {n : Fin 2} {v : Int64} (hv : Int64.ofNat (n : Nat) = v) (hd : decode cc pc = .ok (.lconst n, 1)) (k : GG κ x w (pc + 1) lv (.long v :: st)) : GG κ x w pc lv st := by
  obtain ⟨p, l, e, R, s, m, args, below, meth, c, A, nL2, cells, slots, Q⟩ := κ
  obtain ⟨hx, hb, hml, hown, hts, hK, hA, hR, hnL, -, -⟩ := C
  subst hnL
  intro H locs ls hP hD hS hl
  exact lv_lconst hx hb hd hv (k H locs ls hP hD hS hl)
theorem g_iload_n (C : Cx κ x cc own c1 rm nL) {j : Fin 4} {i : Nat} {y : Int32} (q : Nat) (hi : (j : Nat) = i) (hq : lv[q]? = some (i, .int y)) (hd : decode cc pc = .ok (.iload_n j, 1)) (k : GG κ x w (pc + 1) lv (.int y :: st)) : GG κ x w pc lv st := by
  obtain ⟨p, l, e, R, s, m, args, below, meth, c, A, nL2, cells, slots, Q⟩ := κ
  obtain ⟨hx, hb, hml, hown, hts, hK, hA, hR, hnL, -, -⟩ := C
  subst hnL
  intro H locs ls hP hD hS hl
  exact lv_iload_n hx hb hd hi (lv_at hl q hq) (k H locs ls hP hD hS hl)
theorem g_iload (C : Cx κ x cc own c1 rm nL) {i : Nat} {y : Int32} (q : Nat) (hq : lv[q]? = some (i, .int y)) (hd : decode cc pc = .ok (.iload i, 2)) (k : GG κ x w (pc + 2) lv (.int y :: st)) : GG κ x w pc lv st := by
  obtain ⟨p, l, e, R, s, m, args, below, meth, c, A, nL2, cells, slots, Q⟩ := κ
  obtain ⟨hx, hb, hml, hown, hts, hK, hA, hR, hnL, -, -⟩ := C
  subst hnL
  intro H locs ls hP hD hS hl
  exact lv_iload hx hb hd (lv_at hl q hq) (k H locs ls hP hD hS hl)
theorem g_istore_n (C : Cx κ x cc own c1 rm nL) {j : Fin 4} {i : Nat} {y : Int32} {lv2 : List (Nat × Value)} (hi : (j : Nat) = i) (hn : i < nL) (hf : (i, Value.int y) :: lv.filter (fun q => !(q.1 == i) && !(q.1 + 1 == i && q.2.category == 2)) = lv2) (hd : decode cc pc = .ok (.istore_n j, 1)) (k : GG κ x w (pc + 1) lv2 st) : GG κ x w pc lv (.int y :: st) := by
  obtain ⟨p, l, e, R, s, m, args, below, meth, c, A, nL2, cells, slots, Q⟩ := κ
  obtain ⟨hx, hb, hml, hown, hts, hK, hA, hR, hnL, -, -⟩ := C
  subst hnL
  intro H locs ls hP hD hS hl
  exact lv_istore_n hx hb hd hi hl hn hf (fun ls2 hl2 => k H locs ls2 hP hD hS hl2)
theorem g_istore (C : Cx κ x cc own c1 rm nL) {i : Nat} {y : Int32} {lv2 : List (Nat × Value)} (hn : i < nL) (hf : (i, Value.int y) :: lv.filter (fun q => !(q.1 == i) && !(q.1 + 1 == i && q.2.category == 2)) = lv2) (hd : decode cc pc = .ok (.istore i, 2)) (k : GG κ x w (pc + 2) lv2 st) : GG κ x w pc lv (.int y :: st) := by
  obtain ⟨p, l, e, R, s, m, args, below, meth, c, A, nL2, cells, slots, Q⟩ := κ
  obtain ⟨hx, hb, hml, hown, hts, hK, hA, hR, hnL, -, -⟩ := C
  subst hnL
  intro H locs ls hP hD hS hl
  exact lv_istore hx hb hd hl hn hf (fun ls2 hl2 => k H locs ls2 hP hD hS hl2)
theorem g_lload_n (C : Cx κ x cc own c1 rm nL) {j : Fin 4} {i : Nat} {y : Int64} (q : Nat) (hi : (j : Nat) = i) (hq : lv[q]? = some (i, .long y)) (hd : decode cc pc = .ok (.lload_n j, 1)) (k : GG κ x w (pc + 1) lv (.long y :: st)) : GG κ x w pc lv st := by
  obtain ⟨p, l, e, R, s, m, args, below, meth, c, A, nL2, cells, slots, Q⟩ := κ
  obtain ⟨hx, hb, hml, hown, hts, hK, hA, hR, hnL, -, -⟩ := C
  subst hnL
  intro H locs ls hP hD hS hl
  exact lv_lload_n hx hb hd hi (lv_at hl q hq) (k H locs ls hP hD hS hl)
theorem g_lload (C : Cx κ x cc own c1 rm nL) {i : Nat} {y : Int64} (q : Nat) (hq : lv[q]? = some (i, .long y)) (hd : decode cc pc = .ok (.lload i, 2)) (k : GG κ x w (pc + 2) lv (.long y :: st)) : GG κ x w pc lv st := by
  obtain ⟨p, l, e, R, s, m, args, below, meth, c, A, nL2, cells, slots, Q⟩ := κ
  obtain ⟨hx, hb, hml, hown, hts, hK, hA, hR, hnL, -, -⟩ := C
  subst hnL
  intro H locs ls hP hD hS hl
  exact lv_lload hx hb hd (lv_at hl q hq) (k H locs ls hP hD hS hl)
theorem g_lstore_n (C : Cx κ x cc own c1 rm nL) {j : Fin 4} {i : Nat} {y : Int64} {lv2 : List (Nat × Value)} (hi : (j : Nat) = i) (hn : i + 1 < nL) (hf : (i, Value.long y) :: lv.filter (fun q => !(q.1 == i) && (!(q.1 == i + 1) && !(q.1 + 1 == i && q.2.category == 2))) = lv2) (hd : decode cc pc = .ok (.lstore_n j, 1)) (k : GG κ x w (pc + 1) lv2 st) : GG κ x w pc lv (.long y :: st) := by
  obtain ⟨p, l, e, R, s, m, args, below, meth, c, A, nL2, cells, slots, Q⟩ := κ
  obtain ⟨hx, hb, hml, hown, hts, hK, hA, hR, hnL, -, -⟩ := C
  subst hnL
  intro H locs ls hP hD hS hl
  exact lv_lstore_n hx hb hd hi hl hn hf (fun ls2 hl2 => k H locs ls2 hP hD hS hl2)
theorem g_lstore (C : Cx κ x cc own c1 rm nL) {i : Nat} {y : Int64} {lv2 : List (Nat × Value)} (hn : i + 1 < nL) (hf : (i, Value.long y) :: lv.filter (fun q => !(q.1 == i) && (!(q.1 == i + 1) && !(q.1 + 1 == i && q.2.category == 2))) = lv2) (hd : decode cc pc = .ok (.lstore i, 2)) (k : GG κ x w (pc + 2) lv2 st) : GG κ x w pc lv (.long y :: st) := by
  obtain ⟨p, l, e, R, s, m, args, below, meth, c, A, nL2, cells, slots, Q⟩ := κ
  obtain ⟨hx, hb, hml, hown, hts, hK, hA, hR, hnL, -, -⟩ := C
  subst hnL
  intro H locs ls hP hD hS hl
  exact lv_lstore hx hb hd hl hn hf (fun ls2 hl2 => k H locs ls2 hP hD hS hl2)
theorem g_aload_n (C : Cx κ x cc own c1 rm nL) {j : Fin 4} {i : Nat} {y : Nat} (q : Nat) (hi : (j : Nat) = i) (hq : lv[q]? = some (i, .ref y)) (hd : decode cc pc = .ok (.aload_n j, 1)) (k : GG κ x w (pc + 1) lv (.ref y :: st)) : GG κ x w pc lv st := by
  obtain ⟨p, l, e, R, s, m, args, below, meth, c, A, nL2, cells, slots, Q⟩ := κ
  obtain ⟨hx, hb, hml, hown, hts, hK, hA, hR, hnL, -, -⟩ := C
  subst hnL
  intro H locs ls hP hD hS hl
  exact lv_aload_n hx hb hd hi (lv_at hl q hq) (k H locs ls hP hD hS hl)
theorem g_aload (C : Cx κ x cc own c1 rm nL) {i : Nat} {y : Nat} (q : Nat) (hq : lv[q]? = some (i, .ref y)) (hd : decode cc pc = .ok (.aload i, 2)) (k : GG κ x w (pc + 2) lv (.ref y :: st)) : GG κ x w pc lv st := by
  obtain ⟨p, l, e, R, s, m, args, below, meth, c, A, nL2, cells, slots, Q⟩ := κ
  obtain ⟨hx, hb, hml, hown, hts, hK, hA, hR, hnL, -, -⟩ := C
  subst hnL
  intro H locs ls hP hD hS hl
  exact lv_aload hx hb hd (lv_at hl q hq) (k H locs ls hP hD hS hl)
theorem g_astore_n (C : Cx κ x cc own c1 rm nL) {j : Fin 4} {i : Nat} {y : Nat} {lv2 : List (Nat × Value)} (hi : (j : Nat) = i) (hn : i < nL) (hf : (i, Value.ref y) :: lv.filter (fun q => !(q.1 == i) && !(q.1 + 1 == i && q.2.category == 2)) = lv2) (hd : decode cc pc = .ok (.astore_n j, 1)) (k : GG κ x w (pc + 1) lv2 st) : GG κ x w pc lv (.ref y :: st) := by
  obtain ⟨p, l, e, R, s, m, args, below, meth, c, A, nL2, cells, slots, Q⟩ := κ
  obtain ⟨hx, hb, hml, hown, hts, hK, hA, hR, hnL, -, -⟩ := C
  subst hnL
  intro H locs ls hP hD hS hl
  exact lv_astore_n hx hb hd hi hl hn hf (fun ls2 hl2 => k H locs ls2 hP hD hS hl2)
theorem g_astore (C : Cx κ x cc own c1 rm nL) {i : Nat} {y : Nat} {lv2 : List (Nat × Value)} (hn : i < nL) (hf : (i, Value.ref y) :: lv.filter (fun q => !(q.1 == i) && !(q.1 + 1 == i && q.2.category == 2)) = lv2) (hd : decode cc pc = .ok (.astore i, 2)) (k : GG κ x w (pc + 2) lv2 st) : GG κ x w pc lv (.ref y :: st) := by
  obtain ⟨p, l, e, R, s, m, args, below, meth, c, A, nL2, cells, slots, Q⟩ := κ
  obtain ⟨hx, hb, hml, hown, hts, hK, hA, hR, hnL, -, -⟩ := C
  subst hnL
  intro H locs ls hP hD hS hl
  exact lv_astore hx hb hd hl hn hf (fun ls2 hl2 => k H locs ls2 hP hD hS hl2)
theorem g_iinc (C : Cx κ x cc own c1 rm nL) {i : Nat} {n : Int} {y v : Int32} {lv2 : List (Nat × Value)} (q : Nat) (hq : lv[q]? = some (i, .int y)) (hv : y + Int32.ofInt n = v) (hn : i < nL) (hf : (i, Value.int v) :: lv.filter (fun q => !(q.1 == i) && !(q.1 + 1 == i && q.2.category == 2)) = lv2) (hd : decode cc pc = .ok (.iinc i n, 3)) (k : GG κ x w (pc + 3) lv2 st) : GG κ x w pc lv st := by
  obtain ⟨p, l, e, R, s, m, args, below, meth, c, A, nL2, cells, slots, Q⟩ := κ
  obtain ⟨hx, hb, hml, hown, hts, hK, hA, hR, hnL, -, -⟩ := C
  subst hnL
  intro H locs ls hP hD hS hl
  exact lv_iinc hx hb hd hl hq hv hn hf (fun ls2 hl2 => k H locs ls2 hP hD hS hl2)
theorem g_iadd (C : Cx κ x cc own c1 rm nL) {x1 y1 : Int32} (hd : decode cc pc = .ok (.iadd, 1)) (k : GG κ x w (pc + 1) lv (.int (x1 + y1) :: st)) : GG κ x w pc lv (.int y1 :: .int x1 :: st) := by
  obtain ⟨p, l, e, R, s, m, args, below, meth, c, A, nL2, cells, slots, Q⟩ := κ
  obtain ⟨hx, hb, hml, hown, hts, hK, hA, hR, hnL, -, -⟩ := C
  subst hnL
  intro H locs ls hP hD hS hl
  exact lv_iadd hx hb hd (k H locs ls hP hD hS hl)
theorem g_isub (C : Cx κ x cc own c1 rm nL) {x1 y1 : Int32} (hd : decode cc pc = .ok (.isub, 1)) (k : GG κ x w (pc + 1) lv (.int (x1 - y1) :: st)) : GG κ x w pc lv (.int y1 :: .int x1 :: st) := by
  obtain ⟨p, l, e, R, s, m, args, below, meth, c, A, nL2, cells, slots, Q⟩ := κ
  obtain ⟨hx, hb, hml, hown, hts, hK, hA, hR, hnL, -, -⟩ := C
  subst hnL
  intro H locs ls hP hD hS hl
  exact lv_isub hx hb hd (k H locs ls hP hD hS hl)
theorem g_imul (C : Cx κ x cc own c1 rm nL) {x1 y1 : Int32} (hd : decode cc pc = .ok (.imul, 1)) (k : GG κ x w (pc + 1) lv (.int (x1 * y1) :: st)) : GG κ x w pc lv (.int y1 :: .int x1 :: st) := by
  obtain ⟨p, l, e, R, s, m, args, below, meth, c, A, nL2, cells, slots, Q⟩ := κ
  obtain ⟨hx, hb, hml, hown, hts, hK, hA, hR, hnL, -, -⟩ := C
  subst hnL
  intro H locs ls hP hD hS hl
  exact lv_imul hx hb hd (k H locs ls hP hD hS hl)
theorem g_iand (C : Cx κ x cc own c1 rm nL) {x1 y1 : Int32} (hd : decode cc pc = .ok (.iand, 1)) (k : GG κ x w (pc + 1) lv (.int (x1 &&& y1) :: st)) : GG κ x w pc lv (.int y1 :: .int x1 :: st) := by
  obtain ⟨p, l, e, R, s, m, args, below, meth, c, A, nL2, cells, slots, Q⟩ := κ
  obtain ⟨hx, hb, hml, hown, hts, hK, hA, hR, hnL, -, -⟩ := C
  subst hnL
  intro H locs ls hP hD hS hl
  exact lv_iand hx hb hd (k H locs ls hP hD hS hl)
theorem g_ixor (C : Cx κ x cc own c1 rm nL) {x1 y1 : Int32} (hd : decode cc pc = .ok (.ixor, 1)) (k : GG κ x w (pc + 1) lv (.int (x1 ^^^ y1) :: st)) : GG κ x w pc lv (.int y1 :: .int x1 :: st) := by
  obtain ⟨p, l, e, R, s, m, args, below, meth, c, A, nL2, cells, slots, Q⟩ := κ
  obtain ⟨hx, hb, hml, hown, hts, hK, hA, hR, hnL, -, -⟩ := C
  subst hnL
  intro H locs ls hP hD hS hl
  exact lv_ixor hx hb hd (k H locs ls hP hD hS hl)
theorem g_irem (C : Cx κ x cc own c1 rm nL) {x1 y1 : Int32} (hne : ¬ y1 = 0) (hd : decode cc pc = .ok (.irem, 1)) (k : GG κ x w (pc + 1) lv (.int (x1 - x1 / y1 * y1) :: st)) : GG κ x w pc lv (.int y1 :: .int x1 :: st) := by
  obtain ⟨p, l, e, R, s, m, args, below, meth, c, A, nL2, cells, slots, Q⟩ := κ
  obtain ⟨hx, hb, hml, hown, hts, hK, hA, hR, hnL, -, -⟩ := C
  subst hnL
  intro H locs ls hP hD hS hl
  exact lv_irem hx hb hd hne (k H locs ls hP hD hS hl)
theorem g_ladd (C : Cx κ x cc own c1 rm nL) {x1 y1 : Int64} (hd : decode cc pc = .ok (.ladd, 1)) (k : GG κ x w (pc + 1) lv (.long (x1 + y1) :: st)) : GG κ x w pc lv (.long y1 :: .long x1 :: st) := by
  obtain ⟨p, l, e, R, s, m, args, below, meth, c, A, nL2, cells, slots, Q⟩ := κ
  obtain ⟨hx, hb, hml, hown, hts, hK, hA, hR, hnL, -, -⟩ := C
  subst hnL
  intro H locs ls hP hD hS hl
  exact lv_ladd hx hb hd (k H locs ls hP hD hS hl)
theorem g_i2l (C : Cx κ x cc own c1 rm nL) {x1 : Int32} (hd : decode cc pc = .ok (.i2l, 1)) (k : GG κ x w (pc + 1) lv (.long x1.toInt64 :: st)) : GG κ x w pc lv (.int x1 :: st) := by
  obtain ⟨p, l, e, R, s, m, args, below, meth, c, A, nL2, cells, slots, Q⟩ := κ
  obtain ⟨hx, hb, hml, hown, hts, hK, hA, hR, hnL, -, -⟩ := C
  subst hnL
  intro H locs ls hP hD hS hl
  exact lv_i2l hx hb hd rfl (k H locs ls hP hD hS hl)
theorem g_lcmp (C : Cx κ x cc own c1 rm nL) {x1 y1 : Int64} (hd : decode cc pc = .ok (.lcmp, 1)) (k : GG κ x w (pc + 1) lv (.int (lg_cmp x1 y1) :: st)) : GG κ x w pc lv (.long y1 :: .long x1 :: st) := by
  obtain ⟨p, l, e, R, s, m, args, below, meth, c, A, nL2, cells, slots, Q⟩ := κ
  obtain ⟨hx, hb, hml, hown, hts, hK, hA, hR, hnL, -, -⟩ := C
  subst hnL
  intro H locs ls hP hD hS hl
  exact W.lcmp hx hb hd (k H locs ls hP hD hS hl)
theorem g_dup (C : Cx κ x cc own c1 rm nL) {va : Value} (hva : va.category = 1) (hd : decode cc pc = .ok (.dup, 1)) (k : GG κ x w (pc + 1) lv (va :: va :: st)) : GG κ x w pc lv (va :: st) := by
  obtain ⟨p, l, e, R, s, m, args, below, meth, c, A, nL2, cells, slots, Q⟩ := κ
  obtain ⟨hx, hb, hml, hown, hts, hK, hA, hR, hnL, -, -⟩ := C
  subst hnL
  intro H locs ls hP hD hS hl
  exact lv_dup hx hb hd hva (k H locs ls hP hD hS hl)
theorem g_dup2 (C : Cx κ x cc own c1 rm nL) {va vb : Value} (hva : va.category = 1) (hvb : vb.category = 1) (hd : decode cc pc = .ok (.dup2, 1)) (k : GG κ x w (pc + 1) lv (va :: vb :: va :: vb :: st)) : GG κ x w pc lv (va :: vb :: st) := by
  obtain ⟨p, l, e, R, s, m, args, below, meth, c, A, nL2, cells, slots, Q⟩ := κ
  obtain ⟨hx, hb, hml, hown, hts, hK, hA, hR, hnL, -, -⟩ := C
  subst hnL
  intro H locs ls hP hD hS hl
  exact lv_dup2_11 hx hb hd hva hvb (k H locs ls hP hD hS hl)
theorem g_pop (C : Cx κ x cc own c1 rm nL) {va : Value} (hva : va.category = 1) (hd : decode cc pc = .ok (.pop, 1)) (k : GG κ x w (pc + 1) lv st) : GG κ x w pc lv (va :: st) := by
  obtain ⟨p, l, e, R, s, m, args, below, meth, c, A, nL2, cells, slots, Q⟩ := κ
  obtain ⟨hx, hb, hml, hown, hts, hK, hA, hR, hnL, -, -⟩ := C
  subst hnL
  intro H locs ls hP hD hS hl
  exact lv_pop hx hb hd hva (k H locs ls hP hD hS hl)
theorem g_goto (C : Cx κ x cc own c1 rm nL) {off : Int} (tgt : Nat) (ht : (pc : Int) + off = (tgt : Int)) (hd : decode cc pc = .ok (.goto off, 3)) (k : GG κ x w tgt lv st) : GG κ x w pc lv st := by
  obtain ⟨p, l, e, R, s, m, args, below, meth, c, A, nL2, cells, slots, Q⟩ := κ
  obtain ⟨hx, hb, hml, hown, hts, hK, hA, hR, hnL, -, -⟩ := C
  subst hnL
  intro H locs ls hP hD hS hl
  exact lv_goto hx hb hd ht (k H locs ls hP hD hS hl)
theorem g_if_eq (C : Cx κ x cc own c1 rm nL) {x1 : Int32} {off : Int} (tgt : Nat) (ht : (pc : Int) + off = (tgt : Int)) (hd : decode cc pc = .ok (.ifCond .eq off, 3)) (kt : x1 = 0 → GG κ x w tgt lv st) (kf : ¬ x1 = 0 → GG κ x w (pc + 3) lv st) : GG κ x w pc lv (.int x1 :: st) := by
  obtain ⟨p, l, e, R, s, m, args, below, meth, c, A, nL2, cells, slots, Q⟩ := κ
  obtain ⟨hx, hb, hml, hown, hts, hK, hA, hR, hnL, -, -⟩ := C
  subst hnL
  intro H locs ls hP hD hS hl
  exact lv_if_eq hx hb hd ht (fun h => kt h H locs ls hP hD hS hl) (fun h => kf h H locs ls hP hD hS hl)
theorem g_if_ne (C : Cx κ x cc own c1 rm nL) {x1 : Int32} {off : Int} (tgt : Nat) (ht : (pc : Int) + off = (tgt : Int)) (hd : decode cc pc = .ok (.ifCond .ne off, 3)) (kt : ¬ x1 = 0 → GG κ x w tgt lv st) (kf : x1 = 0 → GG κ x w (pc + 3) lv st) : GG κ x w pc lv (.int x1 :: st) := by
  obtain ⟨p, l, e, R, s, m, args, below, meth, c, A, nL2, cells, slots, Q⟩ := κ
  obtain ⟨hx, hb, hml, hown, hts, hK, hA, hR, hnL, -, -⟩ := C
  subst hnL
  intro H locs ls hP hD hS hl
  exact lv_if_ne hx hb hd ht (fun h => kt h H locs ls hP hD hS hl) (fun h => kf h H locs ls hP hD hS hl)
theorem g_if_lt (C : Cx κ x cc own c1 rm nL) {x1 : Int32} {off : Int} (tgt : Nat) (ht : (pc : Int) + off = (tgt : Int)) (hd : decode cc pc = .ok (.ifCond .lt off, 3)) (kt : x1 < 0 → GG κ x w tgt lv st) (kf : ¬ x1 < 0 → GG κ x w (pc + 3) lv st) : GG κ x w pc lv (.int x1 :: st) := by
  obtain ⟨p, l, e, R, s, m, args, below, meth, c, A, nL2, cells, slots, Q⟩ := κ
  obtain ⟨hx, hb, hml, hown, hts, hK, hA, hR, hnL, -, -⟩ := C
  subst hnL
  intro H locs ls hP hD hS hl
  exact lv_if_lt hx hb hd ht (fun h => kt h H locs ls hP hD hS hl) (fun h => kf h H locs ls hP hD hS hl)
theorem g_if_ge (C : Cx κ x cc own c1 rm nL) {x1 : Int32} {off : Int} (tgt : Nat) (ht : (pc : Int) + off = (tgt : Int)) (hd : decode cc pc = .ok (.ifCond .ge off, 3)) (kt : 0 ≤ x1 → GG κ x w tgt lv st) (kf : ¬ 0 ≤ x1 → GG κ x w (pc + 3) lv st) : GG κ x w pc lv (.int x1 :: st) := by
  obtain ⟨p, l, e, R, s, m, args, below, meth, c, A, nL2, cells, slots, Q⟩ := κ
  obtain ⟨hx, hb, hml, hown, hts, hK, hA, hR, hnL, -, -⟩ := C
  subst hnL
  intro H locs ls hP hD hS hl
  exact lv_if_ge hx hb hd ht (fun h => kt h H locs ls hP hD hS hl) (fun h => kf h H locs ls hP hD hS hl)
theorem g_if_gt (C : Cx κ x cc own c1 rm nL) {x1 : Int32} {off : Int} (tgt : Nat) (ht : (pc : Int) + off = (tgt : Int)) (hd : decode cc pc = .ok (.ifCond .gt off, 3)) (kt : 0 < x1 → GG κ x w tgt lv st) (kf : ¬ 0 < x1 → GG κ x w (pc + 3) lv st) : GG κ x w pc lv (.int x1 :: st) := by
  obtain ⟨p, l, e, R, s, m, args, below, meth, c, A, nL2, cells, slots, Q⟩ := κ
  obtain ⟨hx, hb, hml, hown, hts, hK, hA, hR, hnL, -, -⟩ := C
  subst hnL
  intro H locs ls hP hD hS hl
  exact lv_if_gt hx hb hd ht (fun h => kt h H locs ls hP hD hS hl) (fun h => kf h H locs ls hP hD hS hl)
theorem g_if_le (C : Cx κ x cc own c1 rm nL) {x1 : Int32} {off : Int} (tgt : Nat) (ht : (pc : Int) + off = (tgt : Int)) (hd : decode cc pc = .ok (.ifCond .le off, 3)) (kt : x1 ≤ 0 → GG κ x w tgt lv st) (kf : ¬ x1 ≤ 0 → GG κ x w (pc + 3) lv st) : GG κ x w pc lv (.int x1 :: st) := by
  obtain ⟨p, l, e, R, s, m, args, below, meth, c, A, nL2, cells, slots, Q⟩ := κ
  obtain ⟨hx, hb, hml, hown, hts, hK, hA, hR, hnL, -, -⟩ := C
  subst hnL
  intro H locs ls hP hD hS hl
  exact lv_if_le hx hb hd ht (fun h => kt h H locs ls hP hD hS hl) (fun h => kf h H locs ls hP hD hS hl)
theorem g_icmp_eq (C : Cx κ x cc own c1 rm nL) {x1 y1 : Int32} {off : Int} (tgt : Nat) (ht : (pc : Int) + off = (tgt : Int)) (hd : decode cc pc = .ok (.if_icmp .eq off, 3)) (kt : x1 = y1 → GG κ x w tgt lv st) (kf : ¬ x1 = y1 → GG κ x w (pc + 3) lv st) : GG κ x w pc lv (.int y1 :: .int x1 :: st) := by
  obtain ⟨p, l, e, R, s, m, args, below, meth, c, A, nL2, cells, slots, Q⟩ := κ
  obtain ⟨hx, hb, hml, hown, hts, hK, hA, hR, hnL, -, -⟩ := C
  subst hnL
  intro H locs ls hP hD hS hl
  exact lv_icmp_eq hx hb hd ht (fun h => kt h H locs ls hP hD hS hl) (fun h => kf h H locs ls hP hD hS hl)
theorem g_icmp_ne (C : Cx κ x cc own c1 rm nL) {x1 y1 : Int32} {off : Int} (tgt : Nat) (ht : (pc : Int) + off = (tgt : Int)) (hd : decode cc pc = .ok (.if_icmp .ne off, 3)) (kt : ¬ x1 = y1 → GG κ x w tgt lv st) (kf : x1 = y1 → GG κ x w (pc + 3) lv st) : GG κ x w pc lv (.int y1 :: .int x1 :: st) := by
  obtain ⟨p, l, e, R, s, m, args, below, meth, c, A, nL2, cells, slots, Q⟩ := κ
  obtain ⟨hx, hb, hml, hown, hts, hK, hA, hR, hnL, -, -⟩ := C
  subst hnL
  intro H locs ls hP hD hS hl
  exact lv_icmp_ne hx hb hd ht (fun h => kt h H locs ls hP hD hS hl) (fun h => kf h H locs ls hP hD hS hl)
theorem g_icmp_lt (C : Cx κ x cc own c1 rm nL) {x1 y1 : Int32} {off : Int} (tgt : Nat) (ht : (pc : Int) + off = (tgt : Int)) (hd : decode cc pc = .ok (.if_icmp .lt off, 3)) (kt : x1 < y1 → GG κ x w tgt lv st) (kf : ¬ x1 < y1 → GG κ x w (pc + 3) lv st) : GG κ x w pc lv (.int y1 :: .int x1 :: st) := by
  obtain ⟨p, l, e, R, s, m, args, below, meth, c, A, nL2, cells, slots, Q⟩ := κ
  obtain ⟨hx, hb, hml, hown, hts, hK, hA, hR, hnL, -, -⟩ := C
  subst hnL
  intro H locs ls hP hD hS hl
  exact lv_icmp_lt hx hb hd ht (fun h => kt h H locs ls hP hD hS hl) (fun h => kf h H locs ls hP hD hS hl)
theorem g_icmp_ge (C : Cx κ x cc own c1 rm nL) {x1 y1 : Int32} {off : Int} (tgt : Nat) (ht : (pc : Int) + off = (tgt : Int)) (hd : decode cc pc = .ok (.if_icmp .ge off, 3)) (kt : y1 ≤ x1 → GG κ x w tgt lv st) (kf : ¬ y1 ≤ x1 → GG κ x w (pc + 3) lv st) : GG κ x w pc lv (.int y1 :: .int x1 :: st) := by
  obtain ⟨p, l, e, R, s, m, args, below, meth, c, A, nL2, cells, slots, Q⟩ := κ
  obtain ⟨hx, hb, hml, hown, hts, hK, hA, hR, hnL, -, -⟩ := C
  subst hnL
  intro H locs ls hP hD hS hl
  exact lv_icmp_ge hx hb hd ht (fun h => kt h H locs ls hP hD hS hl) (fun h => kf h H locs ls hP hD hS hl)
theorem g_icmp_gt (C : Cx κ x cc own c1 rm nL) {x1 y1 : Int32} {off : Int} (tgt : Nat) (ht : (pc : Int) + off = (tgt : Int)) (hd : decode cc pc = .ok (.if_icmp .gt off, 3)) (kt : y1 < x1 → GG κ x w tgt lv st) (kf : ¬ y1 < x1 → GG κ x w (pc + 3) lv st) : GG κ x w pc lv (.int y1 :: .int x1 :: st) := by
  obtain ⟨p, l, e, R, s, m, args, below, meth, c, A, nL2, cells, slots, Q⟩ := κ
  obtain ⟨hx, hb, hml, hown, hts, hK, hA, hR, hnL, -, -⟩ := C
  subst hnL
  intro H locs ls hP hD hS hl
  exact lv_icmp_gt hx hb hd ht (fun h => kt h H locs ls hP hD hS hl) (fun h => kf h H locs ls hP hD hS hl)
theorem g_icmp_le (C : Cx κ x cc own c1 rm nL) {x1 y1 : Int32} {off : Int} (tgt : Nat) (ht : (pc : Int) + off = (tgt : Int)) (hd : decode cc pc = .ok (.if_icmp .le off, 3)) (kt : x1 ≤ y1 → GG κ x w tgt lv st) (kf : ¬ x1 ≤ y1 → GG κ x w (pc + 3) lv st) : GG κ x w pc lv (.int y1 :: .int x1 :: st) := by
  obtain ⟨p, l, e, R, s, m, args, below, meth, c, A, nL2, cells, slots, Q⟩ := κ
  obtain ⟨hx, hb, hml, hown, hts, hK, hA, hR, hnL, -, -⟩ := C
  subst hnL
  intro H locs ls hP hD hS hl
  exact lv_icmp_le hx hb hd ht (fun h => kt h H locs ls hP hD hS hl) (fun h => kf h H locs ls hP hD hS hl)
theorem g_ldc2 (C : Cx κ x cc own c1 rm nL) {idx : Nat} {v : Int64} (hm : Cond.constantLong own idx v ∈ tb) (hd : decode cc pc = .ok (.ldc2_w idx, 3)) (k : GG κ x w (pc + 3) lv (.long v :: st)) : GG κ x w pc lv st := by
  obtain ⟨p, l, e, R, s, m, args, below, meth, c, A, nL2, cells, slots, Q⟩ := κ
  obtain ⟨hx, hb, hml, hown, hts, hK, hA, hR, hnL, -, -⟩ := C
  subst hnL
  intro H locs ls hP hD hS hl
  exact lv_ldc2 hx hb hown (hts _ (List.mem_cons_of_mem _ hm)) hd (k H locs ls hP hD hS hl)
theorem g_get (C : Cx κ x cc own c1 rm nL) {N ci idx : Nat} {T : u_T} {Cn : String} (q0 : Nat) {a : Nat} {fs : List Value} (he : w[q0]? = some (a, .inr (ci, fs))) (hc : vwCl[ci]? = some (Cn, T, N)) (hin : ∀ w ∈ u_ws Cn T N, w ∈ tb) (j : Nat) (hj : j < N) (hm : Cond.fieldLink own idx Cn (T j).2.1 (T j).2.2.1 ∈ tb) (hsm : (T j).1 = Cn) {v : Value} (hv : fs[j]? = some v) (hd : decode cc pc = .ok (.getfield idx, 3)) (k : GG κ x w (pc + 3) lv (v :: st)) : GG κ x w pc lv (.ref a :: st) := by
  obtain ⟨p, l, e, R, s, m, args, below, meth, c, A, nL2, cells, slots, Q⟩ := κ
  obtain ⟨hx, hb, hml, hown, hts, hK, hA, hR, hnL, -, -⟩ := C
  subst hnL
  intro H locs ls hP hD hS hl
  exact va_get hx hb hts (fun w h => List.mem_cons_of_mem _ (hin w h)) hown hK hP q0 he hc j hj (hts _ (List.mem_cons_of_mem _ hm)) (fun y h9 => by rw [hsm] at h9; exact h9) hv hd (k H locs ls hP hD hS hl)
theorem g_put (C : Cx κ x cc own c1 rm nL) {N ci idx : Nat} {T : u_T} {Cn : String} (q0 : Nat) {a : Nat} {fs : List Value} (he : w[q0]? = some (a, .inr (ci, fs))) (hc : vwCl[ci]? = some (Cn, T, N)) (hin : ∀ w ∈ u_ws Cn T N, w ∈ tb) (ty0 : Nat → FieldType) (hty : ∀ k, k < N → parseFieldDescriptor (T k).2.2.1 = some (ty0 k)) (hnm : ∀ a, a < N → ∀ b, b < N → a ≠ b → (T a).2.1 ≠ (T b).2.1) (j : Nat) (hj : j < N) (hm : Cond.fieldLink own idx Cn (T j).2.1 (T j).2.2.1 ∈ tb) (hsm : (T j).1 = Cn) (hfin : (T j).2.2.2 = false) {ty : FieldType} {v : Value} (hdt : parseFieldDescriptor (T j).2.2.1 = some ty) (hn : narrow ty v = v) (hfit : fits ty v = true) (hlen : j < fs.length) {w2 : va_W} (hw : w.set q0 (a, .inr (ci, fs.set j v)) = w2) (hd : decode cc pc = .ok (.putfield idx, 3)) (k : GG κ x w2 (pc + 3) lv st) : GG κ x w pc lv (v :: .ref a :: st) := by
  obtain ⟨p, l, e, R, s, m, args, below, meth, c, A, nL2, cells, slots, Q⟩ := κ
  obtain ⟨hx, hb, hml, hown, hts, hK, hA, hR, hnL, -, -⟩ := C
  subst hnL
  intro H locs ls hP hD hS hl
  subst hw
  exact va_put hx hb hts (fun w h => List.mem_cons_of_mem _ (hin w h)) ty0 hty hnm hown hK hP hD hS q0 he hc j hj (hts _ (List.mem_cons_of_mem _ hm)) (fun y h9 => by rw [hsm] at h9; exact h9) hfin hdt hn hfit hlen hd (fun H1 locs1 hP1 hD1 hS1 => k H1 locs1 ls hP1 hD1 hS1 hl)
theorem g_iald (C : Cx κ x cc own c1 rm nL) {a n : Nat} {f : Nat → Int32} {i : Int32} (q0 : Nat) (ha : w[q0]? = some (a, .inl (x.2.1, n, .inl f))) (hin : vp_in i n) (hd : decode cc pc = .ok (.iaload, 1)) (k : GG κ x w (pc + 1) lv (.int (f i.toNatClampNeg) :: st)) : GG κ x w pc lv (.int i :: .ref a :: st) := by
  obtain ⟨p, l, e, R, s, m, args, below, meth, c, A, nL2, cells, slots, Q⟩ := κ
  obtain ⟨hx, hb, hml, hown, hts, hK, hA, hR, hnL, -, -⟩ := C
  subst hnL
  intro H locs ls hP hD hS hl
  exact va_iald hx hb hK hP q0 0 ha rfl hin hd (k H locs ls hP hD hS hl)
theorem g_zald (C : Cx κ x cc own c1 rm nL) {a n : Nat} {f : Nat → Int32} {i : Int32} (q0 : Nat) (ha : w[q0]? = some (a, .inl (x.2.2.1, n, .inl f))) (hin : vp_in i n) (hd : decode cc pc = .ok (.baload, 1)) (k : GG κ x w (pc + 1) lv (.int (f i.toNatClampNeg) :: st)) : GG κ x w pc lv (.int i :: .ref a :: st) := by
  obtain ⟨p, l, e, R, s, m, args, below, meth, c, A, nL2, cells, slots, Q⟩ := κ
  obtain ⟨hx, hb, hml, hown, hts, hK, hA, hR, hnL, -, -⟩ := C
  subst hnL
  intro H locs ls hP hD hS hl
  exact va_zald hx hb hK hP q0 1 ha rfl hin hd (k H locs ls hP hD hS hl)
theorem g_lald (C : Cx κ x cc own c1 rm nL) {a n : Nat} {f : Nat → Int64} {i : Int32} (q0 : Nat) (ha : w[q0]? = some (a, .inl (x.2.2.2.1, n, .inr (.inl f)))) (hin : vp_in i n) (hd : decode cc pc = .ok (.laload, 1)) (k : GG κ x w (pc + 1) lv (.long (f i.toNatClampNeg) :: st)) : GG κ x w pc lv (.int i :: .ref a :: st) := by
  obtain ⟨p, l, e, R, s, m, args, below, meth, c, A, nL2, cells, slots, Q⟩ := κ
  obtain ⟨hx, hb, hml, hown, hts, hK, hA, hR, hnL, -, -⟩ := C
  subst hnL
  intro H locs ls hP hD hS hl
  exact va_lald hx hb hK hP q0 2 ha rfl hin hd (k H locs ls hP hD hS hl)
theorem g_iast (C : Cx κ x cc own c1 rm nL) {a n : Nat} {f : Nat → Int32} {i : Int32} {v : Int32} (q0 : Nat) (ha : w[q0]? = some (a, .inl (x.2.1, n, .inl f))) (hin : vp_in i n) {w2 : va_W} (hw : w.set q0 (a, .inl (x.2.1, n, .inl (upd f i.toNatClampNeg v))) = w2) (hd : decode cc pc = .ok (.iastore, 1)) (k : GG κ x w2 (pc + 1) lv st) : GG κ x w pc lv (.int v :: .int i :: .ref a :: st) := by
  obtain ⟨p, l, e, R, s, m, args, below, meth, c, A, nL2, cells, slots, Q⟩ := κ
  obtain ⟨hx, hb, hml, hown, hts, hK, hA, hR, hnL, -, -⟩ := C
  subst hnL
  intro H locs ls hP hD hS hl
  subst hw
  exact va_iast hx hb hK hP hD hS q0 0 ha rfl hin hd (fun H1 locs1 hP1 hD1 hS1 => k H1 locs1 ls hP1 hD1 hS1 hl)
theorem g_zast (C : Cx κ x cc own c1 rm nL) {a n : Nat} {f : Nat → Int32} {i : Int32} {v : Int32} (q0 : Nat) (ha : w[q0]? = some (a, .inl (x.2.2.1, n, .inl f))) (hin : vp_in i n) (hz : vp_nar .boolean v = v) {w2 : va_W} (hw : w.set q0 (a, .inl (x.2.2.1, n, .inl (upd f i.toNatClampNeg v))) = w2) (hd : decode cc pc = .ok (.bastore, 1)) (k : GG κ x w2 (pc + 1) lv st) : GG κ x w pc lv (.int v :: .int i :: .ref a :: st) := by
  obtain ⟨p, l, e, R, s, m, args, below, meth, c, A, nL2, cells, slots, Q⟩ := κ
  obtain ⟨hx, hb, hml, hown, hts, hK, hA, hR, hnL, -, -⟩ := C
  subst hnL
  intro H locs ls hP hD hS hl
  subst hw
  refine va_zast hx hb hK hP hD hS q0 1 ha rfl hin hd (fun H1 locs1 hP1 hD1 hS1 => ?_)
  rw [hz] at hP1 hD1
  exact k H1 locs1 ls hP1 hD1 hS1 hl
theorem g_last (C : Cx κ x cc own c1 rm nL) {a n : Nat} {f : Nat → Int64} {i : Int32} {v : Int64} (q0 : Nat) (ha : w[q0]? = some (a, .inl (x.2.2.2.1, n, .inr (.inl f)))) (hin : vp_in i n) {w2 : va_W} (hw : w.set q0 (a, .inl (x.2.2.2.1, n, .inr (.inl (vp_updL f i.toNatClampNeg v)))) = w2) (hd : decode cc pc = .ok (.lastore, 1)) (k : GG κ x w2 (pc + 1) lv st) : GG κ x w pc lv (.long v :: .int i :: .ref a :: st) := by
  obtain ⟨p, l, e, R, s, m, args, below, meth, c, A, nL2, cells, slots, Q⟩ := κ
  obtain ⟨hx, hb, hml, hown, hts, hK, hA, hR, hnL, -, -⟩ := C
  subst hnL
  intro H locs ls hP hD hS hl
  subst hw
  exact va_last hx hb hK hP hD hS q0 2 ha rfl hin hd (fun H1 locs1 hP1 hD1 hS1 => k H1 locs1 ls hP1 hD1 hS1 hl)
theorem g_alen (C : Cx κ x cc own c1 rm nL) {a : Nat} {cA : ClassId} {ty : FieldType} {y : vp_A} {v : Int32} (q0 t0 : Nat) (ha : w[q0]? = some (a, .inl (cA, y))) (ht : (tyx x)[t0]? = some (cA, ty)) (hv : Int32.ofNat y.1 = v) (hd : decode cc pc = .ok (.arraylength, 1)) (k : GG κ x w (pc + 1) lv (.int v :: st)) : GG κ x w pc lv (.ref a :: st) := by
  obtain ⟨p, l, e, R, s, m, args, below, meth, c, A, nL2, cells, slots, Q⟩ := κ
  obtain ⟨hx, hb, hml, hown, hts, hK, hA, hR, hnL, -, -⟩ := C
  subst hnL
  intro H locs ls hP hD hS hl
  exact va_alen hx hb hK hP q0 t0 ha ht hv hd (k H locs ls hP hD hS hl)
theorem g_sub {lv2 : List (Nat × Value)} (ks : List Nat) (hk : lv_pick lv ks = lv2) (k : GG κ x w pc lv2 st) : GG κ x w pc lv st := by
  obtain ⟨p, l, e, R, s, m, args, below, meth, c, A, nL2, cells, slots, Q⟩ := κ
  intro H locs ls hP hD hS hl
  exact k H locs ls hP hD hS (lv_sub hl ks hk)
theorem g_iret {v : Int32} (hr : RI κ x cc w v) (hd : decode cc pc = .ok (.ireturn, 1)) : GG κ x w pc lv [.int v] := by
  obtain ⟨p, l, e, R, s, m, args, below, meth, c, A, nL2, cells, slots, Q⟩ := κ
  intro H locs ls hP hD hS hl
  exact hr H locs ls pc hP hD hS hd
theorem g_vret (hr : RV κ x cc w) (hd : decode cc pc = .ok (.return_, 1)) : GG κ x w pc lv [] := by
  obtain ⟨p, l, e, R, s, m, args, below, meth, c, A, nL2, cells, slots, Q⟩ := κ
  intro H locs ls hP hD hS hl
  exact hr H locs ls pc hP hD hS hd
end GR
theorem ofWF {l : Launch} {y : MethodName} {ws ws' : List Cond} {rm : Room} {Pc : Array Value → State → Prop} {Qc : Array Value → State → Outcome → State → Prop} {mc ms : Nat} {free : Addr → Prop} {cc : ByteArray} {maxL : Nat} {ret : Option FieldType}
    (hy : plainFor y = true) (hw : ws = Cond.code y cc maxL ret :: ws')
    (body : ∀ p e s m args below meth c s₁, BodyLoose p l y (headSpec ws rm) cc maxL ret e s m args below meth c s₁ → c.maxLocals = maxL → Pc args s →
      W p l e (headSpec ws rm).room s m args below meth c s.heap [] 0 0 (MQ below Qc args s mc ms free) (entryFrame m args maxL)) : Met l y ws rm Pc Qc mc ms free := by
  refine MetFree.of_bodySF (code := cc) (maxLocals := maxL) (ret := ret) hy ?_ ?_
  · intro args s m h hn
    obtain ⟨meth, c, h1, h2, h3, h4, h5, h6, -, -⟩ := Cond.code_spec hn (atoms_spec (ws := ws) h _ (by rw [hw]; exact List.mem_cons_self))
    exact ⟨meth, c, h1, h2, h3, h4, h5, h6⟩
  · intro p e s m args below meth c s₁ B hml hP _
    have hh0 : s₁.heap = s.heap := by rw [B.state]; rfl
    obtain ⟨t, a1, o, b1, b2, b3⟩ := body p e s m args below meth c s₁ B hml hP s₁ hh0 (Stand.of_body B)
    exact ⟨t, o, a1, b1, b2, ⟨b3.1, b3.2⟩⟩
/-- contracts over worlds: from the cells w, with these arguments, the method answers r, and the cells are w2 then -/
abbrev preW (x : Ad) (w : va_W) (sz : Nat) : State → Prop := fun U => U.heap.size = sz ∧ va_P x.1 vwCl w U.heap ∧ va_K x.1 vwCl (tyx x) U ∧ va_D (fun _ => True) w
abbrev postW (x : Ad) (w w2 : va_W) (sz : Nat) : Unit → State → Prop := fun _ t => va_P x.1 vwCl w2 t.heap ∧ va_K x.1 vwCl (tyx x) t ∧ va_D (va_A w sz) w2
def MI (l : Launch) (x : Ad) (y : MethodName) (c1 : Cond) (rm : Room) (As : List Value) (w : va_W) (r : Int32) (w2 : va_W) : Prop :=
  ∀ sz : Nat, Met l y (c1 :: tb) rm (va_Pc As (preW x w sz)) (va_Qi (fun (r2 : Int32) (_ : Unit) => r2 = r) (postW x w w2 sz) (va_A w sz)) 0 0 (va_A w sz)
def MV (l : Launch) (x : Ad) (y : MethodName) (c1 : Cond) (rm : Room) (As : List Value) (w : va_W) (w2 : va_W) : Prop :=
  ∀ sz : Nat, Met l y (c1 :: tb) rm (va_Pc As (preW x w sz)) (va_Qv (fun (_ : Unit) => True) (postW x w w2 sz) (va_A w sz)) 0 0 (va_A w sz)
theorem met_I {l : Launch} {x : Ad} {y : MethodName} {cc : ByteArray} {nL : Nat} {rm : Room} {As : List Value} {w w2 : va_W} {r : Int32} (own : String) (hy : plainFor y = true) (ho : y.cls = own) (hlen : (lg_sl As).length ≤ nL) (lv : List (Nat × Value)) (hlv : lv_args 0 As = lv)
    (body : ∀ κ : Kx, κ.2.1 = l → Cx κ x cc own (Cond.code y cc nL (some .int)) rm nL → RI κ x cc w2 r → GG κ x w 0 lv []) : MI l x y (Cond.code y cc nL (some .int)) rm As w r w2 := by
  intro sz
  refine ofWF (cc := cc) (maxL := nL) (ret := some .int) hy rfl ?_
  intro p e s m args below meth c s₁ B hml hv
  obtain ⟨rfl, hsz, hP, hK, hD0⟩ := hv
  have hts := atoms_spec (ws := Cond.code y cc nL (some .int) :: tb) B.pre
  have hown : s.vm.findClass own = some m.cls := by rw [← ho]; exact findClass_of_methodNamed B.named
  have hlocks := B.notSynchronized
  subst hsz
  have hD := hD0.self (sz := s.heap.size)
  have hA : ∀ q : Nat, s.heap.size ≤ q → va_A w s.heap.size q := fun q h => Or.inr h
  have hl := lv_entry As (n := nL) hlen
  rw [lg_entry_eq]
  have hl2 : lv_has _ nL lv := hlv ▸ hl
  refine body (p, l, e, rm, s, m, As.toArray, below, meth, c, va_A w s.heap.size, nL, 0, 0, MQ below _ As.toArray s 0 0 (va_A w s.heap.size)) rfl ⟨B.exec, B.bytes, hml, hown, hts, hK, hA, rfl, rfl, Nat.zero_le _, Nat.zero_le _⟩ ?_ s.heap [] _ hP hD va_S.rf hl2
  intro H locs ls pc hP2 hD2 hS2 hd
  exact W.iret (v := r) B.exec B.bytes B.returns (fun t ht hW => ⟨⟨r, (), rfl, rfl, by rw [ht]; exact hP2, va_K.moved hW.alike hK, hD2⟩, hS2.F ht⟩) hS2.2.2 hd hlocks
theorem met_Z {l : Launch} {x : Ad} {y : MethodName} {cc : ByteArray} {nL : Nat} {rm : Room} {As : List Value} {w w2 : va_W} {r : Int32} (own : String) (hy : plainFor y = true) (ho : y.cls = own) (hlen : (lg_sl As).length ≤ nL) (lv : List (Nat × Value)) (hlv : lv_args 0 As = lv)
    (body : ∀ κ : Kx, κ.2.1 = l → Cx κ x cc own (Cond.code y cc nL (some .boolean)) rm nL → (iz r → RI κ x cc w2 r) → GG κ x w 0 lv []) : MI l x y (Cond.code y cc nL (some .boolean)) rm As w r w2 := by
  intro sz
  refine ofWF (cc := cc) (maxL := nL) (ret := some .boolean) hy rfl ?_
  intro p e s m args below meth c s₁ B hml hv
  obtain ⟨rfl, hsz, hP, hK, hD0⟩ := hv
  have hts := atoms_spec (ws := Cond.code y cc nL (some .boolean) :: tb) B.pre
  have hown : s.vm.findClass own = some m.cls := by rw [← ho]; exact findClass_of_methodNamed B.named
  have hlocks := B.notSynchronized
  subst hsz
  have hD := hD0.self (sz := s.heap.size)
  have hA : ∀ q : Nat, s.heap.size ≤ q → va_A w s.heap.size q := fun q h => Or.inr h
  have hl := lv_entry As (n := nL) hlen
  rw [lg_entry_eq]
  have hl2 : lv_has _ nL lv := hlv ▸ hl
  refine body (p, l, e, rm, s, m, As.toArray, below, meth, c, va_A w s.heap.size, nL, 0, 0, MQ below _ As.toArray s 0 0 (va_A w s.heap.size)) rfl ⟨B.exec, B.bytes, hml, hown, hts, hK, hA, rfl, rfl, Nat.zero_le _, Nat.zero_le _⟩ ?_ s.heap [] _ hP hD va_S.rf hl2
  intro hz
  intro H locs ls pc hP2 hD2 hS2 hd
  exact W.zret (v := r) B.exec B.bytes B.returns (iz_narrow hz) (fun t ht hW => ⟨⟨r, (), rfl, rfl, by rw [ht]; exact hP2, va_K.moved hW.alike hK, hD2⟩, hS2.F ht⟩) hS2.2.2 hd hlocks
theorem met_V {l : Launch} {x : Ad} {y : MethodName} {cc : ByteArray} {nL : Nat} {rm : Room} {As : List Value} {w w2 : va_W} (own : String) (hy : plainFor y = true) (ho : y.cls = own) (hlen : (lg_sl As).length ≤ nL) (lv : List (Nat × Value)) (hlv : lv_args 0 As = lv)
    (body : ∀ κ : Kx, κ.2.1 = l → Cx κ x cc own (Cond.code y cc nL (none)) rm nL → RV κ x cc w2 → GG κ x w 0 lv []) : MV l x y (Cond.code y cc nL (none)) rm As w w2 := by
  intro sz
  refine ofWF (cc := cc) (maxL := nL) (ret := none) hy rfl ?_
  intro p e s m args below meth c s₁ B hml hv
  obtain ⟨rfl, hsz, hP, hK, hD0⟩ := hv
  have hts := atoms_spec (ws := Cond.code y cc nL (none) :: tb) B.pre
  have hown : s.vm.findClass own = some m.cls := by rw [← ho]; exact findClass_of_methodNamed B.named
  have hlocks := B.notSynchronized
  subst hsz
  have hD := hD0.self (sz := s.heap.size)
  have hA : ∀ q : Nat, s.heap.size ≤ q → va_A w s.heap.size q := fun q h => Or.inr h
  have hl := lv_entry As (n := nL) hlen
  rw [lg_entry_eq]
  have hl2 : lv_has _ nL lv := hlv ▸ hl
  refine body (p, l, e, rm, s, m, As.toArray, below, meth, c, va_A w s.heap.size, nL, 0, 0, MQ below _ As.toArray s 0 0 (va_A w s.heap.size)) rfl ⟨B.exec, B.bytes, hml, hown, hts, hK, hA, rfl, rfl, Nat.zero_le _, Nat.zero_le _⟩ ?_ s.heap [] _ hP hD va_S.rf hl2
  intro H locs ls pc hP2 hD2 hS2 hd
  exact W.vret B.exec B.bytes B.returns (fun t ht hW => ⟨⟨(), rfl, trivial, by rw [ht]; exact hP2, va_K.moved hW.alike hK, hD2⟩, hS2.F ht⟩) hS2.2.2 hd hlocks
section GC
variable {κ : Kx} {x : Ad} {cc : ByteArray} {own : String} {c1 : Cond} {rm : Room} {nL : Nat} {w : va_W} {pc : Nat} {lv : List (Nat × Value)} {st : List Value}
theorem pre_blind {x : Ad} {w : va_W} {sz : Nat} {As : List Value} : FrameBlind (va_Pc As (preW x w sz)) := fun a U g mk q => by
  obtain ⟨q0, q1, qP, qK, qD⟩ := q
  exact ⟨q0, q1, qP, va_K.moved (u := U) (U := U.calling g mk a) (Vm.Alike.refl U.vm) qK, qD⟩
theorem g_callVI (C : Cx κ x cc own c1 rm nL) {y : MethodName} {cy : ByteArray} {ny n idx a : Nat} {ry : Option FieldType} {rm2 : Room} {As : List Value} {w2 : va_W} {r : Int32} {C2 : String} (hM : MI κ.2.1 x y (Cond.code y cy ny ry) rm2 (.ref a :: As) w r w2) (hg : GoodIn (c1 :: tb) (wsV own idx C2 y (Cond.code y cy ny ry :: tb))) (hdd : y.cls = C2 ∧ y.cls ≠ "java/lang/invoke/MethodHandle" ∧ y.cls ≠ "java/lang/invoke/VarHandle" ∧ (parseMethodDescriptor y.desc).map (fun d => d.parameters.length) = some n) (hrc : rm2.cells = 0) (hrs : rm2.slots = 0) (hR : rm2.frames + 1 ≤ rm.frames ∧ 8 + (ny + 11) + rm2.locals ≤ rm.locals) (q0 ci : Nat) {fs : List Value} {T2 : u_T} {N2 : Nat} (he : w[q0]? = some (a, .inr (ci, fs))) (hc : vwCl[ci]? = some (C2, T2, N2)) (hn : As.length = n) (hst : (st.map fun v => v.category).sum ≤ 8) (hd : decode cc pc = .ok (.invokevirtual idx, 3)) {st0 : List Value} (h0 : st0 = As.reverse ++ .ref a :: st) (k : GG κ x w2 (pc + 3) lv (.int r :: st)) : GG κ x w pc lv st0 := by
  obtain ⟨p, l, e, R, s, m, args, below, meth, c, A, nL2, cells, slots, Q⟩ := κ
  obtain ⟨hx, hb, hml, hown, hts, hK, hA, rfl, rfl, capC, capS⟩ := C
  subst h0
  intro H locs ls hP hD hS hl
  have hF : ∀ q, va_A w H.size q → A q := by
    intro q h
    rcases h with ⟨k1, e1, h⟩ | h
    · exact hD.2 k1 _ h
    · exact hA q (Nat.le_trans hS.1 h)
  refine va_calli (va_runV (As := As) (rest := st) ⟨hx, hb, hml, hown, hts⟩ (hM H.size) (cwV n hts hg rfl hrc hrs hdd hR) ⟨pre_blind, va_recv hK hP (ci := ci) (q0 := q0) hc he, fun U hU hW => ⟨rfl, by rw [hU], by rw [hU]; exact hP, va_K.moved hW.alike hK, hD.weaken (fun _ _ _ _ => trivial)⟩⟩ rfl hn hl.1 rfl (lv_room hst) hd ⟨by rw [Nat.add_zero]; exact capC, by rw [Nat.add_zero]; exact capS⟩) hS (fun q _ h => hF q h) hF (fun r2 u t H1 locs1 ht hvm hw hB hz1 hk1 hS1 => ?_)
  obtain ⟨hP1, hK1, hD1⟩ := hB
  rw [ht] at hP1
  subst hw
  exact k H1 locs1 ls hP1 (hD1.weaken (fun _ _ _ h => hF _ h)) hS1 hl
theorem g_callSI (C : Cx κ x cc own c1 rm nL) {y : MethodName} {cy : ByteArray} {ny n idx : Nat} {ry : Option FieldType} {rm2 : Room} {As : List Value} {w2 : va_W} {r : Int32} (hM : MI κ.2.1 x y (Cond.code y cy ny ry) rm2 As w r w2) (hg : GoodIn (c1 :: tb) (va_wsS own idx y (Cond.code y cy ny ry :: tb))) (hdd : y.cls ≠ "java/lang/invoke/MethodHandle" ∧ y.cls ≠ "java/lang/invoke/VarHandle" ∧ (parseMethodDescriptor y.desc).map (fun d => d.parameters.length) = some n) (hrc : rm2.cells = 0) (hrs : rm2.slots = 0) (hR : rm2.frames + 1 ≤ rm.frames ∧ 8 + (ny + 11) + rm2.locals ≤ rm.locals) (hn : As.length = n) (hst : (st.map fun v => v.category).sum ≤ 8) (hd : decode cc pc = .ok (.invokestatic idx, 3)) {st0 : List Value} (h0 : st0 = As.reverse ++ st) (k : GG κ x w2 (pc + 3) lv (.int r :: st)) : GG κ x w pc lv st0 := by
  obtain ⟨p, l, e, R, s, m, args, below, meth, c, A, nL2, cells, slots, Q⟩ := κ
  obtain ⟨hx, hb, hml, hown, hts, hK, hA, rfl, rfl, capC, capS⟩ := C
  subst h0
  intro H locs ls hP hD hS hl
  have hF : ∀ q, va_A w H.size q → A q := by
    intro q h
    rcases h with ⟨k1, e1, h⟩ | h
    · exact hD.2 k1 _ h
    · exact hA q (Nat.le_trans hS.1 h)
  refine va_calli (va_runS (As := As) (rest := st) ⟨hx, hb, hml, hown, hts⟩ (hM H.size) (va_cwS n hts hg rfl hrc hrs hdd hR) ⟨pre_blind, fun U hU hW => ⟨rfl, by rw [hU], by rw [hU]; exact hP, va_K.moved hW.alike hK, hD.weaken (fun _ _ _ _ => trivial)⟩⟩ rfl hn hl.1 rfl (lv_room hst) hd ⟨by rw [Nat.add_zero]; exact capC, by rw [Nat.add_zero]; exact capS⟩) hS (fun q _ h => hF q h) hF (fun r2 u t H1 locs1 ht hvm hw hB hz1 hk1 hS1 => ?_)
  obtain ⟨hP1, hK1, hD1⟩ := hB
  rw [ht] at hP1
  subst hw
  exact k H1 locs1 ls hP1 (hD1.weaken (fun _ _ _ h => hF _ h)) hS1 hl
theorem g_callVV (C : Cx κ x cc own c1 rm nL) {y : MethodName} {cy : ByteArray} {ny n idx a : Nat} {ry : Option FieldType} {rm2 : Room} {As : List Value} {w2 : va_W} {C2 : String} (hM : MV κ.2.1 x y (Cond.code y cy ny ry) rm2 (.ref a :: As) w w2) (hg : GoodIn (c1 :: tb) (wsV own idx C2 y (Cond.code y cy ny ry :: tb))) (hdd : y.cls = C2 ∧ y.cls ≠ "java/lang/invoke/MethodHandle" ∧ y.cls ≠ "java/lang/invoke/VarHandle" ∧ (parseMethodDescriptor y.desc).map (fun d => d.parameters.length) = some n) (hrc : rm2.cells = 0) (hrs : rm2.slots = 0) (hR : rm2.frames + 1 ≤ rm.frames ∧ 8 + (ny + 11) + rm2.locals ≤ rm.locals) (q0 ci : Nat) {fs : List Value} {T2 : u_T} {N2 : Nat} (he : w[q0]? = some (a, .inr (ci, fs))) (hc : vwCl[ci]? = some (C2, T2, N2)) (hn : As.length = n) (hst : (st.map fun v => v.category).sum ≤ 8) (hd : decode cc pc = .ok (.invokevirtual idx, 3)) {st0 : List Value} (h0 : st0 = As.reverse ++ .ref a :: st) (k : GG κ x w2 (pc + 3) lv (st)) : GG κ x w pc lv st0 := by
  obtain ⟨p, l, e, R, s, m, args, below, meth, c, A, nL2, cells, slots, Q⟩ := κ
  obtain ⟨hx, hb, hml, hown, hts, hK, hA, rfl, rfl, capC, capS⟩ := C
  subst h0
  intro H locs ls hP hD hS hl
  have hF : ∀ q, va_A w H.size q → A q := by
    intro q h
    rcases h with ⟨k1, e1, h⟩ | h
    · exact hD.2 k1 _ h
    · exact hA q (Nat.le_trans hS.1 h)
  refine va_callv (va_runV (As := As) (rest := st) ⟨hx, hb, hml, hown, hts⟩ (hM H.size) (cwV n hts hg rfl hrc hrs hdd hR) ⟨pre_blind, va_recv hK hP (ci := ci) (q0 := q0) hc he, fun U hU hW => ⟨rfl, by rw [hU], by rw [hU]; exact hP, va_K.moved hW.alike hK, hD.weaken (fun _ _ _ _ => trivial)⟩⟩ rfl hn hl.1 rfl (lv_room hst) hd ⟨by rw [Nat.add_zero]; exact capC, by rw [Nat.add_zero]; exact capS⟩) hS (fun q _ h => hF q h) hF (fun u t H1 locs1 ht hvm hw hB hz1 hk1 hS1 => ?_)
  obtain ⟨hP1, hK1, hD1⟩ := hB
  rw [ht] at hP1
  exact k H1 locs1 ls hP1 (hD1.weaken (fun _ _ _ h => hF _ h)) hS1 hl
theorem g_callSV (C : Cx κ x cc own c1 rm nL) {y : MethodName} {cy : ByteArray} {ny n idx : Nat} {ry : Option FieldType} {rm2 : Room} {As : List Value} {w2 : va_W} (hM : MV κ.2.1 x y (Cond.code y cy ny ry) rm2 As w w2) (hg : GoodIn (c1 :: tb) (va_wsS own idx y (Cond.code y cy ny ry :: tb))) (hdd : y.cls ≠ "java/lang/invoke/MethodHandle" ∧ y.cls ≠ "java/lang/invoke/VarHandle" ∧ (parseMethodDescriptor y.desc).map (fun d => d.parameters.length) = some n) (hrc : rm2.cells = 0) (hrs : rm2.slots = 0) (hR : rm2.frames + 1 ≤ rm.frames ∧ 8 + (ny + 11) + rm2.locals ≤ rm.locals) (hn : As.length = n) (hst : (st.map fun v => v.category).sum ≤ 8) (hd : decode cc pc = .ok (.invokestatic idx, 3)) {st0 : List Value} (h0 : st0 = As.reverse ++ st) (k : GG κ x w2 (pc + 3) lv (st)) : GG κ x w pc lv st0 := by
  obtain ⟨p, l, e, R, s, m, args, below, meth, c, A, nL2, cells, slots, Q⟩ := κ
  obtain ⟨hx, hb, hml, hown, hts, hK, hA, rfl, rfl, capC, capS⟩ := C
  subst h0
  intro H locs ls hP hD hS hl
  have hF : ∀ q, va_A w H.size q → A q := by
    intro q h
    rcases h with ⟨k1, e1, h⟩ | h
    · exact hD.2 k1 _ h
    · exact hA q (Nat.le_trans hS.1 h)
  refine va_callv (va_runS (As := As) (rest := st) ⟨hx, hb, hml, hown, hts⟩ (hM H.size) (va_cwS n hts hg rfl hrc hrs hdd hR) ⟨pre_blind, fun U hU hW => ⟨rfl, by rw [hU], by rw [hU]; exact hP, va_K.moved hW.alike hK, hD.weaken (fun _ _ _ _ => trivial)⟩⟩ rfl hn hl.1 rfl (lv_room hst) hd ⟨by rw [Nat.add_zero]; exact capC, by rw [Nat.add_zero]; exact capS⟩) hS (fun q _ h => hF q h) hF (fun u t H1 locs1 ht hvm hw hB hz1 hk1 hS1 => ?_)
  obtain ⟨hP1, hK1, hD1⟩ := hB
  rw [ht] at hP1
  exact k H1 locs1 ls hP1 (hD1.weaken (fun _ _ _ h => hF _ h)) hS1 hl
end GC
