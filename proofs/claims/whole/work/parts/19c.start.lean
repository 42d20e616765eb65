theorem lt_t (i : Nat) {w : Cond} (h : tables_1[i]? = some w) : w ∈ lw_tbl := List.mem_append_right _ (List.mem_of_getElem? h)
set_option maxRecDepth 100000 in
theorem arr_of {args : Array Value} {s : State} {ty : FieldType} (hn : ∀ C, ty ≠ .object C) (h : (Cond.arrayClass ty).before args s = true) : ∃ cA, ArrOfT s cA ty ∧ va_RA s cA ty := by
  obtain ⟨cA, kA, comp, h1, h2, h3⟩ := Cond.arrayClass_spec h
  refine ⟨cA, fun n z => ⟨fun k h => (by cases h), kA, h2, comp, h3⟩, ?_⟩
  cases ty with
  | object C => exact absurd rfl (hn C)
  | _ => exact h1
set_option maxRecDepth 100000 in
set_option maxHeartbeats 4000000 in
theorem xs_start {s : State} {b : Nat} (hts : ∀ w ∈ lw_tbl, w.before #[Value.ref b] s = true) (hgv : (Jvm.Cond.and given_1 narrow_1).before #[Value.ref b] s = true) : XS (fun q : Nat => s.heap.size ≤ q) s s.heap := by
  have hq := flat_of_before _ hgv
  have hA : ∀ a : Nat, a < s.heap.size → ¬ (fun q : Nat => s.heap.size ≤ q) a := fun a h => Nat.not_le.mpr h
  refine ⟨vx_Zqof (hts _ (lt_t 476 (by decide +kernel))) (hts _ (lt_t 8 (by decide +kernel))) (hq _ (by decide +kernel)) hA, vx_Zqof (hts _ (lt_t 478 (by decide +kernel))) (hts _ (lt_t 8 (by decide +kernel))) (hq _ (by decide +kernel)) hA, ?_, ?_, ?_, va_Nc.of (hq _ (by decide +kernel))⟩
  · intro q hq2
    simp only [strl, List.mem_cons, List.not_mem_nil, or_false] at hq2
    rcases hq2 with e | e | e | e | e | e | e | e | e
    · rw [e]
      obtain ⟨a, c, cA, kA, q1, -⟩ := Cond.exactly_spec (args := #[Value.ref b]) (first := s) (o := none) (s := s) (idx := []) (t := .string "PagedTree" 75) (cls := "java/lang/String") (hq _ (by decide +kernel))
      exact ⟨a, vk_R.of (A := #[Value.ref b]) (hts _ (lt_t 492 (by decide +kernel))) q1⟩
    · rw [e]
      obtain ⟨a, c, cA, kA, q1, -⟩ := Cond.exactly_spec (args := #[Value.ref b]) (first := s) (o := none) (s := s) (idx := []) (t := .string "PagedTree" 105) (cls := "java/lang/String") (hq _ (by decide +kernel))
      exact ⟨a, vk_R.of (A := #[Value.ref b]) (hts _ (lt_t 557 (by decide +kernel))) q1⟩
    · rw [e]
      obtain ⟨a, c, cA, kA, q1, -⟩ := Cond.exactly_spec (args := #[Value.ref b]) (first := s) (o := none) (s := s) (idx := []) (t := .string "PagedTree" 121) (cls := "java/lang/String") (hq _ (by decide +kernel))
      exact ⟨a, vk_R.of (A := #[Value.ref b]) (hts _ (lt_t 571 (by decide +kernel))) q1⟩
    · rw [e]
      obtain ⟨a, c, cA, kA, q1, -⟩ := Cond.exactly_spec (args := #[Value.ref b]) (first := s) (o := none) (s := s) (idx := []) (t := .string "PagedTree" 144) (cls := "java/lang/String") (hq _ (by decide +kernel))
      exact ⟨a, vk_R.of (A := #[Value.ref b]) (hts _ (lt_t 597 (by decide +kernel))) q1⟩
    · rw [e]
      obtain ⟨a, c, cA, kA, q1, -⟩ := Cond.exactly_spec (args := #[Value.ref b]) (first := s) (o := none) (s := s) (idx := []) (t := .string "PagedTree" 156) (cls := "java/lang/String") (hq _ (by decide +kernel))
      exact ⟨a, vk_R.of (A := #[Value.ref b]) (hts _ (lt_t 627 (by decide +kernel))) q1⟩
    · rw [e]
      obtain ⟨a, c, cA, kA, q1, -⟩ := Cond.exactly_spec (args := #[Value.ref b]) (first := s) (o := none) (s := s) (idx := []) (t := .string "PagedTree" 171) (cls := "java/lang/String") (hq _ (by decide +kernel))
      exact ⟨a, vk_R.of (A := #[Value.ref b]) (hts _ (lt_t 643 (by decide +kernel))) q1⟩
    · rw [e]
      obtain ⟨a, c, cA, kA, q1, -⟩ := Cond.exactly_spec (args := #[Value.ref b]) (first := s) (o := none) (s := s) (idx := []) (t := .string "PagedTree" 174) (cls := "java/lang/String") (hq _ (by decide +kernel))
      exact ⟨a, vk_R.of (A := #[Value.ref b]) (hts _ (lt_t 657 (by decide +kernel))) q1⟩
    · rw [e]
      obtain ⟨a, c, cA, kA, q1, -⟩ := Cond.exactly_spec (args := #[Value.ref b]) (first := s) (o := none) (s := s) (idx := []) (t := .string "PagedTree" 182) (cls := "java/lang/String") (hq _ (by decide +kernel))
      exact ⟨a, vk_R.of (A := #[Value.ref b]) (hts _ (lt_t 666 (by decide +kernel))) q1⟩
    · rw [e]
      obtain ⟨a, c, cA, kA, q1, -⟩ := Cond.exactly_spec (args := #[Value.ref b]) (first := s) (o := none) (s := s) (idx := []) (t := .string "PagedTree" 193) (cls := "java/lang/String") (hq _ (by decide +kernel))
      exact ⟨a, vk_R.of (A := #[Value.ref b]) (hts _ (lt_t 679 (by decide +kernel))) q1⟩
  · intro E hE
    simp only [exs, List.mem_cons, List.not_mem_nil, or_false] at hE
    rcases hE with e | e | e | e | e
    · rw [e]; exact va_Nw.of rfl (hts _ (lt_t 451 (by decide +kernel)))
    · rw [e]; exact va_Nw.of rfl (hts _ (lt_t 550 (by decide +kernel)))
    · rw [e]; exact va_Nw.of rfl (hts _ (lt_t 590 (by decide +kernel)))
    · rw [e]; exact va_Nw.of rfl (hts _ (lt_t 620 (by decide +kernel)))
    · rw [e]; exact va_Nw.of rfl (hts _ (lt_t 636 (by decide +kernel)))
  · intro y hy
    simp only [dcs, List.mem_cons, List.not_mem_nil, or_false] at hy
    rcases hy with e | e | e
    · rw [e]; exact va_Nw.of rfl (hts _ (lt_t 453 (by decide +kernel)))
    · rw [e]; exact va_Nw.of rfl (hts _ (lt_t 455 (by decide +kernel)))
    · rw [e]; exact va_Nw.of rfl (hts _ (lt_t 457 (by decide +kernel)))
set_option maxHeartbeats 40000000 in
set_option maxRecDepth 100000 in
/-- the law from its entry, over what the pure part gives: the makers' results, and the law's own function -/
theorem start_of {p : Program} {e : Env} {s : State} {m : MethodId} {below : List Frame} {meth : Method} {c : Code} (l : Launch) (hl0 : l.stackTraces = false) {b L : Nat} {xs : Nat → Int32} (C0 : lw_At p s m meth c b L xs) (g : Nat) {S1 R1 : Mem} (hS1 : f_X0_allot g (up (up (up S0 0 4 0) 0 5 0) 0 6 (-1)) 0 1 = some S1) (hR1 : f_X5_initT g = some R1) (hpure : f_law g L xs 100 S1 R1 (fun _ => 0) 0 = some 1) : W p l e room_1 s m #[Value.ref b] below meth c s.heap [] 0 0 (lw_Z below #[Value.ref b] s) (entryFrame m ([Value.ref b] : List Value).toArray 7) := by
  obtain ⟨hx, hb, hr, hml, hown, hts, hX, hbl, hlocks, hgv⟩ := id C0
  have hA : ∀ q : Nat, s.heap.size ≤ q → (fun q : Nat => s.heap.size ≤ q) q := fun _ h => h
  have hbA : ¬ (fun q : Nat => s.heap.size ≤ q) b := Nat.not_le.mpr hbl
  have hXS := xs_start hts hgv
  have htb : ∀ w ∈ Cond.initialized RL :: tb, w.before #[Value.ref b] s = true := by
    intro w hw
    rcases List.mem_cons.mp hw with h | h
    · rw [h]; exact hts _ (List.mem_filter.mp mN_L).1
    · exact hts w (List.mem_filter.mp h).1
  have htb2 : ∀ w ∈ tb, w.before #[Value.ref b] s = true := fun w hw => htb w (List.mem_cons_of_mem _ hw)
  obtain ⟨k0, i0, hk0⟩ := u_known (C := RX0) (T := TX0) (N := 5) (n := 5) htb2 mU_X0 (htb2 _ mA_X0)
  obtain ⟨k1, i1, hk1⟩ := u_known (C := RX1) (T := TX1) (N := 8) (n := 8) htb2 mU_X1 (htb2 _ mA_X1)
  obtain ⟨k2, i2, hk2⟩ := u_known (C := RX2) (T := TX2) (N := 6) (n := 6) htb2 mU_X2 (htb2 _ mA_X2)
  obtain ⟨k3, i3, hk3⟩ := u_known (C := RX3) (T := TX3) (N := 3) (n := 3) htb2 mU_X3 (htb2 _ mA_X3)
  obtain ⟨k4, i4, hk4⟩ := u_known (C := RX4) (T := TX4) (N := 10) (n := 10) htb2 mU_X4 (htb2 _ mA_X4)
  obtain ⟨k5, i5, hk5⟩ := u_known (C := RX5) (T := TX5) (N := 24) (n := 24) htb2 mU_X5 (htb2 _ mA_X5)
  obtain ⟨dC, dI, hKc⟩ : ∃ (dC : Nat → ClassId) (dI : Nat → Nat → Nat), ∀ (k : Nat) (q : vw_C), vwCl[k]? = some q → u_Kn s q.1 q.2.1 q.2.2 (dC k) (dI k) := by
    refine ⟨fun k => if k = 0 then k0 else if k = 1 then k1 else if k = 2 then k2 else if k = 3 then k3 else if k = 4 then k4 else k5, fun k => if k = 0 then i0 else if k = 1 then i1 else if k = 2 then i2 else if k = 3 then i3 else if k = 4 then i4 else i5, ?_⟩
    intro k q hq
    match k, hq with
    | 0, hq => cases hq; exact hk0
    | 1, hq => cases hq; exact hk1
    | 2, hq => cases hq; exact hk2
    | 3, hq => cases hq; exact hk3
    | 4, hq => cases hq; exact hk4
    | 5, hq => cases hq; exact hk5
    | k + 6, hq => simp [vwCl] at hq
  obtain ⟨cI, hI1, hI2⟩ := arr_of (by intro C h; cases h) (htb2 _ mY_int)
  obtain ⟨cZ, hZ1, hZ2⟩ := arr_of (by intro C h; cases h) (htb2 _ mY_boolean)
  obtain ⟨cJ, hJ1, hJ2⟩ := arr_of (by intro C h; cases h) (htb2 _ mY_long)
  obtain ⟨x, hxe⟩ : ∃ x : Ad, x = ((dC, dI), cI, cZ, cJ, fun _ => 0) := ⟨_, rfl⟩
  have hK : va_K x.1 vwCl (tyx x) s := by
    rw [hxe]
    refine ⟨hKc, fun k q hq => ?_⟩
    match k, hq with
    | 0, hq => cases hq; exact ⟨hI1, hI2⟩
    | 1, hq => cases hq; exact ⟨hZ1, hZ2⟩
    | 2, hq => cases hq; exact ⟨hJ1, hJ2⟩
    | k + 3, hq => simp at hq
  have hP0 : va_P x.1 vwCl [] s.heap := fun k q h => by simp at h
  have hD0 : va_D (fun q : Nat => s.heap.size ≤ q) [] := ⟨fun i j p q h => by simp at h, fun k q h => by simp at h⟩
  have C9 : ∀ (y : Ad) (a d : Nat), va_K y.1 vwCl (tyx y) s → a ≤ 173 → d ≤ 2595 → Cx (p, l, e, room_1, s, m, #[Value.ref b], below, meth, c, fun q : Nat => s.heap.size ≤ q, 7, a, d, lw_Z below #[Value.ref b] s) y code R_law (Cond.initialized RL) room_1 7 := fun y a d hy ha hd => ⟨hx, hb, hml, hown, htb, hy, hA, rfl, rfl, ha, hd⟩
  have hl := lv_entry ([.ref b]) (n := 7) (Nat.le_of_ble_eq_true rfl)
  rw [lg_entry_eq]
  have key : GG (p, l, e, room_1, s, m, #[Value.ref b], below, meth, c, fun q : Nat => s.heap.size ≤ q, 7, 0, 0, lw_Z below #[Value.ref b] s) x [] 0 [(0, .ref b)] [] := by
    have C := C9 x 0 0 hK (Nat.zero_le _) (Nat.zero_le _)
    refine n_newobj C (fs := [.null, .null, .null, .null, .int 0, .int 0, .int 0, .int 0, .int 0, .int 0]) (ci := 4) mU_X4 tyX4 tyX4_ok mC_L_8 mA_X4 mN_X4 rfl (fun j hj => by rcases (by omega : j = 0 ∨ j = 1 ∨ j = 2 ∨ j = 3 ∨ j = 4 ∨ j = 5 ∨ j = 6 ∨ j = 7 ∨ j = 8 ∨ j = 9) with rfl | rfl | rfl | rfl | rfl | rfl | rfl | rfl | rfl | rfl <;> rfl) (Nat.le_of_ble_eq_true rfl) (Nat.le_of_ble_eq_true rfl) dL_law_0 (fun q1 => ?_)
    have C1 := n_add C (a := 1) (b := 10) (Nat.le_of_ble_eq_true rfl) (Nat.le_of_ble_eq_true rfl)
    refine g_dup C1 rfl dL_law_3 ?_
    refine n_ctor C1 (w := []) (c_X4_init (l := l) (x := x) q1 g hS1) mK_X4_init mM_L_50 mI_X4_init mN_X4 rfl (by decide +kernel) rfl rfl ⟨by decide, by decide⟩ (Nat.le_of_ble_eq_true rfl) (Nat.le_of_ble_eq_true rfl) (Nat.le_of_ble_eq_true rfl) dL_law_4 (fun u1 => ?_)
    have C2 := n_add C1 (a := 20) (b := 802) (Nat.le_of_ble_eq_true rfl) (Nat.le_of_ble_eq_true rfl)
    refine g_astore_n C2 (lv2 := [(1, .ref q1), (0, .ref b)]) rfl (by decide) rfl dL_law_7 ?_
    refine n_newobj C2 (fs := [.int 0, .null, .null, .null, .null, .null, .int 0, .int 0, .int 0, .null, .null, .null, .null, .null, .null, .int 0, .int 0, .int 0, .int 0, .int 0, .int 0, .int 0, .int 0, .int 0]) (ci := 5) mU_X5 tyX5 tyX5_ok mC_L_51 mA_X5 mN_X5 rfl (fun j hj => by rcases (by omega : j = 0 ∨ j = 1 ∨ j = 2 ∨ j = 3 ∨ j = 4 ∨ j = 5 ∨ j = 6 ∨ j = 7 ∨ j = 8 ∨ j = 9 ∨ j = 10 ∨ j = 11 ∨ j = 12 ∨ j = 13 ∨ j = 14 ∨ j = 15 ∨ j = 16 ∨ j = 17 ∨ j = 18 ∨ j = 19 ∨ j = 20 ∨ j = 21 ∨ j = 22 ∨ j = 23) with rfl | rfl | rfl | rfl | rfl | rfl | rfl | rfl | rfl | rfl | rfl | rfl | rfl | rfl | rfl | rfl | rfl | rfl | rfl | rfl | rfl | rfl | rfl | rfl <;> rfl) (Nat.le_of_ble_eq_true rfl) (Nat.le_of_ble_eq_true rfl) dL_law_8 (fun q2 => ?_)
    have C3 := n_add C2 (a := 1) (b := 24) (Nat.le_of_ble_eq_true rfl) (Nat.le_of_ble_eq_true rfl)
    refine g_dup C3 rfl dL_law_11 ?_
    refine n_ctor C3 (w := [] ++ cT (xu x (fun k => if k = 0 then q1 else u1 k)) S1) (c_X5_init (l := l) (x := x) q2 g hR1) mK_X5_init mM_L_53 mI_X5_init mN_X5 rfl (by decide +kernel) rfl rfl ⟨by decide, by decide⟩ (Nat.le_of_ble_eq_true rfl) (Nat.le_of_ble_eq_true rfl) (Nat.le_of_ble_eq_true rfl) dL_law_12 (fun u2 => ?_)
    have C4 := n_add C3 (a := 11) (b := 668) (Nat.le_of_ble_eq_true rfl) (Nat.le_of_ble_eq_true rfl)
    refine g_astore_n C4 (lv2 := [(2, .ref q2), (1, .ref q1), (0, .ref b)]) rfl (by decide) rfl dL_law_15 ?_
    refine g_iconst C4 (v := 1) (by decide) dL_law_16 ?_
    refine n_new_long C4 (N := 1) (by decide) (by decide) (by decide) (Nat.le_of_ble_eq_true rfl) (Nat.le_of_ble_eq_true rfl) dL_law_17 (fun q3 => ?_)
    have C5 := n_add C4 (a := 1) (b := 1) (Nat.le_of_ble_eq_true rfl) (Nat.le_of_ble_eq_true rfl)
    refine g_astore_n C5 (lv2 := [(3, .ref q3), (2, .ref q2), (1, .ref q1), (0, .ref b)]) rfl (by decide) rfl dL_law_19 ?_
    refine g_iconst C5 (v := 0) (by decide) dL_law_20 ?_
    refine g_istore C5 (lv2 := [(4, .int 0), (3, .ref q3), (2, .ref q2), (1, .ref q1), (0, .ref b)]) (by decide) rfl dL_law_21 ?_
    refine g_sub [4, 3, 2, 1, 0] rfl ?_
    refine g_wide (a := 34 + 0) (b := 1505 + 6 * 0) (Nat.le_of_ble_eq_true rfl) (Nat.le_of_ble_eq_true rfl) ?_
    have hret : ∀ a d : Nat, a ≤ 173 → d ≤ 2595 → ∀ (x : Ad) (w : va_W) (pc : Nat) (lv : List (Nat × Value)) (_ _ : Unit), decode code pc = .ok (.ireturn, 1) → GG (p, l, e, room_1, s, m, #[Value.ref b], below, meth, c, fun q : Nat => s.heap.size ≤ q, 7, a, d, lw_Z below #[Value.ref b] s) x w pc lv [.int 1] := by
      intro a d ha hd x w pc lv _ _ hdec H locs ls hP hD hS hl
      refine va_forget (fun q hq => hS.2.2 q hq) ?_
      refine W.widen (k := 173) (n := 2595) ha hd ?_
      exact lw_ret hx hb hr hlocks hdec
    rw [List.append_assoc, List.nil_append]
    have h9 := law_loop (x := xu x (fun k => if k = 0 then q1 else if k < 30 then u1 k else if k = 30 then q2 else if k < 50 then u2 k else q3)) hl0 hX hbl hbA hXS g (fun a d ha hd => C9 _ a d hK ha hd) hret 100 0 S1 R1 (fun _ => 0) 0 (by decide) hpure
    exact h9
  exact key s.heap [] _ hP0 hD0 va_S.rf hl
