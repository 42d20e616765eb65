abbrev xu (x : Ad) (u : Nat → Nat) : Ad := (x.1, x.2.1, x.2.2.1, x.2.2.2.1, u)
def S0 : Mem := (fun k => if k = 4 then (fun j => if j < 40 then -1 else 0) else if k = 8 then (fun j => if j < 12 then -1 else 0) else (fun _ => 0), fun _ _ => 0)
def R0 : Mem := (fun _ _ => 0, fun _ _ => 0)
abbrev rmX0_init : Room := { frames := 1, cells := 5, slots := 520, locals := 23 }
set_option maxHeartbeats 4000000 in
set_option maxRecDepth 100000 in
theorem c_X0_init {l : Launch} {x : Ad} (h0 : Nat) : MC l x yX0_init kX0_init rmX0_init h0 [(h0, .inr (0, [.null, .null, .null, .null, .null]))] 5 520 (fun u => [(h0, .inr (0, [.ref (u 2), .ref (u 3), .ref (u 4), .ref (u 5), .ref (u 6)])), (u 2, .inl (x.2.1, 40, .inl (S0.1 2))), (u 3, .inl (x.2.1, 40, .inl (S0.1 3))), (u 4, .inl (x.2.1, 40, .inl (S0.1 4))), (u 5, .inl (x.2.1, 200, .inl (S0.1 5))), (u 6, .inl (x.2.1, 200, .inl (S0.1 6)))]) := by
  refine met_C RX0 (by decide +kernel) rfl rfl (by decide) ⟨rfl, rfl⟩ ?_
  intro p e s m below meth c A Q C hme hr
  refine g_aload_n C 0 rfl rfl dX0_init_0 ?_
  refine n_obj C mM_X0_3 (Nat.le_of_ble_eq_true rfl) (Nat.le_of_ble_eq_true rfl) dX0_init_1 ?_
  refine g_aload_n C 0 rfl rfl dX0_init_4 ?_
  refine g_bipush C (v := 40) (by decide) dX0_init_5 ?_
  refine n_new_int C (N := 40) (by decide) (by decide) (by decide) (Nat.le_of_ble_eq_true rfl) (Nat.le_of_ble_eq_true rfl) dX0_init_7 (fun q1 => ?_)
  have C1 := n_add C (a := 1) (b := 40) (Nat.le_of_ble_eq_true rfl) (Nat.le_of_ble_eq_true rfl)
  refine n_putF (w2 := [(h0, .inr (0, [.ref q1, .null, .null, .null, .null])), (q1, .inl (x.2.1, 40, .inl (fun _ => 0)))]) C1 hme 0 rfl rfl mU_X0 tyX0 tyX0_ok nmX0 0 (by decide) mF_X0_9 rfl rfl rfl (ty := .array .int) (by decide +kernel) rfl rfl (Nat.le_of_ble_eq_true rfl) rfl dX0_init_9 ?_
  refine g_aload_n C1 0 rfl rfl dX0_init_12 ?_
  refine g_bipush C1 (v := 40) (by decide) dX0_init_13 ?_
  refine n_new_int C1 (N := 40) (by decide) (by decide) (by decide) (Nat.le_of_ble_eq_true rfl) (Nat.le_of_ble_eq_true rfl) dX0_init_15 (fun q2 => ?_)
  have C2 := n_add C1 (a := 1) (b := 40) (Nat.le_of_ble_eq_true rfl) (Nat.le_of_ble_eq_true rfl)
  refine n_putF (w2 := [(h0, .inr (0, [.ref q1, .ref q2, .null, .null, .null])), (q1, .inl (x.2.1, 40, .inl (fun _ => 0))), (q2, .inl (x.2.1, 40, .inl (fun _ => 0)))]) C2 hme 0 rfl rfl mU_X0 tyX0 tyX0_ok nmX0 1 (by decide) mF_X0_15 rfl rfl rfl (ty := .array .int) (by decide +kernel) rfl rfl (Nat.le_of_ble_eq_true rfl) rfl dX0_init_17 ?_
  refine g_aload_n C2 0 rfl rfl dX0_init_20 ?_
  refine g_bipush C2 (v := 40) (by decide) dX0_init_21 ?_
  refine n_new_int C2 (N := 40) (by decide) (by decide) (by decide) (Nat.le_of_ble_eq_true rfl) (Nat.le_of_ble_eq_true rfl) dX0_init_23 (fun q3 => ?_)
  have C3 := n_add C2 (a := 1) (b := 40) (Nat.le_of_ble_eq_true rfl) (Nat.le_of_ble_eq_true rfl)
  refine n_putF (w2 := [(h0, .inr (0, [.ref q1, .ref q2, .ref q3, .null, .null])), (q1, .inl (x.2.1, 40, .inl (fun _ => 0))), (q2, .inl (x.2.1, 40, .inl (fun _ => 0))), (q3, .inl (x.2.1, 40, .inl (fun _ => 0)))]) C3 hme 0 rfl rfl mU_X0 tyX0 tyX0_ok nmX0 2 (by decide) mF_X0_18 rfl rfl rfl (ty := .array .int) (by decide +kernel) rfl rfl (Nat.le_of_ble_eq_true rfl) rfl dX0_init_25 ?_
  refine g_aload_n C3 0 rfl rfl dX0_init_28 ?_
  refine g_sipush C3 (v := 200) (by decide) dX0_init_29 ?_
  refine n_new_int C3 (N := 200) (by decide) (by decide) (by decide) (Nat.le_of_ble_eq_true rfl) (Nat.le_of_ble_eq_true rfl) dX0_init_32 (fun q4 => ?_)
  have C4 := n_add C3 (a := 1) (b := 200) (Nat.le_of_ble_eq_true rfl) (Nat.le_of_ble_eq_true rfl)
  refine n_putF (w2 := [(h0, .inr (0, [.ref q1, .ref q2, .ref q3, .ref q4, .null])), (q1, .inl (x.2.1, 40, .inl (fun _ => 0))), (q2, .inl (x.2.1, 40, .inl (fun _ => 0))), (q3, .inl (x.2.1, 40, .inl (fun _ => 0))), (q4, .inl (x.2.1, 200, .inl (fun _ => 0)))]) C4 hme 0 rfl rfl mU_X0 tyX0 tyX0_ok nmX0 3 (by decide) mF_X0_21 rfl rfl rfl (ty := .array .int) (by decide +kernel) rfl rfl (Nat.le_of_ble_eq_true rfl) rfl dX0_init_34 ?_
  refine g_aload_n C4 0 rfl rfl dX0_init_37 ?_
  refine g_sipush C4 (v := 200) (by decide) dX0_init_38 ?_
  refine n_new_int C4 (N := 200) (by decide) (by decide) (by decide) (Nat.le_of_ble_eq_true rfl) (Nat.le_of_ble_eq_true rfl) dX0_init_41 (fun q5 => ?_)
  have C5 := n_add C4 (a := 1) (b := 200) (Nat.le_of_ble_eq_true rfl) (Nat.le_of_ble_eq_true rfl)
  refine n_putF (w2 := [(h0, .inr (0, [.ref q1, .ref q2, .ref q3, .ref q4, .ref q5])), (q1, .inl (x.2.1, 40, .inl (fun _ => 0))), (q2, .inl (x.2.1, 40, .inl (fun _ => 0))), (q3, .inl (x.2.1, 40, .inl (fun _ => 0))), (q4, .inl (x.2.1, 200, .inl (fun _ => 0))), (q5, .inl (x.2.1, 200, .inl (fun _ => 0)))]) C5 hme 0 rfl rfl mU_X0 tyX0 tyX0_ok nmX0 4 (by decide) mF_X0_24 rfl rfl rfl (ty := .array .int) (by decide +kernel) rfl rfl (Nat.le_of_ble_eq_true rfl) rfl dX0_init_43 ?_
  refine g_aload_n C5 0 rfl rfl dX0_init_46 ?_
  refine g_get C5 0 rfl rfl mU_X0 2 (by decide) mF_X0_18 rfl rfl dX0_init_47 ?_
  refine g_iconst C5 (v := (-1)) (by decide) dX0_init_50 ?_
  refine g_callSV C5 (n := 2) (st := []) (c_fill (l := l) (x := x) (w := [(h0, .inr (0, [.ref q1, .ref q2, .ref q3, .ref q4, .ref q5])), (q1, .inl (x.2.1, 40, .inl (fun _ => 0))), (q2, .inl (x.2.1, 40, .inl (fun _ => 0))), (q3, .inl (x.2.1, 40, .inl (fun _ => 0))), (q4, .inl (x.2.1, 200, .inl (fun _ => 0))), (q5, .inl (x.2.1, 200, .inl (fun _ => 0)))]) 3 rfl (by decide)) (tb_wsX _ mM_X0_27 mT_J7_fill_53178 mN_J7 mK_J7_fill_53178) (by decide +kernel) rfl rfl ⟨by decide, by decide⟩ rfl (Nat.le_of_ble_eq_true rfl) dX0_init_51 rfl ?_
  exact g_vret (hr _ _ (fun k => if k = 2 then q1 else if k = 3 then q2 else if k = 4 then q3 else if k = 5 then q4 else if k = 6 then q5 else 0) (Nat.le_of_ble_eq_true rfl) (Nat.le_of_ble_eq_true rfl)) dX0_init_54
abbrev rmX1_init : Room := { frames := 1, cells := 4, slots := 48, locals := 23 }
set_option maxHeartbeats 4000000 in
set_option maxRecDepth 100000 in
theorem c_X1_init {l : Launch} {x : Ad} (h0 : Nat) : MC l x yX1_init kX1_init rmX1_init h0 [(h0, .inr (1, [.null, .null, .null, .null, .int 0, .int 0, .int 0, .int 0]))] 4 48 (fun u => [(h0, .inr (1, [.ref (u 8), .ref (u 9), .ref (u 10), .ref (u 11), .int 0, .int 0, .int 0, .int 0])), (u 8, .inl (x.2.1, 12, .inl (S0.1 8))), (u 9, .inl (x.2.2.1, 12, .inl (S0.1 9))), (u 10, .inl (x.2.2.1, 12, .inl (S0.1 10))), (u 11, .inl (x.2.2.1, 12, .inl (S0.1 11)))]) := by
  refine met_C RX1 (by decide +kernel) rfl rfl (by decide) ⟨rfl, rfl⟩ ?_
  intro p e s m below meth c A Q C hme hr
  refine g_aload_n C 0 rfl rfl dX1_init_0 ?_
  refine n_obj C mM_X1_3 (Nat.le_of_ble_eq_true rfl) (Nat.le_of_ble_eq_true rfl) dX1_init_1 ?_
  refine g_aload_n C 0 rfl rfl dX1_init_4 ?_
  refine g_bipush C (v := 12) (by decide) dX1_init_5 ?_
  refine n_new_int C (N := 12) (by decide) (by decide) (by decide) (Nat.le_of_ble_eq_true rfl) (Nat.le_of_ble_eq_true rfl) dX1_init_7 (fun q1 => ?_)
  have C1 := n_add C (a := 1) (b := 12) (Nat.le_of_ble_eq_true rfl) (Nat.le_of_ble_eq_true rfl)
  refine n_putF (w2 := [(h0, .inr (1, [.ref q1, .null, .null, .null, .int 0, .int 0, .int 0, .int 0])), (q1, .inl (x.2.1, 12, .inl (fun _ => 0)))]) C1 hme 0 rfl rfl mU_X1 tyX1 tyX1_ok nmX1 0 (by decide) mF_X1_9 rfl rfl rfl (ty := .array .int) (by decide +kernel) rfl rfl (Nat.le_of_ble_eq_true rfl) rfl dX1_init_9 ?_
  refine g_aload_n C1 0 rfl rfl dX1_init_12 ?_
  refine g_bipush C1 (v := 12) (by decide) dX1_init_13 ?_
  refine n_new_boolean C1 (N := 12) (by decide) (by decide) (by decide) (Nat.le_of_ble_eq_true rfl) (Nat.le_of_ble_eq_true rfl) dX1_init_15 (fun q2 => ?_)
  have C2 := n_add C1 (a := 1) (b := 12) (Nat.le_of_ble_eq_true rfl) (Nat.le_of_ble_eq_true rfl)
  refine n_putF (w2 := [(h0, .inr (1, [.ref q1, .ref q2, .null, .null, .int 0, .int 0, .int 0, .int 0])), (q1, .inl (x.2.1, 12, .inl (fun _ => 0))), (q2, .inl (x.2.2.1, 12, .inl (fun _ => 0)))]) C2 hme 0 rfl rfl mU_X1 tyX1 tyX1_ok nmX1 1 (by decide) mF_X1_15 rfl rfl rfl (ty := .array .boolean) (by decide +kernel) rfl rfl (Nat.le_of_ble_eq_true rfl) rfl dX1_init_17 ?_
  refine g_aload_n C2 0 rfl rfl dX1_init_20 ?_
  refine g_bipush C2 (v := 12) (by decide) dX1_init_21 ?_
  refine n_new_boolean C2 (N := 12) (by decide) (by decide) (by decide) (Nat.le_of_ble_eq_true rfl) (Nat.le_of_ble_eq_true rfl) dX1_init_23 (fun q3 => ?_)
  have C3 := n_add C2 (a := 1) (b := 12) (Nat.le_of_ble_eq_true rfl) (Nat.le_of_ble_eq_true rfl)
  refine n_putF (w2 := [(h0, .inr (1, [.ref q1, .ref q2, .ref q3, .null, .int 0, .int 0, .int 0, .int 0])), (q1, .inl (x.2.1, 12, .inl (fun _ => 0))), (q2, .inl (x.2.2.1, 12, .inl (fun _ => 0))), (q3, .inl (x.2.2.1, 12, .inl (fun _ => 0)))]) C3 hme 0 rfl rfl mU_X1 tyX1 tyX1_ok nmX1 2 (by decide) mF_X1_19 rfl rfl rfl (ty := .array .boolean) (by decide +kernel) rfl rfl (Nat.le_of_ble_eq_true rfl) rfl dX1_init_25 ?_
  refine g_aload_n C3 0 rfl rfl dX1_init_28 ?_
  refine g_bipush C3 (v := 12) (by decide) dX1_init_29 ?_
  refine n_new_boolean C3 (N := 12) (by decide) (by decide) (by decide) (Nat.le_of_ble_eq_true rfl) (Nat.le_of_ble_eq_true rfl) dX1_init_31 (fun q4 => ?_)
  have C4 := n_add C3 (a := 1) (b := 12) (Nat.le_of_ble_eq_true rfl) (Nat.le_of_ble_eq_true rfl)
  refine n_putF (w2 := [(h0, .inr (1, [.ref q1, .ref q2, .ref q3, .ref q4, .int 0, .int 0, .int 0, .int 0])), (q1, .inl (x.2.1, 12, .inl (fun _ => 0))), (q2, .inl (x.2.2.1, 12, .inl (fun _ => 0))), (q3, .inl (x.2.2.1, 12, .inl (fun _ => 0))), (q4, .inl (x.2.2.1, 12, .inl (fun _ => 0)))]) C4 hme 0 rfl rfl mU_X1 tyX1 tyX1_ok nmX1 3 (by decide) mF_X1_22 rfl rfl rfl (ty := .array .boolean) (by decide +kernel) rfl rfl (Nat.le_of_ble_eq_true rfl) rfl dX1_init_33 ?_
  refine g_aload_n C4 0 rfl rfl dX1_init_36 ?_
  refine g_get C4 0 rfl rfl mU_X1 0 (by decide) mF_X1_9 rfl rfl dX1_init_37 ?_
  refine g_iconst C4 (v := (-1)) (by decide) dX1_init_40 ?_
  refine g_callSV C4 (n := 2) (st := []) (c_fill (l := l) (x := x) (w := [(h0, .inr (1, [.ref q1, .ref q2, .ref q3, .ref q4, .int 0, .int 0, .int 0, .int 0])), (q1, .inl (x.2.1, 12, .inl (fun _ => 0))), (q2, .inl (x.2.2.1, 12, .inl (fun _ => 0))), (q3, .inl (x.2.2.1, 12, .inl (fun _ => 0))), (q4, .inl (x.2.2.1, 12, .inl (fun _ => 0)))]) 1 rfl (by decide)) (tb_wsX _ mM_X1_25 mT_J7_fill_53178 mN_J7 mK_J7_fill_53178) (by decide +kernel) rfl rfl ⟨by decide, by decide⟩ rfl (Nat.le_of_ble_eq_true rfl) dX1_init_41 rfl ?_
  exact g_vret (hr _ _ (fun k => if k = 8 then q1 else if k = 9 then q2 else if k = 10 then q3 else if k = 11 then q4 else 0) (Nat.le_of_ble_eq_true rfl) (Nat.le_of_ble_eq_true rfl)) dX1_init_44
abbrev rmX3_init : Room := { frames := 1, cells := 2, slots := 12, locals := 23 }
set_option maxHeartbeats 4000000 in
set_option maxRecDepth 100000 in
theorem c_X3_init {l : Launch} {x : Ad} (h0 : Nat) : MC l x yX3_init kX3_init rmX3_init h0 [(h0, .inr (3, [.null, .null, .int 0]))] 2 12 (fun u => [(h0, .inr (3, [.ref (u 13), .ref (u 14), .int 0])), (u 13, .inl (x.2.1, 6, .inl (S0.1 13))), (u 14, .inl (x.2.1, 6, .inl (S0.1 14)))]) := by
  refine met_C RX3 (by decide +kernel) rfl rfl (by decide) ⟨rfl, rfl⟩ ?_
  intro p e s m below meth c A Q C hme hr
  refine g_aload_n C 0 rfl rfl dX3_init_0 ?_
  refine n_obj C mM_X3_3 (Nat.le_of_ble_eq_true rfl) (Nat.le_of_ble_eq_true rfl) dX3_init_1 ?_
  refine g_aload_n C 0 rfl rfl dX3_init_4 ?_
  refine g_bipush C (v := 6) (by decide) dX3_init_5 ?_
  refine n_new_int C (N := 6) (by decide) (by decide) (by decide) (Nat.le_of_ble_eq_true rfl) (Nat.le_of_ble_eq_true rfl) dX3_init_7 (fun q1 => ?_)
  have C1 := n_add C (a := 1) (b := 6) (Nat.le_of_ble_eq_true rfl) (Nat.le_of_ble_eq_true rfl)
  refine n_putF (w2 := [(h0, .inr (3, [.ref q1, .null, .int 0])), (q1, .inl (x.2.1, 6, .inl (fun _ => 0)))]) C1 hme 0 rfl rfl mU_X3 tyX3 tyX3_ok nmX3 0 (by decide) mF_X3_9 rfl rfl rfl (ty := .array .int) (by decide +kernel) rfl rfl (Nat.le_of_ble_eq_true rfl) rfl dX3_init_9 ?_
  refine g_aload_n C1 0 rfl rfl dX3_init_12 ?_
  refine g_bipush C1 (v := 6) (by decide) dX3_init_13 ?_
  refine n_new_int C1 (N := 6) (by decide) (by decide) (by decide) (Nat.le_of_ble_eq_true rfl) (Nat.le_of_ble_eq_true rfl) dX3_init_15 (fun q2 => ?_)
  have C2 := n_add C1 (a := 1) (b := 6) (Nat.le_of_ble_eq_true rfl) (Nat.le_of_ble_eq_true rfl)
  refine n_putF (w2 := [(h0, .inr (3, [.ref q1, .ref q2, .int 0])), (q1, .inl (x.2.1, 6, .inl (fun _ => 0))), (q2, .inl (x.2.1, 6, .inl (fun _ => 0)))]) C2 hme 0 rfl rfl mU_X3 tyX3 tyX3_ok nmX3 1 (by decide) mF_X3_15 rfl rfl rfl (ty := .array .int) (by decide +kernel) rfl rfl (Nat.le_of_ble_eq_true rfl) rfl dX3_init_17 ?_
  refine g_aload_n C2 0 rfl rfl dX3_init_20 ?_
  refine g_iconst C2 (v := 0) (by decide) dX3_init_21 ?_
  refine g_put (w2 := [(h0, .inr (3, [.ref q1, .ref q2, .int 0])), (q1, .inl (x.2.1, 6, .inl (fun _ => 0))), (q2, .inl (x.2.1, 6, .inl (fun _ => 0)))]) C2 0 rfl rfl mU_X3 tyX3 tyX3_ok nmX3 2 (by decide) mF_X3_18 rfl rfl (ty := .int) (by decide +kernel) rfl rfl (Nat.le_of_ble_eq_true rfl) rfl dX3_init_22 ?_
  exact g_vret (hr _ _ (fun k => if k = 13 then q1 else if k = 14 then q2 else 0) (Nat.le_of_ble_eq_true rfl) (Nat.le_of_ble_eq_true rfl)) dX3_init_25
abbrev rmX2_init : Room := { frames := 1, cells := 5, slots := 200, locals := 23 }
set_option maxHeartbeats 4000000 in
set_option maxRecDepth 100000 in
theorem c_X2_init {l : Launch} {x : Ad} (h0 : Nat) : MC l x yX2_init kX2_init rmX2_init h0 [(h0, .inr (2, [.null, .int 0, .null, .null, .null, .null]))] 5 200 (fun u => [(h0, .inr (2, [.ref (u 16), .int 0, .ref (u 17), .ref (u 18), .ref (u 19), .ref (u 20)])), (u 16, .inl (x.2.1, 40, .inl (S0.1 16))), (u 17, .inl (x.2.1, 40, .inl (S0.1 17))), (u 18, .inl (x.2.1, 40, .inl (S0.1 18))), (u 19, .inl (x.2.2.2.1, 40, .inr (.inl (S0.2 19)))), (u 20, .inl (x.2.2.2.1, 40, .inr (.inl (S0.2 20))))]) := by
  refine met_C RX2 (by decide +kernel) rfl rfl (by decide) ⟨rfl, rfl⟩ ?_
  intro p e s m below meth c A Q C hme hr
  refine g_aload_n C 0 rfl rfl dX2_init_0 ?_
  refine n_obj C mM_X2_3 (Nat.le_of_ble_eq_true rfl) (Nat.le_of_ble_eq_true rfl) dX2_init_1 ?_
  refine g_aload_n C 0 rfl rfl dX2_init_4 ?_
  refine g_bipush C (v := 40) (by decide) dX2_init_5 ?_
  refine n_new_int C (N := 40) (by decide) (by decide) (by decide) (Nat.le_of_ble_eq_true rfl) (Nat.le_of_ble_eq_true rfl) dX2_init_7 (fun q1 => ?_)
  have C1 := n_add C (a := 1) (b := 40) (Nat.le_of_ble_eq_true rfl) (Nat.le_of_ble_eq_true rfl)
  refine n_putF (w2 := [(h0, .inr (2, [.ref q1, .int 0, .null, .null, .null, .null])), (q1, .inl (x.2.1, 40, .inl (fun _ => 0)))]) C1 hme 0 rfl rfl mU_X2 tyX2 tyX2_ok nmX2 0 (by decide) mF_X2_9 rfl rfl rfl (ty := .array .int) (by decide +kernel) rfl rfl (Nat.le_of_ble_eq_true rfl) rfl dX2_init_9 ?_
  refine g_aload_n C1 0 rfl rfl dX2_init_12 ?_
  refine g_bipush C1 (v := 40) (by decide) dX2_init_13 ?_
  refine n_new_int C1 (N := 40) (by decide) (by decide) (by decide) (Nat.le_of_ble_eq_true rfl) (Nat.le_of_ble_eq_true rfl) dX2_init_15 (fun q2 => ?_)
  have C2 := n_add C1 (a := 1) (b := 40) (Nat.le_of_ble_eq_true rfl) (Nat.le_of_ble_eq_true rfl)
  refine n_putF (w2 := [(h0, .inr (2, [.ref q1, .int 0, .ref q2, .null, .null, .null])), (q1, .inl (x.2.1, 40, .inl (fun _ => 0))), (q2, .inl (x.2.1, 40, .inl (fun _ => 0)))]) C2 hme 0 rfl rfl mU_X2 tyX2 tyX2_ok nmX2 2 (by decide) mF_X2_15 rfl rfl rfl (ty := .array .int) (by decide +kernel) rfl rfl (Nat.le_of_ble_eq_true rfl) rfl dX2_init_17 ?_
  refine g_aload_n C2 0 rfl rfl dX2_init_20 ?_
  refine g_bipush C2 (v := 40) (by decide) dX2_init_21 ?_
  refine n_new_int C2 (N := 40) (by decide) (by decide) (by decide) (Nat.le_of_ble_eq_true rfl) (Nat.le_of_ble_eq_true rfl) dX2_init_23 (fun q3 => ?_)
  have C3 := n_add C2 (a := 1) (b := 40) (Nat.le_of_ble_eq_true rfl) (Nat.le_of_ble_eq_true rfl)
  refine n_putF (w2 := [(h0, .inr (2, [.ref q1, .int 0, .ref q2, .ref q3, .null, .null])), (q1, .inl (x.2.1, 40, .inl (fun _ => 0))), (q2, .inl (x.2.1, 40, .inl (fun _ => 0))), (q3, .inl (x.2.1, 40, .inl (fun _ => 0)))]) C3 hme 0 rfl rfl mU_X2 tyX2 tyX2_ok nmX2 3 (by decide) mF_X2_18 rfl rfl rfl (ty := .array .int) (by decide +kernel) rfl rfl (Nat.le_of_ble_eq_true rfl) rfl dX2_init_25 ?_
  refine g_aload_n C3 0 rfl rfl dX2_init_28 ?_
  refine g_bipush C3 (v := 40) (by decide) dX2_init_29 ?_
  refine n_new_long C3 (N := 40) (by decide) (by decide) (by decide) (Nat.le_of_ble_eq_true rfl) (Nat.le_of_ble_eq_true rfl) dX2_init_31 (fun q4 => ?_)
  have C4 := n_add C3 (a := 1) (b := 40) (Nat.le_of_ble_eq_true rfl) (Nat.le_of_ble_eq_true rfl)
  refine n_putF (w2 := [(h0, .inr (2, [.ref q1, .int 0, .ref q2, .ref q3, .ref q4, .null])), (q1, .inl (x.2.1, 40, .inl (fun _ => 0))), (q2, .inl (x.2.1, 40, .inl (fun _ => 0))), (q3, .inl (x.2.1, 40, .inl (fun _ => 0))), (q4, .inl (x.2.2.2.1, 40, .inr (.inl (fun _ => 0))))]) C4 hme 0 rfl rfl mU_X2 tyX2 tyX2_ok nmX2 4 (by decide) mF_X2_21 rfl rfl rfl (ty := .array .long) (by decide +kernel) rfl rfl (Nat.le_of_ble_eq_true rfl) rfl dX2_init_33 ?_
  refine g_aload_n C4 0 rfl rfl dX2_init_36 ?_
  refine g_bipush C4 (v := 40) (by decide) dX2_init_37 ?_
  refine n_new_long C4 (N := 40) (by decide) (by decide) (by decide) (Nat.le_of_ble_eq_true rfl) (Nat.le_of_ble_eq_true rfl) dX2_init_39 (fun q5 => ?_)
  have C5 := n_add C4 (a := 1) (b := 40) (Nat.le_of_ble_eq_true rfl) (Nat.le_of_ble_eq_true rfl)
  refine n_putF (w2 := [(h0, .inr (2, [.ref q1, .int 0, .ref q2, .ref q3, .ref q4, .ref q5])), (q1, .inl (x.2.1, 40, .inl (fun _ => 0))), (q2, .inl (x.2.1, 40, .inl (fun _ => 0))), (q3, .inl (x.2.1, 40, .inl (fun _ => 0))), (q4, .inl (x.2.2.2.1, 40, .inr (.inl (fun _ => 0)))), (q5, .inl (x.2.2.2.1, 40, .inr (.inl (fun _ => 0))))]) C5 hme 0 rfl rfl mU_X2 tyX2 tyX2_ok nmX2 5 (by decide) mF_X2_25 rfl rfl rfl (ty := .array .long) (by decide +kernel) rfl rfl (Nat.le_of_ble_eq_true rfl) rfl dX2_init_41 ?_
  exact g_vret (hr _ _ (fun k => if k = 16 then q1 else if k = 17 then q2 else if k = 18 then q3 else if k = 19 then q4 else if k = 20 then q5 else 0) (Nat.le_of_ble_eq_true rfl) (Nat.le_of_ble_eq_true rfl)) dX2_init_44
abbrev rmX4_init : Room := { frames := 3, cells := 20, slots := 802, locals := 63 }
set_option maxHeartbeats 8000000 in
set_option maxRecDepth 100000 in
theorem c_X4_init {l : Launch} {x : Ad} (h0 g : Nat) {S1 : Mem} (hf : f_X0_allot g (up (up (up S0 0 4 0) 0 5 0) 0 6 (-1)) 0 1 = some S1) : MC l x yX4_init kX4_init rmX4_init h0 [(h0, .inr (4, [.null, .null, .null, .null, .int 0, .int 0, .int 0, .int 0, .int 0, .int 0]))] 20 802 (fun u => cT (xu x (fun k => if k = 0 then h0 else u k)) S1) := by
  refine met_C RX4 (by decide +kernel) rfl rfl (by decide) ⟨rfl, rfl⟩ ?_
  intro p e s m below meth c A Q C hme hr
  refine g_aload_n C 0 rfl rfl dX4_init_0 ?_
  refine n_obj C mM_X4_3 (Nat.le_of_ble_eq_true rfl) (Nat.le_of_ble_eq_true rfl) dX4_init_1 ?_
  refine g_aload_n C 0 rfl rfl dX4_init_4 ?_
  refine n_newobj C (fs := [.null, .null, .null, .null, .null]) (ci := 0) mU_X0 tyX0 tyX0_ok mC_X4_9 mA_X0 mN_X0 rfl (fun j hj => by rcases (by omega : j = 0 ∨ j = 1 ∨ j = 2 ∨ j = 3 ∨ j = 4) with rfl | rfl | rfl | rfl | rfl <;> rfl) (Nat.le_of_ble_eq_true rfl) (Nat.le_of_ble_eq_true rfl) dX4_init_5 (fun q1 => ?_)
  have C1 := n_add C (a := 1) (b := 5) (Nat.le_of_ble_eq_true rfl) (Nat.le_of_ble_eq_true rfl)
  refine g_dup C1 rfl dX4_init_8 ?_
  refine n_ctor C1 (w := [(h0, .inr (4, [.null, .null, .null, .null, .int 0, .int 0, .int 0, .int 0, .int 0, .int 0]))]) (c_X0_init (l := l) (x := x) q1) mK_X0_init mM_X4_11 mI_X0_init mN_X0 rfl (by decide +kernel) rfl rfl ⟨by decide, by decide⟩ (Nat.le_of_ble_eq_true rfl) (Nat.le_of_ble_eq_true rfl) (Nat.le_of_ble_eq_true rfl) dX4_init_9 (fun u2 => ?_)
  have C2 := n_add C1 (a := 5) (b := 520) (Nat.le_of_ble_eq_true rfl) (Nat.le_of_ble_eq_true rfl)
  refine n_putF (w2 := [(h0, .inr (4, [.ref q1, .null, .null, .null, .int 0, .int 0, .int 0, .int 0, .int 0, .int 0])), (q1, .inr (0, [.ref (u2 2), .ref (u2 3), .ref (u2 4), .ref (u2 5), .ref (u2 6)])), (u2 2, .inl (x.2.1, 40, .inl (S0.1 2))), (u2 3, .inl (x.2.1, 40, .inl (S0.1 3))), (u2 4, .inl (x.2.1, 40, .inl (S0.1 4))), (u2 5, .inl (x.2.1, 200, .inl (S0.1 5))), (u2 6, .inl (x.2.1, 200, .inl (S0.1 6)))]) C2 hme 0 rfl rfl mU_X4 tyX4 tyX4_ok nmX4 0 (by decide) mF_X4_12 rfl rfl rfl (ty := .object "PagedTree$Disk") (by decide +kernel) rfl rfl (Nat.le_of_ble_eq_true rfl) rfl dX4_init_12 ?_
  refine g_aload_n C2 0 rfl rfl dX4_init_15 ?_
  refine n_newobj C2 (fs := [.null, .null, .null, .null, .int 0, .int 0, .int 0, .int 0]) (ci := 1) mU_X1 tyX1 tyX1_ok mC_X4_16 mA_X1 mN_X1 rfl (fun j hj => by rcases (by omega : j = 0 ∨ j = 1 ∨ j = 2 ∨ j = 3 ∨ j = 4 ∨ j = 5 ∨ j = 6 ∨ j = 7) with rfl | rfl | rfl | rfl | rfl | rfl | rfl | rfl <;> rfl) (Nat.le_of_ble_eq_true rfl) (Nat.le_of_ble_eq_true rfl) dX4_init_16 (fun q3 => ?_)
  have C3 := n_add C2 (a := 1) (b := 8) (Nat.le_of_ble_eq_true rfl) (Nat.le_of_ble_eq_true rfl)
  refine g_dup C3 rfl dX4_init_19 ?_
  refine n_ctor C3 (w := [(h0, .inr (4, [.ref q1, .null, .null, .null, .int 0, .int 0, .int 0, .int 0, .int 0, .int 0])), (q1, .inr (0, [.ref (u2 2), .ref (u2 3), .ref (u2 4), .ref (u2 5), .ref (u2 6)])), (u2 2, .inl (x.2.1, 40, .inl (S0.1 2))), (u2 3, .inl (x.2.1, 40, .inl (S0.1 3))), (u2 4, .inl (x.2.1, 40, .inl (S0.1 4))), (u2 5, .inl (x.2.1, 200, .inl (S0.1 5))), (u2 6, .inl (x.2.1, 200, .inl (S0.1 6)))]) (c_X1_init (l := l) (x := x) q3) mK_X1_init mM_X4_18 mI_X1_init mN_X1 rfl (by decide +kernel) rfl rfl ⟨by decide, by decide⟩ (Nat.le_of_ble_eq_true rfl) (Nat.le_of_ble_eq_true rfl) (Nat.le_of_ble_eq_true rfl) dX4_init_20 (fun u4 => ?_)
  have C4 := n_add C3 (a := 4) (b := 48) (Nat.le_of_ble_eq_true rfl) (Nat.le_of_ble_eq_true rfl)
  refine n_putF (w2 := [(h0, .inr (4, [.ref q1, .ref q3, .null, .null, .int 0, .int 0, .int 0, .int 0, .int 0, .int 0])), (q1, .inr (0, [.ref (u2 2), .ref (u2 3), .ref (u2 4), .ref (u2 5), .ref (u2 6)])), (u2 2, .inl (x.2.1, 40, .inl (S0.1 2))), (u2 3, .inl (x.2.1, 40, .inl (S0.1 3))), (u2 4, .inl (x.2.1, 40, .inl (S0.1 4))), (u2 5, .inl (x.2.1, 200, .inl (S0.1 5))), (u2 6, .inl (x.2.1, 200, .inl (S0.1 6))), (q3, .inr (1, [.ref (u4 8), .ref (u4 9), .ref (u4 10), .ref (u4 11), .int 0, .int 0, .int 0, .int 0])), (u4 8, .inl (x.2.1, 12, .inl (S0.1 8))), (u4 9, .inl (x.2.2.1, 12, .inl (S0.1 9))), (u4 10, .inl (x.2.2.1, 12, .inl (S0.1 10))), (u4 11, .inl (x.2.2.1, 12, .inl (S0.1 11)))]) C4 hme 0 rfl rfl mU_X4 tyX4 tyX4_ok nmX4 1 (by decide) mF_X4_19 rfl rfl rfl (ty := .object "PagedTree$Frames") (by decide +kernel) rfl rfl (Nat.le_of_ble_eq_true rfl) rfl dX4_init_23 ?_
  refine g_aload_n C4 0 rfl rfl dX4_init_26 ?_
  refine n_newobj C4 (fs := [.null, .null, .int 0]) (ci := 3) mU_X3 tyX3 tyX3_ok mC_X4_23 mA_X3 mN_X3 rfl (fun j hj => by rcases (by omega : j = 0 ∨ j = 1 ∨ j = 2) with rfl | rfl | rfl <;> rfl) (Nat.le_of_ble_eq_true rfl) (Nat.le_of_ble_eq_true rfl) dX4_init_27 (fun q5 => ?_)
  have C5 := n_add C4 (a := 1) (b := 3) (Nat.le_of_ble_eq_true rfl) (Nat.le_of_ble_eq_true rfl)
  refine g_dup C5 rfl dX4_init_30 ?_
  refine n_ctor C5 (w := [(h0, .inr (4, [.ref q1, .ref q3, .null, .null, .int 0, .int 0, .int 0, .int 0, .int 0, .int 0])), (q1, .inr (0, [.ref (u2 2), .ref (u2 3), .ref (u2 4), .ref (u2 5), .ref (u2 6)])), (u2 2, .inl (x.2.1, 40, .inl (S0.1 2))), (u2 3, .inl (x.2.1, 40, .inl (S0.1 3))), (u2 4, .inl (x.2.1, 40, .inl (S0.1 4))), (u2 5, .inl (x.2.1, 200, .inl (S0.1 5))), (u2 6, .inl (x.2.1, 200, .inl (S0.1 6))), (q3, .inr (1, [.ref (u4 8), .ref (u4 9), .ref (u4 10), .ref (u4 11), .int 0, .int 0, .int 0, .int 0])), (u4 8, .inl (x.2.1, 12, .inl (S0.1 8))), (u4 9, .inl (x.2.2.1, 12, .inl (S0.1 9))), (u4 10, .inl (x.2.2.1, 12, .inl (S0.1 10))), (u4 11, .inl (x.2.2.1, 12, .inl (S0.1 11)))]) (c_X3_init (l := l) (x := x) q5) mK_X3_init mM_X4_25 mI_X3_init mN_X3 rfl (by decide +kernel) rfl rfl ⟨by decide, by decide⟩ (Nat.le_of_ble_eq_true rfl) (Nat.le_of_ble_eq_true rfl) (Nat.le_of_ble_eq_true rfl) dX4_init_31 (fun u6 => ?_)
  have C6 := n_add C5 (a := 2) (b := 12) (Nat.le_of_ble_eq_true rfl) (Nat.le_of_ble_eq_true rfl)
  refine n_putF (w2 := [(h0, .inr (4, [.ref q1, .ref q3, .ref q5, .null, .int 0, .int 0, .int 0, .int 0, .int 0, .int 0])), (q1, .inr (0, [.ref (u2 2), .ref (u2 3), .ref (u2 4), .ref (u2 5), .ref (u2 6)])), (u2 2, .inl (x.2.1, 40, .inl (S0.1 2))), (u2 3, .inl (x.2.1, 40, .inl (S0.1 3))), (u2 4, .inl (x.2.1, 40, .inl (S0.1 4))), (u2 5, .inl (x.2.1, 200, .inl (S0.1 5))), (u2 6, .inl (x.2.1, 200, .inl (S0.1 6))), (q3, .inr (1, [.ref (u4 8), .ref (u4 9), .ref (u4 10), .ref (u4 11), .int 0, .int 0, .int 0, .int 0])), (u4 8, .inl (x.2.1, 12, .inl (S0.1 8))), (u4 9, .inl (x.2.2.1, 12, .inl (S0.1 9))), (u4 10, .inl (x.2.2.1, 12, .inl (S0.1 10))), (u4 11, .inl (x.2.2.1, 12, .inl (S0.1 11))), (q5, .inr (3, [.ref (u6 13), .ref (u6 14), .int 0])), (u6 13, .inl (x.2.1, 6, .inl (S0.1 13))), (u6 14, .inl (x.2.1, 6, .inl (S0.1 14)))]) C6 hme 0 rfl rfl mU_X4 tyX4 tyX4_ok nmX4 2 (by decide) mF_X4_26 rfl rfl rfl (ty := .object "PagedTree$Way") (by decide +kernel) rfl rfl (Nat.le_of_ble_eq_true rfl) rfl dX4_init_34 ?_
  refine g_aload_n C6 0 rfl rfl dX4_init_37 ?_
  refine n_newobj C6 (fs := [.null, .int 0, .null, .null, .null, .null]) (ci := 2) mU_X2 tyX2 tyX2_ok mC_X4_30 mA_X2 mN_X2 rfl (fun j hj => by rcases (by omega : j = 0 ∨ j = 1 ∨ j = 2 ∨ j = 3 ∨ j = 4 ∨ j = 5) with rfl | rfl | rfl | rfl | rfl | rfl <;> rfl) (Nat.le_of_ble_eq_true rfl) (Nat.le_of_ble_eq_true rfl) dX4_init_38 (fun q7 => ?_)
  have C7 := n_add C6 (a := 1) (b := 6) (Nat.le_of_ble_eq_true rfl) (Nat.le_of_ble_eq_true rfl)
  refine g_dup C7 rfl dX4_init_41 ?_
  refine n_ctor C7 (w := [(h0, .inr (4, [.ref q1, .ref q3, .ref q5, .null, .int 0, .int 0, .int 0, .int 0, .int 0, .int 0])), (q1, .inr (0, [.ref (u2 2), .ref (u2 3), .ref (u2 4), .ref (u2 5), .ref (u2 6)])), (u2 2, .inl (x.2.1, 40, .inl (S0.1 2))), (u2 3, .inl (x.2.1, 40, .inl (S0.1 3))), (u2 4, .inl (x.2.1, 40, .inl (S0.1 4))), (u2 5, .inl (x.2.1, 200, .inl (S0.1 5))), (u2 6, .inl (x.2.1, 200, .inl (S0.1 6))), (q3, .inr (1, [.ref (u4 8), .ref (u4 9), .ref (u4 10), .ref (u4 11), .int 0, .int 0, .int 0, .int 0])), (u4 8, .inl (x.2.1, 12, .inl (S0.1 8))), (u4 9, .inl (x.2.2.1, 12, .inl (S0.1 9))), (u4 10, .inl (x.2.2.1, 12, .inl (S0.1 10))), (u4 11, .inl (x.2.2.1, 12, .inl (S0.1 11))), (q5, .inr (3, [.ref (u6 13), .ref (u6 14), .int 0])), (u6 13, .inl (x.2.1, 6, .inl (S0.1 13))), (u6 14, .inl (x.2.1, 6, .inl (S0.1 14)))]) (c_X2_init (l := l) (x := x) q7) mK_X2_init mM_X4_32 mI_X2_init mN_X2 rfl (by decide +kernel) rfl rfl ⟨by decide, by decide⟩ (Nat.le_of_ble_eq_true rfl) (Nat.le_of_ble_eq_true rfl) (Nat.le_of_ble_eq_true rfl) dX4_init_42 (fun u8 => ?_)
  have C8 := n_add C7 (a := 5) (b := 200) (Nat.le_of_ble_eq_true rfl) (Nat.le_of_ble_eq_true rfl)
  refine n_putF (w2 := [(h0, .inr (4, [.ref q1, .ref q3, .ref q5, .ref q7, .int 0, .int 0, .int 0, .int 0, .int 0, .int 0])), (q1, .inr (0, [.ref (u2 2), .ref (u2 3), .ref (u2 4), .ref (u2 5), .ref (u2 6)])), (u2 2, .inl (x.2.1, 40, .inl (S0.1 2))), (u2 3, .inl (x.2.1, 40, .inl (S0.1 3))), (u2 4, .inl (x.2.1, 40, .inl (S0.1 4))), (u2 5, .inl (x.2.1, 200, .inl (S0.1 5))), (u2 6, .inl (x.2.1, 200, .inl (S0.1 6))), (q3, .inr (1, [.ref (u4 8), .ref (u4 9), .ref (u4 10), .ref (u4 11), .int 0, .int 0, .int 0, .int 0])), (u4 8, .inl (x.2.1, 12, .inl (S0.1 8))), (u4 9, .inl (x.2.2.1, 12, .inl (S0.1 9))), (u4 10, .inl (x.2.2.1, 12, .inl (S0.1 10))), (u4 11, .inl (x.2.2.1, 12, .inl (S0.1 11))), (q5, .inr (3, [.ref (u6 13), .ref (u6 14), .int 0])), (u6 13, .inl (x.2.1, 6, .inl (S0.1 13))), (u6 14, .inl (x.2.1, 6, .inl (S0.1 14))), (q7, .inr (2, [.ref (u8 16), .int 0, .ref (u8 17), .ref (u8 18), .ref (u8 19), .ref (u8 20)])), (u8 16, .inl (x.2.1, 40, .inl (S0.1 16))), (u8 17, .inl (x.2.1, 40, .inl (S0.1 17))), (u8 18, .inl (x.2.1, 40, .inl (S0.1 18))), (u8 19, .inl (x.2.2.2.1, 40, .inr (.inl (S0.2 19)))), (u8 20, .inl (x.2.2.2.1, 40, .inr (.inl (S0.2 20))))]) C8 hme 0 rfl rfl mU_X4 tyX4 tyX4_ok nmX4 3 (by decide) mF_X4_33 rfl rfl rfl (ty := .object "PagedTree$Survey") (by decide +kernel) rfl rfl (Nat.le_of_ble_eq_true rfl) rfl dX4_init_45 ?_
  obtain ⟨h, hh⟩ : ∃ h : Nat → Nat, h = (fun k => if k = 0 then h0 else if k = 1 then q1 else if k ≤ 6 then u2 k else if k = 7 then q3 else if k ≤ 11 then u4 k else if k = 12 then q5 else if k ≤ 14 then u6 k else if k = 15 then q7 else u8 k) := ⟨_, rfl⟩
  have hh0 : h 0 = h0 := by rw [hh]; rfl
  have Cx9 : Cx (p, l, e, rmX4_init, s, m, [Value.ref h0].toArray, below, meth, c, A, 1, 0 + 1 + 5 + 1 + 4 + 1 + 2 + 1 + 5, 0 + 5 + 520 + 8 + 48 + 3 + 12 + 6 + 200, Q) (xu x h) cX4_init RX4 kX4_init rmX4_init 1 := C8
  have key : GG (p, l, e, rmX4_init, s, m, [Value.ref h0].toArray, below, meth, c, A, 1, 0 + 1 + 5 + 1 + 4 + 1 + 2 + 1 + 5, 0 + 5 + 520 + 8 + 48 + 3 + 12 + 6 + 200, Q) (xu x h) (cT (xu x h) S0) 48 [(0, .ref (ax (xu x h) 0))] [] := by
    refine g_aload_n Cx9 0 rfl rfl dX4_init_48 ?_
    refine g_iconst Cx9 (v := 0) (by decide) dX4_init_49 ?_
    refine tP_X4_37 Cx9 dX4_init_50 ?_
    refine g_aload_n Cx9 0 rfl rfl dX4_init_53 ?_
    refine g_iconst Cx9 (v := 0) (by decide) dX4_init_54 ?_
    refine tP_X4_41 Cx9 dX4_init_55 ?_
    refine g_aload_n Cx9 0 rfl rfl dX4_init_58 ?_
    refine g_iconst Cx9 (v := -1) (by decide) dX4_init_59 ?_
    refine tP_X4_44 Cx9 dX4_init_60 ?_
    refine g_aload_n Cx9 0 rfl rfl dX4_init_63 ?_
    refine tF_X4_12 Cx9 dX4_init_64 ?_
    refine g_aload_n Cx9 0 rfl rfl dX4_init_67 ?_
    refine tF_X4_37 Cx9 dX4_init_68 ?_
    refine g_iconst Cx9 (v := 1) (by decide) dX4_init_71 ?_
    refine g_callVV Cx9 (n := 2) (st := []) (c_X0_allot g _ 0 1 hf) (tb_wsV _ mM_X4_47 mI_X0_allot mS_X0_allot mN_X0 mK_X0_allot) (by decide +kernel) rfl rfl ⟨by decide, by decide⟩ 1 0 rfl rfl rfl (Nat.le_of_ble_eq_true rfl) dX4_init_72 rfl ?_
    have hr9 := hr _ _ h (Nat.le_refl _) (Nat.le_refl _)
    have e9 : (fun k => if k = 0 then h0 else h k) = h := by
      funext k
      by_cases hk : k = 0
      · rw [if_pos hk, hk, hh0]
      · rw [if_neg hk]
    rw [e9] at hr9
    exact g_vret hr9 dX4_init_75
  subst hh
  exact key
