abbrev rmX5_init : Room := { frames := 1, cells := 11, slots := 668, locals := 23 }
def f_X5_init_103 (g : Nat)  (kx : Mem → Option (Mem)) : Nat → Mem → Int32 → Option (Mem)
  | 0, _, _ => none
  | n + 1, S, w1 => if 40 ≤ w1 then (kx S) else (gd (ix_in w1 40) (f_X5_init_103 g kx n (up S 5 w1.toNatClampNeg ((-1))) (w1 + 1)))
def f_X5_init_124 (g : Nat)  : Nat → Mem → Int32 → Option (Mem)
  | 0, _, _ => none
  | n + 1, S, w1 => if 12 ≤ w1 then (some S) else (gd (ix_in w1 12) (f_X5_init_124 g n (up S 8 w1.toNatClampNeg ((-1))) (w1 + 1)))
set_option maxHeartbeats 4000000 in
set_option maxRecDepth 100000 in
theorem lp_X5_init_103 {κ : Kx} {x : Ad} (C : Cx κ x cX5_init RX5 kX5_init rmX5_init 2) {z : Mem} (hr : RV κ x cX5_init (cM x z)) (g : Nat)  (kx : Mem → Option (Mem)) (hk : ∀ (S1 : Mem), kx S1 = some z → GG κ x (cM x S1) 122 [(0, .ref (ax x 30))] []) : ∀ (n : Nat) (S : Mem) (w1 : Int32), f_X5_init_103 g kx n S w1 = some z → GG κ x (cM x S) 103 [(0, .ref (ax x 30)), (1, .int w1)] [] := by
  intro n
  induction n with
  | zero => intro S w1 hf; cases hf
  | succ n ih =>
    intro S w1 hf
    rw [f_X5_init_103] at hf
    refine g_iload_n C 1 rfl rfl dX5_init_103 ?_
    refine g_bipush C (v := 40) (by decide) dX5_init_104 ?_
    refine g_icmp_ge C 122 (by decide) dX5_init_106 (fun h2 => ?_) (fun h2 => ?_)
    · rw [if_pos h2] at hf
      refine g_sub [0] rfl ?_
      exact hk S hf
    · rw [if_neg h2] at hf
      refine g_aload_n C 0 rfl rfl dX5_init_109 ?_
      refine rF_X5_22 C dX5_init_110 ?_
      refine g_iload_n C 1 rfl rfl dX5_init_113 ?_
      refine g_iconst C (v := (-1)) (by decide) dX5_init_114 ?_
      obtain ⟨h3, hf⟩ := gd_some hf
      refine rS_5 C h3 dX5_init_115 ?_
      refine g_iinc C (v := w1 + 1) (lv2 := [(1, .int (w1 + 1)), (0, .ref (ax x 30))]) 1 rfl (by rw [(by decide : Int32.ofInt 1 = 1)]) (by decide) rfl dX5_init_116 ?_
      refine g_goto C 103 (by decide) dX5_init_119 ?_
      refine g_sub [1, 0] rfl ?_
      exact ih (up S 5 w1.toNatClampNeg ((-1))) (w1 + 1) hf
set_option maxHeartbeats 4000000 in
set_option maxRecDepth 100000 in
theorem lp_X5_init_124 {κ : Kx} {x : Ad} (C : Cx κ x cX5_init RX5 kX5_init rmX5_init 2) {z : Mem} (hr : RV κ x cX5_init (cM x z)) (g : Nat)  : ∀ (n : Nat) (S : Mem) (w1 : Int32), f_X5_init_124 g n S w1 = some z → GG κ x (cM x S) 124 [(0, .ref (ax x 30)), (1, .int w1)] [] := by
  intro n
  induction n with
  | zero => intro S w1 hf; cases hf
  | succ n ih =>
    intro S w1 hf
    rw [f_X5_init_124] at hf
    refine g_iload_n C 1 rfl rfl dX5_init_124 ?_
    refine g_bipush C (v := 12) (by decide) dX5_init_125 ?_
    refine g_icmp_ge C 143 (by decide) dX5_init_127 (fun h5 => ?_) (fun h5 => ?_)
    · rw [if_pos h5] at hf
      obtain rfl := Option.some.inj hf
      exact g_vret hr dX5_init_143
    · rw [if_neg h5] at hf
      refine g_aload_n C 0 rfl rfl dX5_init_130 ?_
      refine rF_X5_31 C dX5_init_131 ?_
      refine g_iload_n C 1 rfl rfl dX5_init_134 ?_
      refine g_iconst C (v := (-1)) (by decide) dX5_init_135 ?_
      obtain ⟨h6, hf⟩ := gd_some hf
      refine rS_8 C h6 dX5_init_136 ?_
      refine g_iinc C (v := w1 + 1) (lv2 := [(1, .int (w1 + 1)), (0, .ref (ax x 30))]) 1 rfl (by rw [(by decide : Int32.ofInt 1 = 1)]) (by decide) rfl dX5_init_137 ?_
      refine g_goto C 124 (by decide) dX5_init_140 ?_
      refine g_sub [1, 0] rfl ?_
      exact ih (up S 8 w1.toNatClampNeg ((-1))) (w1 + 1) hf
def f_X5_initT (g : Nat) : Option Mem := gd (ix_in 0 40) (f_X5_init_103 g (fun (S4 : Mem) => f_X5_init_124 g g S4 0) g (up R0 1 (0 : Int32).toNatClampNeg 1) 0)
set_option maxHeartbeats 8000000 in
set_option maxRecDepth 100000 in
theorem c_X5_init {l : Launch} {x : Ad} (h0 g : Nat) {z : Mem} (hf : f_X5_initT g = some z) : MC l x yX5_init kX5_init rmX5_init h0 [(h0, .inr (5, [.int 0, .null, .null, .null, .null, .null, .int 0, .int 0, .int 0, .null, .null, .null, .null, .null, .null, .int 0, .int 0, .int 0, .int 0, .int 0, .int 0, .int 0, .int 0, .int 0]))] 11 668 (fun u => cM (xu x (fun k => if k = 30 then h0 else u k)) z) := by
  refine met_C RX5 (by decide +kernel) rfl rfl (by decide) ⟨rfl, rfl⟩ ?_
  intro p e s m below meth c A Q C hme hr
  refine g_aload_n C 0 rfl rfl dX5_init_0 ?_
  refine n_obj C mM_X5_1 (Nat.le_of_ble_eq_true rfl) (Nat.le_of_ble_eq_true rfl) dX5_init_1 ?_
  refine g_aload_n C 0 rfl rfl dX5_init_4 ?_
  refine g_bipush C (v := 40) (by decide) dX5_init_5 ?_
  refine n_new_int C (N := 40) (by decide) (by decide) (by decide) (Nat.le_of_ble_eq_true rfl) (Nat.le_of_ble_eq_true rfl) dX5_init_7 (fun q1 => ?_)
  have C1 := n_add C (a := 1) (b := 40) (Nat.le_of_ble_eq_true rfl) (Nat.le_of_ble_eq_true rfl)
  refine n_putF (w2 := [(h0, .inr (5, [.int 0, .ref q1, .null, .null, .null, .null, .int 0, .int 0, .int 0, .null, .null, .null, .null, .null, .null, .int 0, .int 0, .int 0, .int 0, .int 0, .int 0, .int 0, .int 0, .int 0])), (q1, .inl (x.2.1, 40, .inl (fun _ => 0)))]) C1 hme 0 rfl rfl mU_X5 tyX5 tyX5_ok nmX5 1 (by decide) mF_X5_7 rfl rfl rfl (ty := .array .int) (by decide +kernel) rfl rfl (Nat.le_of_ble_eq_true rfl) rfl dX5_init_9 ?_
  refine g_aload_n C1 0 rfl rfl dX5_init_12 ?_
  refine g_bipush C1 (v := 40) (by decide) dX5_init_13 ?_
  refine n_new_int C1 (N := 40) (by decide) (by decide) (by decide) (Nat.le_of_ble_eq_true rfl) (Nat.le_of_ble_eq_true rfl) dX5_init_15 (fun q2 => ?_)
  have C2 := n_add C1 (a := 1) (b := 40) (Nat.le_of_ble_eq_true rfl) (Nat.le_of_ble_eq_true rfl)
  refine n_putF (w2 := [(h0, .inr (5, [.int 0, .ref q1, .ref q2, .null, .null, .null, .int 0, .int 0, .int 0, .null, .null, .null, .null, .null, .null, .int 0, .int 0, .int 0, .int 0, .int 0, .int 0, .int 0, .int 0, .int 0])), (q1, .inl (x.2.1, 40, .inl (fun _ => 0))), (q2, .inl (x.2.1, 40, .inl (fun _ => 0)))]) C2 hme 0 rfl rfl mU_X5 tyX5 tyX5_ok nmX5 2 (by decide) mF_X5_13 rfl rfl rfl (ty := .array .int) (by decide +kernel) rfl rfl (Nat.le_of_ble_eq_true rfl) rfl dX5_init_17 ?_
  refine g_aload_n C2 0 rfl rfl dX5_init_20 ?_
  refine g_sipush C2 (v := 200) (by decide) dX5_init_21 ?_
  refine n_new_int C2 (N := 200) (by decide) (by decide) (by decide) (Nat.le_of_ble_eq_true rfl) (Nat.le_of_ble_eq_true rfl) dX5_init_24 (fun q3 => ?_)
  have C3 := n_add C2 (a := 1) (b := 200) (Nat.le_of_ble_eq_true rfl) (Nat.le_of_ble_eq_true rfl)
  refine n_putF (w2 := [(h0, .inr (5, [.int 0, .ref q1, .ref q2, .ref q3, .null, .null, .int 0, .int 0, .int 0, .null, .null, .null, .null, .null, .null, .int 0, .int 0, .int 0, .int 0, .int 0, .int 0, .int 0, .int 0, .int 0])), (q1, .inl (x.2.1, 40, .inl (fun _ => 0))), (q2, .inl (x.2.1, 40, .inl (fun _ => 0))), (q3, .inl (x.2.1, 200, .inl (fun _ => 0)))]) C3 hme 0 rfl rfl mU_X5 tyX5 tyX5_ok nmX5 3 (by decide) mF_X5_16 rfl rfl rfl (ty := .array .int) (by decide +kernel) rfl rfl (Nat.le_of_ble_eq_true rfl) rfl dX5_init_26 ?_
  refine g_aload_n C3 0 rfl rfl dX5_init_29 ?_
  refine g_sipush C3 (v := 200) (by decide) dX5_init_30 ?_
  refine n_new_int C3 (N := 200) (by decide) (by decide) (by decide) (Nat.le_of_ble_eq_true rfl) (Nat.le_of_ble_eq_true rfl) dX5_init_33 (fun q4 => ?_)
  have C4 := n_add C3 (a := 1) (b := 200) (Nat.le_of_ble_eq_true rfl) (Nat.le_of_ble_eq_true rfl)
  refine n_putF (w2 := [(h0, .inr (5, [.int 0, .ref q1, .ref q2, .ref q3, .ref q4, .null, .int 0, .int 0, .int 0, .null, .null, .null, .null, .null, .null, .int 0, .int 0, .int 0, .int 0, .int 0, .int 0, .int 0, .int 0, .int 0])), (q1, .inl (x.2.1, 40, .inl (fun _ => 0))), (q2, .inl (x.2.1, 40, .inl (fun _ => 0))), (q3, .inl (x.2.1, 200, .inl (fun _ => 0))), (q4, .inl (x.2.1, 200, .inl (fun _ => 0)))]) C4 hme 0 rfl rfl mU_X5 tyX5 tyX5_ok nmX5 4 (by decide) mF_X5_19 rfl rfl rfl (ty := .array .int) (by decide +kernel) rfl rfl (Nat.le_of_ble_eq_true rfl) rfl dX5_init_35 ?_
  refine g_aload_n C4 0 rfl rfl dX5_init_38 ?_
  refine g_bipush C4 (v := 40) (by decide) dX5_init_39 ?_
  refine n_new_int C4 (N := 40) (by decide) (by decide) (by decide) (Nat.le_of_ble_eq_true rfl) (Nat.le_of_ble_eq_true rfl) dX5_init_41 (fun q5 => ?_)
  have C5 := n_add C4 (a := 1) (b := 40) (Nat.le_of_ble_eq_true rfl) (Nat.le_of_ble_eq_true rfl)
  refine n_putF (w2 := [(h0, .inr (5, [.int 0, .ref q1, .ref q2, .ref q3, .ref q4, .ref q5, .int 0, .int 0, .int 0, .null, .null, .null, .null, .null, .null, .int 0, .int 0, .int 0, .int 0, .int 0, .int 0, .int 0, .int 0, .int 0])), (q1, .inl (x.2.1, 40, .inl (fun _ => 0))), (q2, .inl (x.2.1, 40, .inl (fun _ => 0))), (q3, .inl (x.2.1, 200, .inl (fun _ => 0))), (q4, .inl (x.2.1, 200, .inl (fun _ => 0))), (q5, .inl (x.2.1, 40, .inl (fun _ => 0)))]) C5 hme 0 rfl rfl mU_X5 tyX5 tyX5_ok nmX5 5 (by decide) mF_X5_22 rfl rfl rfl (ty := .array .int) (by decide +kernel) rfl rfl (Nat.le_of_ble_eq_true rfl) rfl dX5_init_43 ?_
  refine g_aload_n C5 0 rfl rfl dX5_init_46 ?_
  refine g_bipush C5 (v := 50) (by decide) dX5_init_47 ?_
  refine n_new_int C5 (N := 50) (by decide) (by decide) (by decide) (Nat.le_of_ble_eq_true rfl) (Nat.le_of_ble_eq_true rfl) dX5_init_49 (fun q6 => ?_)
  have C6 := n_add C5 (a := 1) (b := 50) (Nat.le_of_ble_eq_true rfl) (Nat.le_of_ble_eq_true rfl)
  refine n_putF (w2 := [(h0, .inr (5, [.int 0, .ref q1, .ref q2, .ref q3, .ref q4, .ref q5, .int 0, .int 0, .int 0, .ref q6, .null, .null, .null, .null, .null, .int 0, .int 0, .int 0, .int 0, .int 0, .int 0, .int 0, .int 0, .int 0])), (q1, .inl (x.2.1, 40, .inl (fun _ => 0))), (q2, .inl (x.2.1, 40, .inl (fun _ => 0))), (q3, .inl (x.2.1, 200, .inl (fun _ => 0))), (q4, .inl (x.2.1, 200, .inl (fun _ => 0))), (q5, .inl (x.2.1, 40, .inl (fun _ => 0))), (q6, .inl (x.2.1, 50, .inl (fun _ => 0)))]) C6 hme 0 rfl rfl mU_X5 tyX5 tyX5_ok nmX5 9 (by decide) mF_X5_25 rfl rfl rfl (ty := .array .int) (by decide +kernel) rfl rfl (Nat.le_of_ble_eq_true rfl) rfl dX5_init_51 ?_
  refine g_aload_n C6 0 rfl rfl dX5_init_54 ?_
  refine g_bipush C6 (v := 50) (by decide) dX5_init_55 ?_
  refine n_new_int C6 (N := 50) (by decide) (by decide) (by decide) (Nat.le_of_ble_eq_true rfl) (Nat.le_of_ble_eq_true rfl) dX5_init_57 (fun q7 => ?_)
  have C7 := n_add C6 (a := 1) (b := 50) (Nat.le_of_ble_eq_true rfl) (Nat.le_of_ble_eq_true rfl)
  refine n_putF (w2 := [(h0, .inr (5, [.int 0, .ref q1, .ref q2, .ref q3, .ref q4, .ref q5, .int 0, .int 0, .int 0, .ref q6, .ref q7, .null, .null, .null, .null, .int 0, .int 0, .int 0, .int 0, .int 0, .int 0, .int 0, .int 0, .int 0])), (q1, .inl (x.2.1, 40, .inl (fun _ => 0))), (q2, .inl (x.2.1, 40, .inl (fun _ => 0))), (q3, .inl (x.2.1, 200, .inl (fun _ => 0))), (q4, .inl (x.2.1, 200, .inl (fun _ => 0))), (q5, .inl (x.2.1, 40, .inl (fun _ => 0))), (q6, .inl (x.2.1, 50, .inl (fun _ => 0))), (q7, .inl (x.2.1, 50, .inl (fun _ => 0)))]) C7 hme 0 rfl rfl mU_X5 tyX5 tyX5_ok nmX5 10 (by decide) mF_X5_28 rfl rfl rfl (ty := .array .int) (by decide +kernel) rfl rfl (Nat.le_of_ble_eq_true rfl) rfl dX5_init_59 ?_
  refine g_aload_n C7 0 rfl rfl dX5_init_62 ?_
  refine g_bipush C7 (v := 12) (by decide) dX5_init_63 ?_
  refine n_new_int C7 (N := 12) (by decide) (by decide) (by decide) (Nat.le_of_ble_eq_true rfl) (Nat.le_of_ble_eq_true rfl) dX5_init_65 (fun q8 => ?_)
  have C8 := n_add C7 (a := 1) (b := 12) (Nat.le_of_ble_eq_true rfl) (Nat.le_of_ble_eq_true rfl)
  refine n_putF (w2 := [(h0, .inr (5, [.int 0, .ref q1, .ref q2, .ref q3, .ref q4, .ref q5, .int 0, .int 0, .int 0, .ref q6, .ref q7, .ref q8, .null, .null, .null, .int 0, .int 0, .int 0, .int 0, .int 0, .int 0, .int 0, .int 0, .int 0])), (q1, .inl (x.2.1, 40, .inl (fun _ => 0))), (q2, .inl (x.2.1, 40, .inl (fun _ => 0))), (q3, .inl (x.2.1, 200, .inl (fun _ => 0))), (q4, .inl (x.2.1, 200, .inl (fun _ => 0))), (q5, .inl (x.2.1, 40, .inl (fun _ => 0))), (q6, .inl (x.2.1, 50, .inl (fun _ => 0))), (q7, .inl (x.2.1, 50, .inl (fun _ => 0))), (q8, .inl (x.2.1, 12, .inl (fun _ => 0)))]) C8 hme 0 rfl rfl mU_X5 tyX5 tyX5_ok nmX5 11 (by decide) mF_X5_31 rfl rfl rfl (ty := .array .int) (by decide +kernel) rfl rfl (Nat.le_of_ble_eq_true rfl) rfl dX5_init_67 ?_
  refine g_aload_n C8 0 rfl rfl dX5_init_70 ?_
  refine g_bipush C8 (v := 12) (by decide) dX5_init_71 ?_
  refine n_new_boolean C8 (N := 12) (by decide) (by decide) (by decide) (Nat.le_of_ble_eq_true rfl) (Nat.le_of_ble_eq_true rfl) dX5_init_73 (fun q9 => ?_)
  have C9 := n_add C8 (a := 1) (b := 12) (Nat.le_of_ble_eq_true rfl) (Nat.le_of_ble_eq_true rfl)
  refine n_putF (w2 := [(h0, .inr (5, [.int 0, .ref q1, .ref q2, .ref q3, .ref q4, .ref q5, .int 0, .int 0, .int 0, .ref q6, .ref q7, .ref q8, .ref q9, .null, .null, .int 0, .int 0, .int 0, .int 0, .int 0, .int 0, .int 0, .int 0, .int 0])), (q1, .inl (x.2.1, 40, .inl (fun _ => 0))), (q2, .inl (x.2.1, 40, .inl (fun _ => 0))), (q3, .inl (x.2.1, 200, .inl (fun _ => 0))), (q4, .inl (x.2.1, 200, .inl (fun _ => 0))), (q5, .inl (x.2.1, 40, .inl (fun _ => 0))), (q6, .inl (x.2.1, 50, .inl (fun _ => 0))), (q7, .inl (x.2.1, 50, .inl (fun _ => 0))), (q8, .inl (x.2.1, 12, .inl (fun _ => 0))), (q9, .inl (x.2.2.1, 12, .inl (fun _ => 0)))]) C9 hme 0 rfl rfl mU_X5 tyX5 tyX5_ok nmX5 12 (by decide) mF_X5_34 rfl rfl rfl (ty := .array .boolean) (by decide +kernel) rfl rfl (Nat.le_of_ble_eq_true rfl) rfl dX5_init_75 ?_
  refine g_aload_n C9 0 rfl rfl dX5_init_78 ?_
  refine g_bipush C9 (v := 12) (by decide) dX5_init_79 ?_
  refine n_new_boolean C9 (N := 12) (by decide) (by decide) (by decide) (Nat.le_of_ble_eq_true rfl) (Nat.le_of_ble_eq_true rfl) dX5_init_81 (fun q10 => ?_)
  have C10 := n_add C9 (a := 1) (b := 12) (Nat.le_of_ble_eq_true rfl) (Nat.le_of_ble_eq_true rfl)
  refine n_putF (w2 := [(h0, .inr (5, [.int 0, .ref q1, .ref q2, .ref q3, .ref q4, .ref q5, .int 0, .int 0, .int 0, .ref q6, .ref q7, .ref q8, .ref q9, .ref q10, .null, .int 0, .int 0, .int 0, .int 0, .int 0, .int 0, .int 0, .int 0, .int 0])), (q1, .inl (x.2.1, 40, .inl (fun _ => 0))), (q2, .inl (x.2.1, 40, .inl (fun _ => 0))), (q3, .inl (x.2.1, 200, .inl (fun _ => 0))), (q4, .inl (x.2.1, 200, .inl (fun _ => 0))), (q5, .inl (x.2.1, 40, .inl (fun _ => 0))), (q6, .inl (x.2.1, 50, .inl (fun _ => 0))), (q7, .inl (x.2.1, 50, .inl (fun _ => 0))), (q8, .inl (x.2.1, 12, .inl (fun _ => 0))), (q9, .inl (x.2.2.1, 12, .inl (fun _ => 0))), (q10, .inl (x.2.2.1, 12, .inl (fun _ => 0)))]) C10 hme 0 rfl rfl mU_X5 tyX5 tyX5_ok nmX5 13 (by decide) mF_X5_38 rfl rfl rfl (ty := .array .boolean) (by decide +kernel) rfl rfl (Nat.le_of_ble_eq_true rfl) rfl dX5_init_83 ?_
  refine g_aload_n C10 0 rfl rfl dX5_init_86 ?_
  refine g_bipush C10 (v := 12) (by decide) dX5_init_87 ?_
  refine n_new_boolean C10 (N := 12) (by decide) (by decide) (by decide) (Nat.le_of_ble_eq_true rfl) (Nat.le_of_ble_eq_true rfl) dX5_init_89 (fun q11 => ?_)
  have C11 := n_add C10 (a := 1) (b := 12) (Nat.le_of_ble_eq_true rfl) (Nat.le_of_ble_eq_true rfl)
  refine n_putF (w2 := [(h0, .inr (5, [.int 0, .ref q1, .ref q2, .ref q3, .ref q4, .ref q5, .int 0, .int 0, .int 0, .ref q6, .ref q7, .ref q8, .ref q9, .ref q10, .ref q11, .int 0, .int 0, .int 0, .int 0, .int 0, .int 0, .int 0, .int 0, .int 0])), (q1, .inl (x.2.1, 40, .inl (fun _ => 0))), (q2, .inl (x.2.1, 40, .inl (fun _ => 0))), (q3, .inl (x.2.1, 200, .inl (fun _ => 0))), (q4, .inl (x.2.1, 200, .inl (fun _ => 0))), (q5, .inl (x.2.1, 40, .inl (fun _ => 0))), (q6, .inl (x.2.1, 50, .inl (fun _ => 0))), (q7, .inl (x.2.1, 50, .inl (fun _ => 0))), (q8, .inl (x.2.1, 12, .inl (fun _ => 0))), (q9, .inl (x.2.2.1, 12, .inl (fun _ => 0))), (q10, .inl (x.2.2.1, 12, .inl (fun _ => 0))), (q11, .inl (x.2.2.1, 12, .inl (fun _ => 0)))]) C11 hme 0 rfl rfl mU_X5 tyX5 tyX5_ok nmX5 14 (by decide) mF_X5_41 rfl rfl rfl (ty := .array .boolean) (by decide +kernel) rfl rfl (Nat.le_of_ble_eq_true rfl) rfl dX5_init_91 ?_
  obtain ⟨h, hh⟩ : ∃ h : Nat → Nat, h = (fun k => if k = 30 then h0 else if k = 31 then q1 else if k = 32 then q2 else if k = 33 then q3 else if k = 34 then q4 else if k = 35 then q5 else if k = 36 then q6 else if k = 37 then q7 else if k = 38 then q8 else if k = 39 then q9 else if k = 40 then q10 else if k = 41 then q11 else 0) := ⟨_, rfl⟩
  have hh0 : h 30 = h0 := by rw [hh]; rfl
  have C9 : Cx (p, l, e, rmX5_init, s, m, [Value.ref h0].toArray, below, meth, c, A, 2, 0 + 1 + 1 + 1 + 1 + 1 + 1 + 1 + 1 + 1 + 1 + 1, 0 + 40 + 40 + 200 + 200 + 40 + 50 + 50 + 12 + 12 + 12 + 12, Q) (xu x h) cX5_init RX5 kX5_init rmX5_init 2 := C11
  have hr9 := hr (0 + 1 + 1 + 1 + 1 + 1 + 1 + 1 + 1 + 1 + 1 + 1) (0 + 40 + 40 + 200 + 200 + 40 + 50 + 50 + 12 + 12 + 12 + 12) h (Nat.le_of_ble_eq_true rfl) (Nat.le_of_ble_eq_true rfl)
  have e9 : (fun k => if k = 30 then h0 else h k) = h := by
    funext k
    by_cases hk : k = 30
    · rw [if_pos hk, hk, hh0]
    · rw [if_neg hk]
  rw [e9] at hr9
  have key : ∀ (κ : Kx) (x : Ad), Cx κ x cX5_init RX5 kX5_init rmX5_init 2 → RV κ x cX5_init (cM x z) → GG κ x (cM x R0) 94 [(0, .ref (ax x 30))] [] := by
    intro κ x C hr
    rw [f_X5_initT] at hf
    refine g_aload_n C 0 rfl rfl dX5_init_94 ?_
    refine rF_X5_7 C dX5_init_95 ?_
    refine g_iconst C (v := 0) (by decide) dX5_init_98 ?_
    refine g_iconst C (v := 1) (by decide) dX5_init_99 ?_
    obtain ⟨h1, hf⟩ := gd_some hf
    refine rS_1 C h1 dX5_init_100 ?_
    refine g_iconst C (v := 0) (by decide) dX5_init_101 ?_
    refine g_istore_n C (lv2 := [(1, .int 0), (0, .ref (ax x 30))]) rfl (by decide) rfl dX5_init_102 ?_
    refine g_sub [1, 0] rfl ?_
    refine lp_X5_init_103 C hr g _ (fun S4 hf => ?_) g (up R0 1 (0 : Int32).toNatClampNeg 1) 0 hf
    refine g_iconst C (v := 0) (by decide) dX5_init_122 ?_
    refine g_istore_n C (lv2 := [(1, .int 0), (0, .ref (ax x 30))]) rfl (by decide) rfl dX5_init_123 ?_
    refine g_sub [1, 0] rfl ?_
    exact lp_X5_init_124 C hr g g S4 0 hf
  have k9 := key (p, l, e, rmX5_init, s, m, [Value.ref h0].toArray, below, meth, c, A, 2, 0 + 1 + 1 + 1 + 1 + 1 + 1 + 1 + 1 + 1 + 1 + 1, 0 + 40 + 40 + 200 + 200 + 40 + 50 + 50 + 12 + 12 + 12 + 12, Q) (xu x h) C9 hr9
  subst hh
  exact k9
